/-! THE LAW: what the reference's code comes to; remainders -/
section LAWW
variable {S : TS} {G : Hp} {F : Int → Int}
theorem o32_sm {b : Int} (h1 : 1 ≤ b) (h2 : b ≤ 256) : (Int32.ofInt b).toInt = b := Int32.toInt_ofInt_of_le (by omega) (by omega)
theorem b_ne {b : Int} (h1 : 1 ≤ b) (h2 : b ≤ 256) : Int32.ofInt b ≠ -1 := by
  intro h
  have e := congrArg Int32.toInt h
  rw [o32_sm h1 h2] at e
  have : (-1 : Int32).toInt = -1 := by decide
  omega
theorem idiv_A {a b : Int} (h1 : 1 ≤ b) (h2 : b ≤ 256) : idiv a b = (Int32.ofInt a).toInt.tdiv b := by
  unfold idiv
  rw [Int32.toInt_div_of_ne_right _ _ (b_ne h1 h2), o32_sm h1 h2]
theorem irem_A {a b : Int} (h1 : 1 ≤ b) (h2 : b ≤ 256) : irem a b = (Int32.ofInt a).toInt.tmod b := by
  unfold irem
  have hq : (Int32.ofInt a / Int32.ofInt b).toInt = (Int32.ofInt a).toInt.tdiv b := by rw [Int32.toInt_div_of_ne_right _ _ (b_ne h1 h2), o32_sm h1 h2]
  have l1 := Int32.toInt_lt (Int32.ofInt a)
  have l2 := Int32.le_toInt (Int32.ofInt a)
  rw [Int32.toInt_sub, Int32.toInt_mul, hq, o32_sm h1 h2]
  generalize (Int32.ofInt a).toInt = x at *
  have e := Int.tmod_add_tdiv_mul x b
  have k : -2147483648 ≤ x.tdiv b * b ∧ x.tdiv b * b < 2147483648 ∧ -2147483648 ≤ x.tmod b ∧ x.tmod b < 2147483648 := by
    rcases Int.le_total 0 x with c | c
    · have a1 := Int.tmod_nonneg b c
      have a2 : x.tmod b < b := Int.tmod_lt_of_pos x (by omega)
      have a3 : 0 ≤ x.tdiv b * b := Int.mul_nonneg (Int.tdiv_nonneg c (by omega)) (by omega)
      omega
    · have a1 := Int.tmod_nonneg b (a := -x) (by omega)
      have a2 : (-x).tmod b < b := Int.tmod_lt_of_pos (-x) (by omega)
      have a3 : 0 ≤ (-x).tdiv b * b := Int.mul_nonneg (Int.tdiv_nonneg (by omega) (by omega)) (by omega)
      rw [Int.neg_tmod] at a1 a2
      rw [Int.neg_tdiv, Int.neg_mul] at a3
      omega
  rw [Int.bmod_eq_of_le (n := x.tdiv b * b) (by omega) (by omega), show x - x.tdiv b * b = x.tmod b by omega, Int.bmod_eq_of_le (by omega) (by omega)]
theorem o32_c {c : Int} (h1 : 0 ≤ c) (h2 : c ≤ 160000) : (Int32.ofInt c).toInt = c := Int32.toInt_ofInt_of_le (by omega) (by omega)
theorem irem_c {c : Int} (h1 : 0 ≤ c) (h2 : c ≤ 160000) : irem c 16 = c % 16 := by
  rw [irem_A (by decide) (by decide), o32_c h1 h2, Int.tmod_eq_emod_of_nonneg h1]
theorem idiv_c {c : Int} (h1 : 0 ≤ c) (h2 : c ≤ 160000) : idiv c 16 = c / 16 := by
  rw [idiv_A (by decide) (by decide), o32_c h1 h2, Int.tdiv_eq_ediv_of_nonneg h1]
/-- a remainder that is not negative -/
def fmd (v C : Int) : Int := if irem v C < 0 then irem v C + C else irem v C
theorem irem_s {v C : Int} (h1 : 1 ≤ C) (h2 : C ≤ 256) : ((Int32.ofInt v).toInt < 0 → -C < irem v C ∧ irem v C ≤ 0) ∧ (¬ (Int32.ofInt v).toInt < 0 → 0 ≤ irem v C ∧ irem v C < C) := by
  rw [irem_A h1 h2]
  generalize (Int32.ofInt v).toInt = x
  constructor
  · intro c
    have a1 := Int.tmod_nonneg C (a := -x) (by omega)
    have a2 : (-x).tmod C < C := Int.tmod_lt_of_pos (-x) (by omega)
    rw [Int.neg_tmod] at a1 a2
    omega
  · intro c
    exact ⟨Int.tmod_nonneg C (by omega), Int.tmod_lt_of_pos x (by omega)⟩
theorem fmd_r {v C : Int} (h1 : 1 ≤ C) (h2 : C ≤ 256) : 0 ≤ fmd v C ∧ fmd v C < C := by
  have s := irem_s (v := v) h1 h2
  unfold fmd
  by_cases c : (Int32.ofInt v).toInt < 0
  · have := s.1 c; split <;> omega
  · have := s.2 c; split <;> omega
theorem ixor_s {v C : Int} (h1 : 1 ≤ C) (h2 : C ≤ 256) : ixor v C < 0 ↔ (Int32.ofInt v).toInt < 0 := by
  have hm : ∀ z : Int32, z.toInt < 0 ↔ z.toBitVec.msb = true := by
    intro z
    have := BitVec.msb_eq_toInt (x := z.toBitVec)
    rw [this, decide_eq_true_iff]; rfl
  have hC : (Int32.ofInt C).toBitVec.msb = false := by
    have := BitVec.msb_eq_toInt (x := (Int32.ofInt C).toBitVec)
    rw [this, decide_eq_false_iff_not]
    show ¬ (Int32.ofInt C).toInt < 0
    rw [o32_sm h1 h2]; omega
  unfold ixor
  rw [hm, hm, Int32.toBitVec_xor, BitVec.msb_xor, hC, Bool.xor_false]
theorem x_fmod {v C : Int} (h1 : 1 ≤ C) (h2 : C ≤ 256) : fJ9_floorMod_7cf53 v C G = some (fmd v C, G) := by
  have s := irem_s (v := v) h1 h2
  unfold fJ9_floorMod_7cf53 fmd
  rw [nz_in (by omega), bd_s]
  by_cases c : ixor v C < 0
  · rw [if_pos c]
    have a := s.1 ((ixor_s h1 h2).mp c)
    by_cases d : irem v C = 0
    · rw [if_pos d, d, if_neg (by decide)]; rfl
    · rw [if_neg d, if_pos (by omega), iadd_id (by omega) (by omega)]; rfl
  · rw [if_neg c]
    have a := s.2 (fun z => c ((ixor_s h1 h2).mpr z))
    rw [if_neg (by omega)]; rfl
/-- the pile -/
def PLh : List Int → (Nat → Int) → Prop
  | [], _ => True
  | x :: t, p => p t.length = x ∧ PLh t p
theorem PLh.fr {p p' : Nat → Int} : ∀ {st : List Int}, PLh st p → (∀ i, i < st.length → p' i = p i) → PLh st p'
  | [], _, _ => trivial
  | x :: t, h, e => ⟨(e t.length (by rw [List.length_cons]; omega)).trans h.1, PLh.fr h.2 (fun i hi => e i (by rw [List.length_cons]; omega))⟩
theorem m_worked {c a b : Int} (h1 : 4 ≤ c) (h2 : c ≤ 10) : fX12_worked c a b G = some (wkd c a b, G) := by
  unfold fX12_worked wkd
  by_cases c4 : c = 4
  · rw [if_pos c4, if_pos c4]; rfl
  rw [if_neg c4, if_neg c4]
  by_cases c5 : c = 5
  · rw [if_pos c5, if_pos c5]; rfl
  rw [if_neg c5, if_neg c5]
  by_cases c6 : c = 6
  · rw [if_pos c6, if_pos c6]; rfl
  rw [if_neg c6, if_neg c6]
  by_cases c7 : c = 7
  · rw [if_pos c7, if_pos c7]; split <;> rfl
  rw [if_neg c7, if_neg c7]
  by_cases c8 : c = 8
  · rw [if_pos c8, if_pos c8]; split <;> rfl
  rw [if_neg c8, if_neg c8]
  by_cases c9 : c = 9
  · rw [if_pos c9, if_pos c9]
    by_cases e : a = 0
    · rw [if_pos e, if_neg (fun q => q.1 e)]; rfl
    · rw [if_neg e]
      by_cases f : b = 0
      · rw [if_pos f, if_neg (fun q => q.2 f)]; rfl
      · rw [if_neg f, if_pos ⟨e, f⟩]; rfl
  rw [if_neg c9, if_neg c9, jn_s]
  by_cases e : a = 0
  · rw [if_pos e]
    by_cases f : b = 0
    · rw [if_pos f, if_neg (by omega)]; rfl
    · rw [if_neg f, if_pos (Or.inr f)]; rfl
  · rw [if_neg e, if_pos (Or.inl e)]; rfl
theorem drop_c : ∀ (L : List Int) (k : Nat), k < L.length → L.drop k = L.getD k 0 :: L.drop (k + 1)
  | [], k, h => absurd h (Nat.not_lt_zero k)
  | x :: L, 0, _ => rfl
  | x :: L, k + 1, h => by
    show L.drop k = L.getD k 0 :: L.drop (k + 1)
    exact drop_c L k (by rw [List.length_cons] at h; omega)
theorem m_worth {L : List Int} {v : Int} (hl : L.length ≤ 1000) (hc : ∀ i, i < L.length → G 118 i = L.getD i 0) (hz : G 118 L.length = 0) (hF : ∀ i : Int, 0 ≤ i → i < 4 → G 121 i.toNat = F i) (hv : VL F L v) (hs : sf F L []) : WP (fX12_worthAt 111 0 G) (fun r G' => r = v ∧ ∀ c, c ≠ 122 → G' c = G c) := by
  unfold fX12_worthAt
  rw [rf_111_11, rf_111_15, rf_111_16]
  refine w_bd (fun v1 e1 => ?_)
  refine w_bd (fun v2 e2 => ?_)
  refine w_lpIIH (fun v3 v4 g => ∃ (k : Nat) (st : List Int), k ≤ L.length ∧ v4 = k ∧ v3 = st.length ∧ st.length ≤ 64 ∧ PLh st (g 122) ∧ (∀ c, c ≠ 122 → g c = G c) ∧ run F (L.drop k) st = [v] ∧ sf F (L.drop k) st) (fun _ v4 _ => (L.length - v4).toNat) (fun rc v3 v4 g hI hr => ?_) v1 v2 G ⟨0, [], by omega, e2, e1, by rw [List.length_nil]; omega, trivial, fun _ _ => rfl, hv [], hs⟩ (by omega)
  obtain ⟨k, st, kl, h4, h3, h64, pl, fr, rn, sfk⟩ := hI
  have g118 := fr 118 (by decide)
  have g121 := fr 121 (by decide)
  have kt : v4.toNat = k := by omega
  refine w_rd (by omega) (by omega) (fun v7 e7 => ?_)
  rw [kt, g118] at e7
  refine w_nz (by decide) ?_
  rcases Nat.lt_or_ge k L.length with c | c
  · rw [drop_c L k c] at rn sfk
    obtain ⟨cc, hcc⟩ : ∃ cc, cc = L.getD k 0 := ⟨_, rfl⟩
    rw [hc k c, ← hcc] at e7
    rw [← hcc] at rn sfk
    obtain ⟨⟨s0, s1, s2⟩, sfr⟩ := sfk
    have rn' : run F (L.drop (k + 1)) (op1 F cc st) = [v] := rn
    have ir : irem cc 16 = cc % 16 := irem_c s0 s1
    have id : idiv cc 16 = cc / 16 := idiv_c s0 s1
    rw [e7, ir]
    refine w_ite (fun z => by omega) (fun z => ?_)
    refine w_rd (by omega) (by omega) (fun v9 e9 => ?_)
    rw [kt, g118, hc k c, ← hcc] at e9
    have e9' : v9 = cc := e9
    refine w_nz (by decide) ?_
    rw [e9', ir]
    refine w_bd (fun v10 e10 => ?_)
    refine w_jnP (fun K13 hK => ?_)
    have kk : ∀ (st' : List Int) (u : Int) (g' : Hp), op1 F cc st = st' → (u = st'.length ∧ st'.length ≤ 64) → PLh st' (g' 122) → (∀ c, c ≠ 122 → g' c = G c) → WP (K13 u g') (fun r G' => r = v ∧ ∀ c, c ≠ 122 → G' c = G c) := by
      intro st' u g' o1 o2 o3 o4
      rw [hK]
      refine w_bd (fun v14 e14 => ?_)
      rw [iadd_id (by omega) (by omega)] at e14
      refine hr u v14 g' ⟨k + 1, st', by omega, by omega, o2.1, o2.2, o3, o4, by rw [← o1]; exact rn', by rw [← o1]; exact sfr⟩ (by omega)
    refine w_jnP (fun K15 hK15 => ?_)
    have push : ∀ x : Int, op1 F cc st = x :: st → st.length < 64 → WP (bs (wr g 122 64 v3 x) fun G18 => bd (iadd v3 1) fun v19 => K13 v19 G18) (fun r G' => r = v ∧ ∀ c, c ≠ 122 → G' c = G c) := by
      intro x ox hx
      refine w_wr (by omega) (by omega) (fun u q => ?_)
      rw [h3, Int.toNat_natCast] at q
      refine w_bd (fun v19 e19 => ?_)
      rw [h3, iadd_id (by omega) (by omega)] at e19
      refine kk (x :: st) v19 u ox ⟨by rw [List.length_cons]; omega, by rw [List.length_cons]; omega⟩ ⟨?_, ?_⟩ (fun c hc => ?_)
      · rw [q, up_at, if_pos ⟨rfl, rfl⟩]
      · exact pl.fr (fun i hi => by rw [q, up_at, if_neg (by omega)])
      · rw [← fr c hc, q]; funext i; rw [up_at, if_neg (by omega)]
    rcases s2 with ⟨t1, t2⟩ | ⟨t1, t2, t3⟩ | ⟨t1, t2⟩ | ⟨t1, t2, t3⟩
    · refine w_ite (fun _ => ?_) (fun z => by omega)
      rw [hK15]
      refine w_jnP (fun K17 hK17 => ?_)
      refine w_ite (fun _ => ?_) (fun z => by omega)
      refine w_rd (by omega) (by omega) (fun v22 e22 => ?_)
      rw [kt, g118, hc k c] at e22
      refine w_nz (by decide) ?_
      have e22' : v22 = cc := by rw [e22, hcc]
      rw [e22', id, hK17]
      exact push _ (by unfold op1; rw [if_pos t1]) t2
    · refine w_ite (fun z => by omega) (fun _ => ?_)
      refine w_ite (fun _ => ?_) (fun z => by omega)
      rw [hK15]
      refine w_jnP (fun K17 hK17 => ?_)
      refine w_ite (fun z => by omega) (fun _ => ?_)
      refine w_rd (by omega) (by omega) (fun v20 e20 => ?_)
      rw [kt, g118, hc k c] at e20
      refine w_nz (by decide) ?_
      have e20' : v20 = cc := by rw [e20, hcc]
      rw [e20', id]
      refine w_rd (by omega) (by omega) (fun v21 e21 => ?_)
      rw [g121, hF _ (by omega) (by omega)] at e21
      rw [e21, hK17]
      exact push _ (by unfold op1; rw [if_neg (by omega), if_pos t1]) t3
    · refine w_ite (fun z => by omega) (fun _ => ?_)
      refine w_ite (fun z => by omega) (fun _ => ?_)
      refine w_ite (fun _ => ?_) (fun z => by omega)
      match st, t2, pl, h3, h64, kk with
      | x :: t, t2, pl, h3, h64, kk =>
        rw [List.length_cons] at h3 h64
        rw [isub_id (by omega) (by omega)]
        refine w_rd (by omega) (by omega) (fun v28 e28 => ?_)
        have ti : (v3 - 1).toNat = t.length := by omega
        rw [ti, pl.1] at e28
        refine w_jnK (fun v29 h29 => ?_)
        refine w_wr (by omega) (by omega) (fun u q => ?_)
        rw [ti] at q
        refine kk ((if x = 0 then 1 else 0) :: t) v3 u (by unfold op1; rw [if_neg (by omega), if_neg (by omega), if_pos t1]; rfl) ⟨by rw [List.length_cons]; exact h3, by rw [List.length_cons]; omega⟩ ⟨?_, ?_⟩ (fun c hc => ?_)
        · rw [q, up_at, if_pos ⟨rfl, rfl⟩]
          rcases h29 with ⟨y1, y2⟩ | ⟨y1, y2⟩
          · rw [if_pos (by omega), y2]
          · rw [if_neg (by omega), y2]
        · exact pl.2.fr (fun i hi => by rw [q, up_at, if_neg (by omega)])
        · rw [← fr c hc, q]; funext i; rw [up_at, if_neg (by omega)]
    · refine w_ite (fun z => by omega) (fun _ => ?_)
      refine w_ite (fun z => by omega) (fun _ => ?_)
      refine w_ite (fun z => by omega) (fun _ => ?_)
      match st, t3, pl, h3, h64, kk with
      | y :: x :: t, t3, pl, h3, h64, kk =>
        rw [List.length_cons, List.length_cons] at h3 h64
        refine w_bd (fun v23 e23 => ?_)
        rw [iadd_id (by omega) (by omega)] at e23
        rw [isub_id (by omega) (by omega)]
        refine w_rd (by omega) (by omega) (fun v24 e24 => ?_)
        have ti : (v23 - 1).toNat = t.length := by omega
        rw [ti, pl.2.1] at e24
        refine w_rd (by omega) (by omega) (fun v25 e25 => ?_)
        have ti2 : v23.toNat = (x :: t).length := by rw [List.length_cons]; omega
        rw [ti2, pl.1] at e25
        rw [e10, m_worked t1 t2, bp_s]
        refine w_wr (by omega) (by omega) (fun u q => ?_)
        rw [ti] at q
        refine kk (wkd (cc % 16) x y :: t) v23 u (by unfold op1; rw [if_neg (by omega), if_neg (by omega), if_neg (by omega)]; rfl) ⟨by rw [List.length_cons]; omega, by rw [List.length_cons]; omega⟩ ⟨?_, ?_⟩ (fun c hc => ?_)
        · rw [q, up_at, if_pos ⟨rfl, rfl⟩, e24, e25]
        · exact pl.2.2.fr (fun i hi => by rw [q, up_at, if_neg (by omega)])
        · rw [← fr c hc, q]; funext i; rw [up_at, if_neg (by omega)]
  · have ke : k = L.length := by omega
    rw [ke, hz] at e7
    rw [e7]
    have z0 : irem 0 16 = 0 := by decide
    refine w_ite (fun _ => ?_) (fun z => absurd z0 z)
    refine w_rd (by decide) (by decide) (fun v8 e8 => w_rt ⟨?_, fr⟩)
    rw [List.drop_eq_nil_of_le (by omega)] at rn
    have rn' : st = [v] := rn
    rw [rn'] at pl
    rw [e8]; exact pl.1
end LAWW
