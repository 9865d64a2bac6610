/-! THE START: the tape's maker, and its table of words -/
section STD
variable {G : Hp}
def tby0 (i : Nat) : Int := i2c (iand (((sByt.getD 0 []).getD i 0).toInt) 255)
def wcL : List Nat := [0, 0, 0, 0, 0, 0, 0, 1, 1, 1, 1, 1, 2, 2, 2, 2, 2, 3, 3, 3, 3, 4, 4, 4, 5, 5, 5, 5, 5, 6, 6, 6, 6, 6, 6, 7, 7, 7, 7, 7, 8, 8, 8, 8, 8, 8, 9, 9, 9, 9, 9, 10, 10, 10, 10, 10, 11, 11, 11, 11, 11, 11, 12, 12, 12, 12, 13, 13, 13, 13, 14, 14, 14, 14, 14, 15, 15, 15, 15, 15, 15, 16, 16, 16, 16, 16, 16, 17, 17, 17, 17, 18, 18, 18, 18, 18, 18, 19, 19, 19, 19, 20, 20, 20, 20, 21, 21, 21, 22, 22, 22, 22, 22, 23, 23, 23, 23, 23, 23, 24, 24, 24, 24, 24, 24]
def pwL : List Int := [0, 3, 105, 3378, 108099, 3459180, 110693765, 0, 12, 393, 12595, 403060, 0, 14, 463, 14820, 474245, 0, 11, 357, 11449, 0, 1, 52, 0, 12, 393, 12581, 402611, 0, 2, 69, 2215, 70889, 2268462, 0, 10, 335, 10729, 343342, 0, 12, 389, 12449, 398390, 12748485, 0, 6, 193, 6185, 197932, 0, 20, 649, 20772, 664729, 0, 6, 204, 6549, 209587, 6706792, 0, 6, 201, 6456, 0, 16, 533, 17076, 0, 8, 257, 8238, 263620, 0, 16, 524, 16769, 536617, 17171758, 0, 19, 616, 19727, 631282, 20201044, 0, 19, 616, 19737, 0, 2, 76, 2441, 78126, 2500036, 0, 14, 463, 14836, 0, 1, 46, 1476, 0, 15, 498, 0, 20, 655, 20972, 671108, 0, 23, 744, 23817, 762147, 24388712, 0, 14, 463, 14820, 474245, 15175859]
theorem tst_ok : ∀ i : Fin 124, (0 ≤ tby0 i.val ∧ tby0 i.val ≤ 65535) ∧ wcL.getD i.val 0 < 25 ∧ ((tby0 i.val = 32 ∧ wcL.getD (i.val + 1) 0 = wcL.getD i.val 0 + 1 ∧ pwL.getD (i.val + 1) 0 = 0 ∧ pwL.getD i.val 0 = W32 (wcL.getD i.val 0)) ∨ (tby0 i.val ≠ 32 ∧ wcL.getD (i.val + 1) 0 = wcL.getD i.val 0 ∧ pwL.getD (i.val + 1) 0 = ladd (lmul (pwL.getD i.val 0) 32) (iadd (isub (tby0 i.val) 97) 1))) := by decide +kernel
theorem tst_end : wcL.getD 124 0 = 24 ∧ pwL.getD 124 0 = W32 24 ∧ wcL.getD 0 0 = 0 ∧ pwL.getD 0 0 = 0 := by decide +kernel
theorem len0 : fJ0_length_8abf5 0 G = some (124, G) := by
  have c1 : fJ0_coder_7d493 0 G = some (0, G) := by unfold fJ0_coder_7d493; rw [if_neg (by decide)]; rfl
  unfold fJ0_length_8abf5
  rw [c1, bp_s, show ishr (((sLen.getD 0 0 : Nat) : Int)) 0 = 124 from by decide]; rfl
theorem chr0 {i : Nat} (hi : i < 124) : fJ0_charAt_5068e 0 (i : Int) G = some (tby0 i, G) := by
  have c0 : fJ0_isLatin1_aae02 0 G = some (1, G) := rfl
  have sl : ((sLen.getD 0 0 : Nat) : Int) = 124 := rfl
  have t := (tst_ok ⟨i, hi⟩).1
  simp only at t
  have c2 : fJ1_charAt_3b067 0 (i : Int) G = some (tby0 i, G) := by
    have c3 : fJ0_checkIndex_df160 (i : Int) (((sLen.getD 0 0 : Nat) : Int)) G = some (0, G) := by unfold fJ0_checkIndex_df160; rw [sl, if_pos ⟨by omega, by omega⟩]; rfl
    have c4 : rdS 0 (i : Int) = some (((sByt.getD 0 []).getD i 0).toInt) := by unfold rdS; rw [sl, if_pos ⟨by omega, by omega⟩, Int.toNat_natCast]
    unfold fJ1_charAt_3b067
    rw [c3, bn_s, c4, br_s]
    have e : i2c (iand (((sByt.getD 0 []).getD i 0).toInt) 255) = tby0 i := rfl
    rw [e]
    unfold rch; rw [if_pos t]
  unfold fJ0_charAt_5068e
  rw [c0, bp_s, if_neg (by decide), c2, bn_s]
  unfold rch; rw [if_pos t]
theorem i7_1 : WP (iX7_init 1 2 G) (fun _ G' => (∀ c, c < 1 ∨ 3 < c → G' c = G c) ∧ (∀ c, 1 ≤ c → c ≤ 3 → OKM c G') ∧ (∀ k, 2 ≤ k → G' 1 k = G 1 k) ∧ ∀ i : Nat, i < 25 → G' 3 i = W32 i) := by
  unfold iX7_init
  refine w_na (by decide) ?_
  refine w_bh (fun g1 e1 => ?_)
  refine w_pf rfl ?_
  refine w_bh (fun g4 e4 => ?_)
  refine w_na (by decide) ?_
  refine w_bh (fun g5 e5 => ?_)
  refine w_pf rfl ?_
  refine w_bh (fun g8 e8 => ?_)
  refine w_bd (fun v9 e9 => ?_)
  refine w_bd (fun v10 e10 => ?_)
  rw [rf_1_1]
  have a8 : ∀ k, g8 1 k = if k = 1 then 1 else if k = 0 then 1 else G 1 k := by
    intro k
    rw [e8, up_at, e5, clr_ne (by decide), e4, up_at, e1, clr_ne (by decide)]
    simp only [true_and]
  have z8 : ∀ k, g8 3 k = 0 := fun k => by rw [e8, up_ne (by decide), e5]; rfl
  have te := tst_end
  refine w_lpIIH (fun v11 v12 g => ∃ i : Nat, v12 = i ∧ i ≤ 124 ∧ v11 = ((wcL.getD i 0 : Nat) : Int) ∧ (∀ c, c ≠ 3 → g c = g8 c) ∧ ∀ k : Nat, k < 25 → g 3 k = if k < wcL.getD i 0 then W32 k else if k = wcL.getD i 0 then pwL.getD i 0 else 0) (fun _ v12 _ => (124 - v12).toNat) (fun rc v11 v12 g hI hr => ?_) v9 v10 g8 ⟨0, e10, by omega, by rw [te.2.2.1]; exact e9, fun _ _ => rfl, fun k hk => by rw [te.2.2.1, te.2.2.2, z8, if_neg (by omega)]; split <;> rfl⟩ (by omega)
  obtain ⟨i, h12, hi, h11, f, t⟩ := hI
  refine w_bne len0 (fun v15 g16 e15 e16 => ?_)
  rw [e15, e16]
  refine w_ite (fun c => ?_) (fun c => ?_)
  · have i124 : i < 124 := by omega
    have s := tst_ok ⟨i, i124⟩
    simp only at s
    obtain ⟨-, s2, s3⟩ := s
    refine w_ite (fun c2 => ?_) (fun y => absurd (by omega) y)
    rw [h12]
    refine w_bne (chr0 i124) (fun v17 g18 e17 e18 => ?_)
    rw [e18]
    refine w_bd (fun v19 e19 => ?_)
    rw [e17] at e19
    refine w_jnP (fun K22 hK => ?_)
    rcases s3 with ⟨a1, a2, a3, a4⟩ | ⟨a1, a2, a3⟩
    · refine w_ite (fun _ => ?_) (fun y => absurd (e19.trans a1) y)
      refine w_bd (fun v28 e28 => ?_)
      rw [iadd_id (by omega) (by omega)] at e28
      rw [hK]
      refine w_bd (fun v23 e23 => ?_)
      rw [iadd_id (by omega) (by omega)] at e23
      refine hr v28 v23 g ⟨i + 1, by omega, by omega, by rw [a2]; omega, f, fun k hk => ?_⟩ (by omega)
      rw [t k hk, a2, a3]
      by_cases k1 : k < wcL.getD i 0
      · rw [if_pos k1, if_pos (by omega)]
      · rw [if_neg k1]
        by_cases k2 : k = wcL.getD i 0
        · rw [if_pos k2, if_pos (by omega), a4, k2]
        · rw [if_neg k2, if_neg (by omega)]; split <;> rfl
    · refine w_ite (fun y => absurd (e19.symm.trans y) a1) (fun _ => ?_)
      have y1 : g 1 1 = 1 := by rw [f 1 (by decide), a8]; rfl
      refine w_gr y1 (w_gr y1 ?_)
      refine w_if (by omega) ?_
      refine w_rd (by omega) (by omega) (fun v24 e24 => ?_)
      rw [h11, Int.toNat_natCast, t _ s2, if_neg (by omega), if_pos rfl] at e24
      refine w_if (by omega) ?_
      refine w_wr (by omega) (by omega) (fun g25 e25 => ?_)
      rw [h11, Int.toNat_natCast, e24, e19, ← a3] at e25
      rw [hK]
      refine w_bd (fun v23 e23 => ?_)
      rw [iadd_id (by omega) (by omega)] at e23
      refine hr v11 v23 g25 ⟨i + 1, by omega, by omega, by rw [a2]; exact h11, fun c hc => by rw [e25, up_ne hc, f c hc], fun k hk => ?_⟩ (by omega)
      rw [e25, up_at, a2]
      by_cases k2 : k = wcL.getD i 0
      · rw [if_pos ⟨rfl, k2⟩, if_neg (by omega), if_pos k2]
      · rw [if_neg (fun y => k2 y.2), t k hk, if_neg k2, if_neg k2]
  · obtain rfl : i = 124 := by omega
    refine w_ve ⟨fun c hc => ?_, fun c c1 c2 => ?_, fun k hk => ?_, fun k hk => ?_⟩
    · rw [f c (by omega), e8, up_ne (by omega), e5, clr_ne (by omega), e4, up_ne (by omega), e1, clr_ne (by omega)]
    · by_cases ec : c = 1
      · subst ec
        intro k hp hk
        rw [f 1 (by decide), a8]
        have hk' : k < 9 := hk
        have : k = 0 ∨ k = 1 ∨ k = 2 ∨ k = 3 ∨ k = 4 ∨ k = 5 ∨ k = 6 ∨ k = 7 ∨ k = 8 := by omega
        rcases this with h | h | h | h | h | h | h | h | h <;> subst h
        · rfl
        · rfl
        · exact absurd hp (by decide)
        · exact absurd hp (by decide)
        · exact absurd hp (by decide)
        · exact absurd hp (by decide)
        · exact absurd hp (by decide)
        · exact absurd hp (by decide)
        · exact absurd hp (by decide)
      · have : c = 2 ∨ c = 3 := by omega
        rcases this with h | h <;> subst h <;> exact okm_arr (by decide)
    · rw [f 1 (by decide), a8, if_neg (by omega), if_neg (by omega)]
    · rw [t k hk, te.1, te.2.1]
      by_cases k1 : k < 24
      · rw [if_pos k1]
      · rw [if_neg k1, if_pos (by omega), show k = 24 by omega]
end STD
