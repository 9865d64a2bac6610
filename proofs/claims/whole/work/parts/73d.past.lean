/-! THE START: the maker of what can be undone, and of the tape -/
section STC
variable {G : Hp}
theorem sh_u : ∀ k : Fin 17, kd (46 + 2 * k.val) = 6 ∧ ln (46 + 2 * k.val) = 2 ∧ (kd (46 + 2 * k.val + 1) = 20 ∧ (ln (46 + 2 * k.val + 1) : Int) = 114) ∧ rf (46 + 2 * k.val) 0 = 46 + 2 * k.val + 1 ∧ rf 45 k.val = 46 + 2 * k.val := by decide +kernel
theorem sh_m : ∀ k : Fin 4, kd (83 + 7 * k.val) = 6 ∧ ln (83 + 7 * k.val) = 2 ∧ (kd (83 + 7 * k.val + 1) = 20 ∧ (ln (83 + 7 * k.val + 1) : Int) = 114) ∧ rf (83 + 7 * k.val) 0 = 83 + 7 * k.val + 1 ∧ rf 80 k.val = 83 + 7 * k.val ∧ rf 81 k.val = 83 + 7 * k.val + 2 := by decide +kernel
theorem sh_s : ∀ k : Fin 4, (kd (83 + 7 * k.val + 2 + 1) = 20 ∧ (ln (83 + 7 * k.val + 2 + 1) : Int) = 8) ∧ (kd (83 + 7 * k.val + 2 + 2) = 20 ∧ (ln (83 + 7 * k.val + 2 + 2) : Int) = 8) ∧ (kd (83 + 7 * k.val + 2 + 3) = 23 ∧ (ln (83 + 7 * k.val + 2 + 3) : Int) = 8) ∧ (kd (83 + 7 * k.val + 2 + 4) = 20 ∧ (ln (83 + 7 * k.val + 2 + 4) : Int) = 22) ∧ rf (83 + 7 * k.val + 2) 0 = 83 + 7 * k.val + 2 + 1 ∧ rf (83 + 7 * k.val + 2) 1 = 83 + 7 * k.val + 2 + 2 ∧ rf (83 + 7 * k.val + 2) 2 = 83 + 7 * k.val + 2 + 3 ∧ rf (83 + 7 * k.val + 2) 3 = 83 + 7 * k.val + 2 + 4 ∧ kd (83 + 7 * k.val + 2) = 5 ∧ ln (83 + 7 * k.val + 2) = 5 := by decide +kernel
theorem i3_44 : WP (iX3_init 44 45 G) (fun _ G' => (∀ c, c < 44 ∨ 110 < c → G' c = G c) ∧ (∀ c, 44 ≤ c → c ≤ 110 → OKM c G') ∧ G' 44 4 = G 44 4 ∧ G' 44 5 = G 44 5 ∧ (∀ i, G' 82 i = 0) ∧ ∀ m, m < 4 → ∀ i, G' (88 + 7 * m) i = 0) := by
  unfold iX3_init
  refine w_na (by decide) ?_
  refine w_bh (fun g1 e1 => ?_)
  refine w_pf rfl ?_
  refine w_bh (fun g4 e4 => ?_)
  refine w_bd (fun v5 e5 => ?_)
  have r0 : rf 44 0 = 45 := rfl
  have r1 : rf 44 1 = 80 := rfl
  have r2 : rf 44 2 = 81 := rfl
  rw [r0, r1, r2]
  refine w_lpIHN (fun v g n8 => ∃ k : Nat, v = k ∧ k ≤ 17 ∧ n8 = 46 + 2 * k ∧ (∀ c, c ≠ 45 → c < 46 ∨ 46 + 2 * k ≤ c → g c = g4 c) ∧ (∀ i, i < k → g 45 i = 1) ∧ ∀ c, 46 ≤ c → c < 46 + 2 * k → OKM c g) (fun v _ _ => (17 - v).toNat) (fun rc v g n8 hI hr => ?_) v5 g4 46 ⟨0, e5, by omega, rfl, fun _ _ _ => rfl, fun i hi => absurd hi (Nat.not_lt_zero i), fun c a b => by omega⟩ (by omega)
  obtain ⟨k, hv, hk, hn, f, m, o⟩ := hI
  subst hn
  refine w_if (by omega) ?_
  have z0 : g 44 0 = 1 := by rw [f 44 (by decide) (by omega), e4, up_at, if_pos ⟨rfl, rfl⟩]
  refine w_ite (fun c => ?_) (fun c => ?_)
  · have s := sh_u ⟨k, by omega⟩
    simp only at s
    obtain ⟨s1, s2, s3, s4, s5⟩ := s
    refine w_gr z0 ?_
    refine w_if (by omega) ?_
    refine w_no s1 ?_
    refine w_bh (fun g44 e44 => ?_)
    refine w_bn (i6 (q := 46 + 2 * k) s3 s4 s1 s2) (fun _ g46 q46 => ?_)
    obtain ⟨f46, -, -, a46, b46⟩ := q46
    refine w_if (by omega) ?_
    refine w_aa ⟨⟨by omega, by omega⟩, by rw [hv, Int.toNat_natCast]; exact s5⟩ ?_
    refine w_bh (fun g47 e47 => ?_)
    rw [hv, Int.toNat_natCast] at e47
    refine w_bd (fun v48 e48 => ?_)
    rw [iadd_id (by omega) (by omega)] at e48
    have kp : ∀ c, c ≠ 45 → c ≠ 46 + 2 * k → c ≠ 46 + 2 * k + 1 → g47 c = g c := fun c a b d => by rw [e47, up_ne a, f46 c b d, e44, clr_ne b]
    refine hr v48 g47 (46 + 2 * k + 2) ⟨k + 1, by omega, by omega, by omega, fun c a b => by rw [kp c a (by omega) (by omega), f c a (by omega)], fun i hi => ?_, fun c a b => ?_⟩ (by omega)
    · rw [e47, up_at]
      by_cases ei : i = k
      · rw [if_pos ⟨rfl, ei⟩]
      · rw [if_neg (fun y => ei y.2), f46 45 (by omega) (by omega), e44, clr_ne (by omega)]; exact m i (by omega)
    · by_cases c1 : c = 46 + 2 * k
      · subst c1; exact a46.fr (by rw [e47, up_ne (by omega)])
      · by_cases c2 : c = 46 + 2 * k + 1
        · subst c2; exact b46.fr (by rw [e47, up_ne (by omega)])
        · exact (o c a (by omega)).fr (kp c (by omega) c1 c2)
  obtain rfl : k = 17 := by omega
  clear hr
  refine w_if (by omega) ?_
  refine w_na (by decide) ?_
  refine w_bh (fun g10 e10 => ?_)
  refine w_pf rfl ?_
  refine w_bh (fun g13 e13 => ?_)
  refine w_if (by omega) ?_
  refine w_na (by decide) ?_
  refine w_bh (fun g14 e14 => ?_)
  refine w_pf rfl ?_
  refine w_bh (fun g17 e17 => ?_)
  refine w_if (by omega) ?_
  refine w_na (by decide) ?_
  refine w_bh (fun g18 e18 => ?_)
  refine w_pf rfl ?_
  refine w_bh (fun g21 e21 => ?_)
  refine w_bd (fun v22 e22 => ?_)
  have k21 : ∀ c, c ≠ 44 → c ≠ 80 → c ≠ 81 → c ≠ 82 → g21 c = g c := fun c a b d e => by rw [e21, up_ne a, e18, clr_ne e, e17, up_ne a, e14, clr_ne d, e13, up_ne a, e10, clr_ne b]
  have a21 : ∀ i, g21 44 i = if i = 3 then 1 else if i = 2 then 1 else if i = 1 then 1 else g 44 i := by
    intro i
    rw [e21, up_at, e18, clr_ne (by decide), e17, up_at, e14, clr_ne (by decide), e13, up_at, e10, clr_ne (by decide)]
    simp only [true_and]
  have z82 : ∀ i, g21 82 i = 0 := fun i => by rw [e21, up_ne (by decide), e18, clr_self]
  refine w_lpIHN (fun v h n25 => ∃ k : Nat, v = k ∧ k ≤ 4 ∧ n25 = 83 + 7 * k ∧ (∀ c, c ≠ 80 → c ≠ 81 → c < 83 ∨ 83 + 7 * k ≤ c → h c = g21 c) ∧ (∀ i, i < k → h 80 i = 1 ∧ h 81 i = 1 ∧ ∀ j, h (88 + 7 * i) j = 0) ∧ ∀ c, 83 ≤ c → c < 83 + 7 * k → OKM c h) (fun v _ _ => (4 - v).toNat) (fun rc v h n25 hI hr => ?_) v22 g21 (46 + 2 * 17 + 3) ⟨0, e22, by omega, rfl, fun _ _ _ _ => rfl, fun i hi => absurd hi (Nat.not_lt_zero i), fun c a b => by omega⟩ (by omega)
  obtain ⟨k, hv2, hk2, hn2, f2, m2, o2⟩ := hI
  subst hn2
  refine w_if (by omega) ?_
  have y1 : h 44 1 = 1 := by rw [f2 44 (by decide) (by decide) (by omega), a21]; rfl
  have y2 : h 44 2 = 1 := by rw [f2 44 (by decide) (by decide) (by omega), a21]; rfl
  refine w_ite (fun c => ?_) (fun c => ?_)
  · have s := sh_m ⟨k, by omega⟩
    have t := sh_s ⟨k, by omega⟩
    simp only at s t
    obtain ⟨s1, s2, s3, s4, s5, s6⟩ := s
    obtain ⟨t1, t2, t3, t4, t5, t6, t7, t8, t9, t10⟩ := t
    refine w_gr y1 ?_
    refine w_if (by omega) ?_
    refine w_no s1 ?_
    refine w_bh (fun g27 e27 => ?_)
    refine w_bn (i6 (q := 83 + 7 * k) s3 s4 s1 s2) (fun _ g29 q29 => ?_)
    obtain ⟨f29, -, -, a29, b29⟩ := q29
    refine w_if (by omega) ?_
    refine w_aa ⟨⟨by omega, by omega⟩, by rw [hv2, Int.toNat_natCast]; exact s5⟩ ?_
    refine w_bh (fun g30 e30 => ?_)
    rw [hv2, Int.toNat_natCast] at e30
    have k30 : ∀ c, c ≠ 80 → c ≠ 83 + 7 * k → c ≠ 83 + 7 * k + 1 → g30 c = h c := fun c a b d => by rw [e30, up_ne a, f29 c b d, e27, clr_ne b]
    refine w_gr (by rw [k30 44 (by decide) (by omega) (by omega)]; exact y2) ?_
    refine w_if (by omega) ?_
    refine w_no t9 ?_
    refine w_bh (fun g31 e31 => ?_)
    refine w_bn (i5 (q := 83 + 7 * k + 2) t1 t2 t3 t4 t5 t6 t7 t8 t9 t10) (fun _ g33 q33 => ?_)
    obtain ⟨f33, -, z33, o33⟩ := q33
    refine w_if (by omega) ?_
    refine w_aa ⟨⟨by omega, by omega⟩, by rw [hv2, Int.toNat_natCast]; exact s6⟩ ?_
    refine w_bh (fun g34 e34 => ?_)
    rw [hv2, Int.toNat_natCast] at e34
    refine w_bd (fun v35 e35 => ?_)
    rw [iadd_id (by omega) (by omega)] at e35
    have k34 : ∀ c, c ≠ 81 → c < 83 + 7 * k + 2 ∨ 83 + 7 * k + 6 < c → g34 c = g30 c := fun c a b => by rw [e34, up_ne a, f33 c (by omega), e31, clr_ne (by omega)]
    refine hr v35 g34 (83 + 7 * k + 7) ⟨k + 1, by omega, by omega, by omega, fun c a b d => by rw [k34 c b (by omega), k30 c a (by omega) (by omega), f2 c a b (by omega)], fun i hi => ⟨?_, ?_, fun j => ?_⟩, fun c a b => ?_⟩ (by omega)
    · rw [k34 80 (by decide) (by omega), e30, up_at]
      by_cases ei : i = k
      · rw [if_pos ⟨rfl, ei⟩]
      · rw [if_neg (fun y => ei y.2), f29 80 (by omega) (by omega), e27, clr_ne (by omega)]; exact (m2 i (by omega)).1
    · rw [e34, up_at]
      by_cases ei : i = k
      · rw [if_pos ⟨rfl, ei⟩]
      · rw [if_neg (fun y => ei y.2), f33 81 (by omega), e31, clr_ne (by omega), k30 81 (by decide) (by omega) (by omega)]; exact (m2 i (by omega)).2.1
    · by_cases ei : i = k
      · subst ei
        rw [e34, up_ne (by omega), show 88 + 7 * i = 83 + 7 * i + 2 + 3 by omega]; exact z33 j
      · rw [k34 (88 + 7 * i) (by omega) (by omega), k30 (88 + 7 * i) (by omega) (by omega) (by omega)]; exact (m2 i (by omega)).2.2 j
    · by_cases c1 : c = 83 + 7 * k
      · subst c1; exact a29.fr (by rw [k34 _ (by omega) (by omega), e30, up_ne (by omega)])
      · by_cases c2 : c = 83 + 7 * k + 1
        · subst c2; exact b29.fr (by rw [k34 _ (by omega) (by omega), e30, up_ne (by omega)])
        · by_cases c3 : c < 83 + 7 * k
          · exact (o2 c a c3).fr (by rw [k34 c (by omega) (by omega), k30 c (by omega) c1 c2])
          · exact (o33 c (by omega) (by omega)).fr (by rw [e34, up_ne (by omega)])
  obtain rfl : k = 4 := by omega
  refine w_ve ⟨fun c hc => ?_, fun c c1 c2 => ?_, ?_, ?_, fun i => ?_, fun m hm i => (m2 m hm).2.2 i⟩
  · rw [f2 c (by omega) (by omega) (by omega), k21 c (by omega) (by omega) (by omega) (by omega), f c (by omega) (by omega), e4, up_ne (by omega), e1, clr_ne (by omega)]
  · by_cases d1 : 83 ≤ c
    · exact o2 c d1 (by omega)
    · by_cases d2 : 46 ≤ c ∧ c < 80
      · exact (o c d2.1 d2.2).fr (by rw [f2 c (by omega) (by omega) (by omega), k21 c (by omega) (by omega) (by omega) (by omega)])
      · have : c = 44 ∨ c = 45 ∨ c = 80 ∨ c = 81 ∨ c = 82 := by omega
        rcases this with d | d | d | d | d <;> subst d
        · intro j hp hj
          rw [f2 44 (by decide) (by decide) (by omega), a21]
          have hj' : j < 6 := hj
          have : j = 0 ∨ j = 1 ∨ j = 2 ∨ j = 3 ∨ j = 4 ∨ j = 5 := by omega
          rcases this with e | e | e | e | e | e <;> subst e
          · exact z0
          · rfl
          · rfl
          · rfl
          · exact absurd hp (by decide)
          · exact absurd hp (by decide)
        · intro j hp hj
          have hj' : j < 17 := hj
          rw [f2 45 (by decide) (by decide) (by omega), k21 45 (by decide) (by decide) (by decide) (by decide)]; exact m j hj'
        · intro j hp hj
          have hj' : j < 4 := hj
          exact (m2 j hj').1
        · intro j hp hj
          have hj' : j < 4 := hj
          exact (m2 j hj').2.1
        · exact okm_arr (by decide)
  · rw [f2 44 (by decide) (by decide) (by omega), a21]
    show g 44 4 = G 44 4
    rw [f 44 (by decide) (by omega), e4, up_at, if_neg (by decide), e1, clr_ne (by decide)]
  · rw [f2 44 (by decide) (by decide) (by omega), a21]
    show g 44 5 = G 44 5
    rw [f 44 (by decide) (by omega), e4, up_at, if_neg (by decide), e1, clr_ne (by decide)]
  · rw [f2 82 (by decide) (by decide) (by omega)]; exact z82 i
end STC
