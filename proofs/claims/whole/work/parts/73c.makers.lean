/-! THE START: makers of one object -/
section STB
variable {G : Hp}
theorem i8_4 : WP (iX8_init 4 5 G) (fun _ G' => (∀ c, c < 4 ∨ 10 < c → G' c = G c) ∧ (∀ c, 4 ≤ c → c ≤ 10 → OKM c G') ∧ G' 4 0 = G 4 0 ∧ G' 4 1 = 2 ∧ G' 4 2 = G 4 2 ∧ G' 4 3 = G 4 3) := by
  unfold iX8_init
  refine w_bh (fun g1 e1 => ?_)
  refine w_na (by decide) ?_
  refine w_bh (fun g2 e2 => ?_)
  refine w_pf rfl ?_
  refine w_bh (fun g3 e3 => ?_)
  refine w_na (by decide) ?_
  refine w_bh (fun g4 e4 => ?_)
  refine w_pf rfl ?_
  refine w_bh (fun g5 e5 => ?_)
  refine w_na (by decide) ?_
  refine w_bh (fun g6 e6 => ?_)
  refine w_pf rfl ?_
  refine w_bh (fun g7 e7 => ?_)
  refine w_na (by decide) ?_
  refine w_bh (fun g8 e8 => ?_)
  refine w_pf rfl ?_
  refine w_bh (fun g9 e9 => ?_)
  refine w_na (by decide) ?_
  refine w_bh (fun g10 e10 => ?_)
  refine w_pf rfl ?_
  refine w_bh (fun g11 e11 => ?_)
  refine w_na (by decide) ?_
  refine w_bh (fun g12 e12 => ?_)
  refine w_pf rfl ?_
  refine w_bh (fun g13 e13 => ?_)
  have aq : ∀ k, g13 4 k = if k = 9 then 1 else if k = 8 then 1 else if k = 7 then 1 else if k = 6 then 1 else if k = 5 then 1 else if k = 4 then 1 else if k = 1 then 2 else G 4 k := by
    intro k
    rw [e13, up_at, e12, clr_ne (by omega), e11, up_at, e10, clr_ne (by omega), e9, up_at, e8, clr_ne (by omega), e7, up_at, e6, clr_ne (by omega), e5, up_at, e4, clr_ne (by omega), e3, up_at, e2, clr_ne (by omega), e1, up_at]
    simp only [true_and]
  refine w_ve ⟨fun c hc => ?_, fun c c1 c2 => ?_, ?_, ?_, ?_, ?_⟩
  · rw [e13, up_ne (by omega), e12, clr_ne (by omega), e11, up_ne (by omega), e10, clr_ne (by omega), e9, up_ne (by omega), e8, clr_ne (by omega), e7, up_ne (by omega), e6, clr_ne (by omega), e5, up_ne (by omega), e4, clr_ne (by omega), e3, up_ne (by omega), e2, clr_ne (by omega), e1, up_ne (by omega)]
  · by_cases ec : c = 4
    · subst ec
      intro k hp hk
      rw [aq]
      have hk' : k < 10 := hk
      have : k = 0 ∨ k = 1 ∨ k = 2 ∨ k = 3 ∨ k = 4 ∨ k = 5 ∨ k = 6 ∨ k = 7 ∨ k = 8 ∨ k = 9 := by omega
      rcases this with h | h | h | h | h | h | h | h | h | h <;> subst h
      · exact absurd hp (by decide)
      · exact absurd hp (by decide)
      · exact absurd hp (by decide)
      · exact absurd hp (by decide)
      · rfl
      · rfl
      · rfl
      · rfl
      · rfl
      · rfl
    · have : c = 5 ∨ c = 6 ∨ c = 7 ∨ c = 8 ∨ c = 9 ∨ c = 10 := by omega
      rcases this with h | h | h | h | h | h <;> subst h <;> exact okm_arr (by decide)
  · rw [aq]; rfl
  · rw [aq]; rfl
  · rw [aq]; rfl
  · rw [aq]; rfl
theorem i8_12 : WP (iX8_init 12 13 G) (fun _ G' => (∀ c, c < 12 ∨ 18 < c → G' c = G c) ∧ (∀ c, 12 ≤ c → c ≤ 18 → OKM c G') ∧ G' 12 0 = G 12 0 ∧ G' 12 1 = 2 ∧ G' 12 2 = G 12 2 ∧ G' 12 3 = G 12 3) := by
  unfold iX8_init
  refine w_bh (fun g1 e1 => ?_)
  refine w_na (by decide) ?_
  refine w_bh (fun g2 e2 => ?_)
  refine w_pf rfl ?_
  refine w_bh (fun g3 e3 => ?_)
  refine w_na (by decide) ?_
  refine w_bh (fun g4 e4 => ?_)
  refine w_pf rfl ?_
  refine w_bh (fun g5 e5 => ?_)
  refine w_na (by decide) ?_
  refine w_bh (fun g6 e6 => ?_)
  refine w_pf rfl ?_
  refine w_bh (fun g7 e7 => ?_)
  refine w_na (by decide) ?_
  refine w_bh (fun g8 e8 => ?_)
  refine w_pf rfl ?_
  refine w_bh (fun g9 e9 => ?_)
  refine w_na (by decide) ?_
  refine w_bh (fun g10 e10 => ?_)
  refine w_pf rfl ?_
  refine w_bh (fun g11 e11 => ?_)
  refine w_na (by decide) ?_
  refine w_bh (fun g12 e12 => ?_)
  refine w_pf rfl ?_
  refine w_bh (fun g13 e13 => ?_)
  have aq : ∀ k, g13 12 k = if k = 9 then 1 else if k = 8 then 1 else if k = 7 then 1 else if k = 6 then 1 else if k = 5 then 1 else if k = 4 then 1 else if k = 1 then 2 else G 12 k := by
    intro k
    rw [e13, up_at, e12, clr_ne (by omega), e11, up_at, e10, clr_ne (by omega), e9, up_at, e8, clr_ne (by omega), e7, up_at, e6, clr_ne (by omega), e5, up_at, e4, clr_ne (by omega), e3, up_at, e2, clr_ne (by omega), e1, up_at]
    simp only [true_and]
  refine w_ve ⟨fun c hc => ?_, fun c c1 c2 => ?_, ?_, ?_, ?_, ?_⟩
  · rw [e13, up_ne (by omega), e12, clr_ne (by omega), e11, up_ne (by omega), e10, clr_ne (by omega), e9, up_ne (by omega), e8, clr_ne (by omega), e7, up_ne (by omega), e6, clr_ne (by omega), e5, up_ne (by omega), e4, clr_ne (by omega), e3, up_ne (by omega), e2, clr_ne (by omega), e1, up_ne (by omega)]
  · by_cases ec : c = 12
    · subst ec
      intro k hp hk
      rw [aq]
      have hk' : k < 10 := hk
      have : k = 0 ∨ k = 1 ∨ k = 2 ∨ k = 3 ∨ k = 4 ∨ k = 5 ∨ k = 6 ∨ k = 7 ∨ k = 8 ∨ k = 9 := by omega
      rcases this with h | h | h | h | h | h | h | h | h | h <;> subst h
      · exact absurd hp (by decide)
      · exact absurd hp (by decide)
      · exact absurd hp (by decide)
      · exact absurd hp (by decide)
      · rfl
      · rfl
      · rfl
      · rfl
      · rfl
      · rfl
    · have : c = 13 ∨ c = 14 ∨ c = 15 ∨ c = 16 ∨ c = 17 ∨ c = 18 := by omega
      rcases this with h | h | h | h | h | h <;> subst h <;> exact okm_arr (by decide)
  · rw [aq]; rfl
  · rw [aq]; rfl
  · rw [aq]; rfl
  · rw [aq]; rfl
theorem i10_19 : WP (iX10_init 19 20 G) (fun _ G' => (∀ c, c < 19 ∨ 22 < c → G' c = G c) ∧ (∀ c, 19 ≤ c → c ≤ 22 → OKM c G') ∧ G' 19 3 = G 19 3) := by
  unfold iX10_init
  refine w_na (by decide) ?_
  refine w_bh (fun g1 e1 => ?_)
  refine w_pf rfl ?_
  refine w_bh (fun g2 e2 => ?_)
  refine w_na (by decide) ?_
  refine w_bh (fun g3 e3 => ?_)
  refine w_pf rfl ?_
  refine w_bh (fun g4 e4 => ?_)
  refine w_na (by decide) ?_
  refine w_bh (fun g5 e5 => ?_)
  refine w_pf rfl ?_
  refine w_bh (fun g6 e6 => ?_)
  have aq : ∀ k, g6 19 k = if k = 2 then 1 else if k = 1 then 1 else if k = 0 then 1 else G 19 k := by
    intro k
    rw [e6, up_at, e5, clr_ne (by omega), e4, up_at, e3, clr_ne (by omega), e2, up_at, e1, clr_ne (by omega)]
    simp only [true_and]
  refine w_ve ⟨fun c hc => ?_, fun c c1 c2 => ?_, ?_⟩
  · rw [e6, up_ne (by omega), e5, clr_ne (by omega), e4, up_ne (by omega), e3, clr_ne (by omega), e2, up_ne (by omega), e1, clr_ne (by omega)]
  · by_cases ec : c = 19
    · subst ec
      intro k hp hk
      rw [aq]
      have hk' : k < 4 := hk
      have : k = 0 ∨ k = 1 ∨ k = 2 ∨ k = 3 := by omega
      rcases this with h | h | h | h <;> subst h
      · rfl
      · rfl
      · rfl
      · exact absurd hp (by decide)
    · have : c = 20 ∨ c = 21 ∨ c = 22 := by omega
      rcases this with h | h | h <;> subst h <;> exact okm_arr (by decide)
  · rw [aq]; rfl
theorem i10_23 : WP (iX10_init 23 24 G) (fun _ G' => (∀ c, c < 23 ∨ 26 < c → G' c = G c) ∧ (∀ c, 23 ≤ c → c ≤ 26 → OKM c G') ∧ G' 23 3 = G 23 3) := by
  unfold iX10_init
  refine w_na (by decide) ?_
  refine w_bh (fun g1 e1 => ?_)
  refine w_pf rfl ?_
  refine w_bh (fun g2 e2 => ?_)
  refine w_na (by decide) ?_
  refine w_bh (fun g3 e3 => ?_)
  refine w_pf rfl ?_
  refine w_bh (fun g4 e4 => ?_)
  refine w_na (by decide) ?_
  refine w_bh (fun g5 e5 => ?_)
  refine w_pf rfl ?_
  refine w_bh (fun g6 e6 => ?_)
  have aq : ∀ k, g6 23 k = if k = 2 then 1 else if k = 1 then 1 else if k = 0 then 1 else G 23 k := by
    intro k
    rw [e6, up_at, e5, clr_ne (by omega), e4, up_at, e3, clr_ne (by omega), e2, up_at, e1, clr_ne (by omega)]
    simp only [true_and]
  refine w_ve ⟨fun c hc => ?_, fun c c1 c2 => ?_, ?_⟩
  · rw [e6, up_ne (by omega), e5, clr_ne (by omega), e4, up_ne (by omega), e3, clr_ne (by omega), e2, up_ne (by omega), e1, clr_ne (by omega)]
  · by_cases ec : c = 23
    · subst ec
      intro k hp hk
      rw [aq]
      have hk' : k < 4 := hk
      have : k = 0 ∨ k = 1 ∨ k = 2 ∨ k = 3 := by omega
      rcases this with h | h | h | h <;> subst h
      · rfl
      · rfl
      · rfl
      · exact absurd hp (by decide)
    · have : c = 24 ∨ c = 25 ∨ c = 26 := by omega
      rcases this with h | h | h <;> subst h <;> exact okm_arr (by decide)
  · rw [aq]; rfl
theorem i1_29 : WP (iX1_init 29 4 27 30 G) (fun _ G' => (∀ c, c < 29 ∨ 30 < c → G' c = G c) ∧ (∀ c, 29 ≤ c → c ≤ 30 → OKM c G')) := by
  unfold iX1_init
  refine w_pf rfl ?_
  refine w_bh (fun g1 e1 => ?_)
  refine w_pf rfl ?_
  refine w_bh (fun g2 e2 => ?_)
  refine w_na (by decide) ?_
  refine w_bh (fun g3 e3 => ?_)
  refine w_pf rfl ?_
  refine w_bh (fun g4 e4 => ?_)
  refine w_bh (fun g5 e5 => ?_)
  have aq : ∀ k, g5 29 k = if k = 3 then -1 else if k = 2 then 1 else if k = 1 then 1 else if k = 0 then 1 else G 29 k := by
    intro k
    rw [e5, up_at, e4, up_at, e3, clr_ne (by omega), e2, up_at, e1, up_at]
    simp only [true_and]
  refine w_ve ⟨fun c hc => ?_, fun c c1 c2 => ?_⟩
  · rw [e5, up_ne (by omega), e4, up_ne (by omega), e3, clr_ne (by omega), e2, up_ne (by omega), e1, up_ne (by omega)]
  · by_cases ec : c = 29
    · subst ec
      intro k hp hk
      rw [aq]
      have hk' : k < 5 := hk
      have : k = 0 ∨ k = 1 ∨ k = 2 ∨ k = 3 ∨ k = 4 := by omega
      rcases this with h | h | h | h | h <;> subst h
      · rfl
      · rfl
      · rfl
      · exact absurd hp (by decide)
      · exact absurd hp (by decide)
    · have : c = 30 := by omega
      subst this; exact okm_arr (by decide)
theorem i0_31 : WP (iX0_init 31 4 27 29 32 G) (fun _ G' => (∀ c, c < 31 ∨ 32 < c → G' c = G c) ∧ (∀ c, 31 ≤ c → c ≤ 32 → OKM c G')) := by
  unfold iX0_init
  refine w_pf rfl ?_
  refine w_bh (fun g1 e1 => ?_)
  refine w_pf rfl ?_
  refine w_bh (fun g2 e2 => ?_)
  refine w_pf rfl ?_
  refine w_bh (fun g3 e3 => ?_)
  refine w_na (by decide) ?_
  refine w_bh (fun g4 e4 => ?_)
  refine w_pf rfl ?_
  refine w_bh (fun g5 e5 => ?_)
  have aq : ∀ k, g5 31 k = if k = 3 then 1 else if k = 2 then 1 else if k = 1 then 1 else if k = 0 then 1 else G 31 k := by
    intro k
    rw [e5, up_at, e4, clr_ne (by omega), e3, up_at, e2, up_at, e1, up_at]
    simp only [true_and]
  refine w_ve ⟨fun c hc => ?_, fun c c1 c2 => ?_⟩
  · rw [e5, up_ne (by omega), e4, clr_ne (by omega), e3, up_ne (by omega), e2, up_ne (by omega), e1, up_ne (by omega)]
  · by_cases ec : c = 31
    · subst ec
      intro k hp hk
      rw [aq]
      have hk' : k < 4 := hk
      have : k = 0 ∨ k = 1 ∨ k = 2 ∨ k = 3 := by omega
      rcases this with h | h | h | h <;> subst h
      · rfl
      · rfl
      · rfl
      · rfl
    · have : c = 32 := by omega
      subst this; exact okm_arr (by decide)
theorem i2_33 : WP (iX2_init 33 4 27 29 34 G) (fun _ G' => (∀ c, c < 33 ∨ 33 < c → G' c = G c) ∧ (∀ c, 33 ≤ c → c ≤ 33 → OKM c G')) := by
  unfold iX2_init
  refine w_pf rfl ?_
  refine w_bh (fun g1 e1 => ?_)
  refine w_pf rfl ?_
  refine w_bh (fun g2 e2 => ?_)
  refine w_pf rfl ?_
  refine w_bh (fun g3 e3 => ?_)
  have aq : ∀ k, g3 33 k = if k = 2 then 1 else if k = 1 then 1 else if k = 0 then 1 else G 33 k := by
    intro k
    rw [e3, up_at, e2, up_at, e1, up_at]
    simp only [true_and]
  refine w_ve ⟨fun c hc => ?_, fun c c1 c2 => ?_⟩
  · rw [e3, up_ne (by omega), e2, up_ne (by omega), e1, up_ne (by omega)]
  · by_cases ec : c = 33
    · subst ec
      intro k hp hk
      rw [aq]
      have hk' : k < 3 := hk
      have : k = 0 ∨ k = 1 ∨ k = 2 := by omega
      rcases this with h | h | h <;> subst h
      · rfl
      · rfl
      · rfl
    · omega
theorem i4_11 : WP (iX4_init 11 1 12 G) (fun _ G' => (∀ c, c < 11 ∨ 18 < c → G' c = G c) ∧ (∀ c, 11 ≤ c → c ≤ 18 → OKM c G')) := by
  unfold iX4_init
  refine w_pf rfl ?_
  refine w_bh (fun g1 e1 => ?_)
  refine w_no (by decide) ?_
  refine w_bh (fun g2 e2 => ?_)
  refine w_bn i8_12 (fun _ g3 q3 => ?_)
  refine w_pf rfl ?_
  refine w_bh (fun g4 e4 => ?_)
  refine w_ve ⟨fun c hc => ?_, fun c c1 c2 => ?_⟩
  · rw [e4, up_ne (by omega), q3.1 c (by omega), e2, clr_ne (by omega), e1, up_ne (by omega)]
  · by_cases ec : c = 11
    · subst ec
      intro k hp hk
      have hk' : k < 5 := hk
      have : k = 0 ∨ k = 1 ∨ k = 2 ∨ k = 3 ∨ k = 4 := by omega
      rcases this with h | h | h | h | h <;> subst h
      · rw [e4, up_at, if_neg (by decide), q3.1 11 (by omega), e2, clr_ne (by decide), e1, up_at, if_pos ⟨rfl, rfl⟩]
      · rw [e4, up_at, if_pos ⟨rfl, rfl⟩]
      · exact absurd hp (by decide)
      · exact absurd hp (by decide)
      · exact absurd hp (by decide)
    · exact (q3.2.1 c (by omega) (by omega)).fr (by rw [e4, up_ne (by omega)])
theorem i9_34 : WP (iX9_init 34 4 27 31 33 35 G) (fun _ G' => (∀ c, c < 34 ∨ 38 < c → G' c = G c) ∧ (∀ c, 34 ≤ c → c ≤ 38 → OKM c G')) := by
  unfold iX9_init
  refine w_pf rfl ?_
  refine w_bh (fun g1 e1 => ?_)
  refine w_pf rfl ?_
  refine w_bh (fun g2 e2 => ?_)
  refine w_pf rfl ?_
  refine w_bh (fun g3 e3 => ?_)
  refine w_pf rfl ?_
  refine w_bh (fun g4 e4 => ?_)
  refine w_no (by decide) ?_
  refine w_bh (fun g5 e5 => ?_)
  refine w_bn (i6 (q := 35) (by decide) (by decide) (by decide) (by decide)) (fun _ g6 q6 => ?_)
  obtain ⟨f6, -, -, a6, b6⟩ := q6
  refine w_pf rfl ?_
  refine w_bh (fun g7 e7 => ?_)
  refine w_no (by decide) ?_
  refine w_bh (fun g8 e8 => ?_)
  refine w_bn (i6 (q := 37) (by decide) (by decide) (by decide) (by decide)) (fun _ g9 q9 => ?_)
  obtain ⟨f9, -, -, a9, b9⟩ := q9
  refine w_pf rfl ?_
  refine w_bh (fun g10 e10 => ?_)
  have aq : ∀ k, g10 34 k = if k = 5 then 1 else if k = 4 then 1 else if k = 3 then 1 else if k = 2 then 1 else if k = 1 then 1 else if k = 0 then 1 else G 34 k := by
    intro k
    rw [e10, up_at, f9 34 (by decide) (by decide), e8, clr_ne (by decide), e7, up_at, f6 34 (by decide) (by decide), e5, clr_ne (by decide), e4, up_at, e3, up_at, e2, up_at, e1, up_at]
    simp only [true_and]
  refine w_ve ⟨fun c hc => ?_, fun c c1 c2 => ?_⟩
  · rw [e10, up_ne (by omega), f9 c (by omega) (by omega), e8, clr_ne (by omega), e7, up_ne (by omega), f6 c (by omega) (by omega), e5, clr_ne (by omega), e4, up_ne (by omega), e3, up_ne (by omega), e2, up_ne (by omega), e1, up_ne (by omega)]
  · by_cases ec : c = 34
    · subst ec
      intro k hp hk
      rw [aq]
      have hk' : k < 7 := hk
      have : k = 0 ∨ k = 1 ∨ k = 2 ∨ k = 3 ∨ k = 4 ∨ k = 5 ∨ k = 6 := by omega
      rcases this with h | h | h | h | h | h | h <;> subst h
      · rfl
      · rfl
      · rfl
      · rfl
      · rfl
      · rfl
      · exact absurd hp (by decide)
    · have : c = 35 ∨ c = 36 ∨ c = 37 ∨ c = 38 := by omega
      rcases this with h | h | h | h <;> subst h
      · exact a6.fr (by rw [e10, up_ne (by decide), f9 35 (by decide) (by decide), e8, clr_ne (by decide), e7, up_ne (by decide)])
      · exact b6.fr (by rw [e10, up_ne (by decide), f9 36 (by decide) (by decide), e8, clr_ne (by decide), e7, up_ne (by decide)])
      · exact a9.fr (by rw [e10, up_ne (by decide)])
      · exact b9.fr (by rw [e10, up_ne (by decide)])
end STB
