/-! READING A RING: the reference takes it -/
section RDH
variable {S : TS} {G : Hp} {n : Nat} {D : DR}
theorem m_std {a : Nat} (ha : a ≤ 32) {z : Int} (hz : z = a) : WP (fX12_standsAsAlways 111 z G) (fun _ G' => (∀ c, c ≠ 117 → G' c = G c) ∧ (∀ i, i < a ∨ a + 32 ≤ i → G' 117 i = G 117 i) ∧ ∀ i, i < 32 → G' 117 (a + i) = if i = 1 then 2 else if i = 4 then -1 else 0) := by
  subst hz
  unfold fX12_standsAsAlways
  rw [rf_111_10]
  refine w_bd (fun v1 e1 => ?_)
  refine w_lpIH (fun v2 g => ∃ k : Nat, v2 = k ∧ k ≤ 32 ∧ (∀ c, c ≠ 117 → g c = G c) ∧ (∀ i, i < a ∨ a + 32 ≤ i → g 117 i = G 117 i) ∧ ∀ i, i < k → g 117 (a + i) = 0) (fun v2 _ => (32 - v2).toNat) (fun rc v2 g hI hr => ?_) v1 G ⟨0, e1, by omega, fun _ _ => rfl, fun _ _ => rfl, fun i hi => absurd hi (Nat.not_lt_zero i)⟩ (by omega)
  obtain ⟨k, hv, hk, f1, f2, f3⟩ := hI
  refine w_ite (fun c => ?_) (fun c => ?_)
  · have ei : iadd (a : Int) v2 = ((a + k : Nat) : Int) := by rw [hv, iadd_id (by omega) (by omega)]; omega
    rw [ei]
    refine w_wr (by omega) (by omega) (fun g7 e7 => ?_)
    rw [Int.toNat_natCast] at e7
    refine w_bd (fun v8 e8 => ?_)
    rw [iadd_id (by omega) (by omega)] at e8
    refine hr v8 g7 ⟨k + 1, by omega, by omega, fun c hc => by rw [e7, up_ne hc, f1 c hc], fun i hi => by rw [e7, up_at, if_neg (by omega), f2 i hi], fun i hi => ?_⟩ (by omega)
    rw [e7, up_at]
    by_cases ei : i = k
    · rw [if_pos ⟨rfl, by omega⟩]
    · rw [if_neg (by omega)]; exact f3 i (by omega)
  · obtain rfl : k = 32 := by omega
    have e1' : iadd (a : Int) 1 = ((a + 1 : Nat) : Int) := by rw [iadd_id (by omega) (by omega)]; omega
    have e4' : iadd (a : Int) 4 = ((a + 4 : Nat) : Int) := by rw [iadd_id (by omega) (by omega)]; omega
    rw [e1', e4']
    refine w_wr (by omega) (by omega) (fun g5 e5 => ?_)
    refine w_wr (by omega) (by omega) (fun g6 e6 => w_rt ?_)
    rw [Int.toNat_natCast] at e5 e6
    refine ⟨fun c hc => by rw [e6, up_ne hc, e5, up_ne hc, f1 c hc], fun i hi => by rw [e6, up_at, if_neg (by omega), e5, up_at, if_neg (by omega), f2 i hi], fun i hi => ?_⟩
    rw [e6, up_at, e5, up_at]
    by_cases i4 : i = 4
    · rw [if_pos ⟨rfl, by omega⟩, if_neg (by omega), if_pos i4]
    · rw [if_neg (by omega)]
      by_cases i1 : i = 1
      · rw [if_pos ⟨rfl, by omega⟩, if_pos i1]
      · rw [if_neg (by omega), if_neg i1, if_neg i4]; exact f3 i hi
theorem m_take (w : WTp S) (d : MD S D G) (wd : WD S D) : WP (bd 0 fun v8 => (lp (fun (_ : Int) (_ : Hp) => (none : RT)) 5000 (fun (rc11 : Int → Hp → RT) (v9 : Int) (G10 : Hp) => if v9 < 32 then (br (rd G10 117 64 (iadd 32 v9)) fun v28 => bs (wr G10 117 64 v9 v28) fun G29 => bd (iadd v9 1) fun v30 => rc11 v30 G29) else (bd 0 fun v12 => (lp (fun (_ : Int) (_ : Hp) => (none : RT)) 5000 (fun (rc15 : Int → Hp → RT) (v13 : Int) (G14 : Hp) => if v13 < (G14 111 12) then (br (rd G14 118 2200 (iadd 1100 v13)) fun v25 => bs (wr G14 118 2200 v13 v25) fun G26 => bd (iadd v13 1) fun v27 => rc15 v27 G26) else (bd 0 fun v16 => (lp (fun (_ : Int) (_ : Hp) => (none : RT)) 5000 (fun (rc19 : Int → Hp → RT) (v17 : Int) (G18 : Hp) => if v17 < 18 then (br (rd G18 119 36 (iadd 18 v17)) fun v22 => bs (wr G18 119 36 v17 v22) fun G23 => bd (iadd v17 1) fun v24 => rc19 v24 G23) else (bn (fX12_begins 111 G18) fun _ G20 => rt 0 G20))) v16 G14))) v12 G10))) v8 G) (fun r G' => r = 0 ∧ RW (TD S D) W0 G' ∧ (∀ i, i < dN D → G' 119 i = yv S (dnn D i)) ∧ (∀ i, i < dK D → G' 119 (8 + i) = yv S (dkn D i)) ∧ (∀ c, c ≠ 111 → c < 117 ∨ 125 < c → G' c = G c) ∧ ∀ k, k ≠ 18 → G' 111 k = G 111 k) := by
  obtain ⟨d1, d2, d3, d4, d5, d6, d7, d8, d9⟩ := d
  have wN := wd.2.2.2.1
  have wK := wd.2.2.2.2.1
  obtain ⟨C, hC, hC1⟩ : ∃ C : Nat, G 111 12 = (C : Int) ∧ C ≤ 1000 := by
    cases hW : dW D with
    | none => rw [hW] at d9; exact ⟨0, d9, by omega⟩
    | some t => rw [hW] at d9; exact ⟨_, d9.1, by have := d9.2.2.2; omega⟩
  refine w_bd (fun v8 e8 => ?_)
  refine w_lpIH (fun v9 g => ∃ k : Nat, v9 = k ∧ k ≤ 32 ∧ (∀ c, c ≠ 117 → g c = G c) ∧ (∀ i, k ≤ i → g 117 i = G 117 i) ∧ ∀ i, i < k → g 117 i = G 117 (32 + i)) (fun v9 _ => (32 - v9).toNat) (fun rc v9 g hI hr => ?_) v8 G ⟨0, e8, by omega, fun _ _ => rfl, fun _ _ => rfl, fun i hi => absurd hi (Nat.not_lt_zero i)⟩ (by omega)
  obtain ⟨k, hv, hk, f1, f2, f3⟩ := hI
  refine w_ite (fun c => ?_) (fun c => ?_)
  · have ei : iadd 32 v9 = ((32 + k : Nat) : Int) := by rw [hv, iadd_id (by omega) (by omega)]; omega
    rw [ei]
    refine w_rd (by omega) (by omega) (fun v28 e28 => ?_)
    rw [Int.toNat_natCast, f2 _ (by omega)] at e28
    refine w_wr (by omega) (by omega) (fun g29 e29 => ?_)
    rw [hv, Int.toNat_natCast] at e29
    refine w_bd (fun v30 e30 => ?_)
    rw [iadd_id (by omega) (by omega)] at e30
    refine hr v30 g29 ⟨k + 1, by omega, by omega, fun c hc => by rw [e29, up_ne hc, f1 c hc], fun i hi => by rw [e29, up_at, if_neg (by omega), f2 i (by omega)], fun i hi => ?_⟩ (by omega)
    rw [e29, up_at]
    by_cases ei : i = k
    · rw [if_pos ⟨rfl, ei⟩, ei]; exact e28
    · rw [if_neg (fun y => ei y.2)]; exact f3 i (by omega)
  obtain rfl : k = 32 := by omega
  clear hr
  refine w_bd (fun v12 e12 => ?_)
  refine w_lpIH (fun v13 h => ∃ k : Nat, v13 = k ∧ k ≤ C ∧ (∀ c, c ≠ 118 → h c = g c) ∧ (∀ i, 1100 ≤ i → h 118 i = g 118 i) ∧ ∀ i, i < k → h 118 i = g 118 (1100 + i)) (fun v13 _ => ((C : Int) - v13).toNat) (fun rc2 v13 h hI hr => ?_) v12 g ⟨0, e12, by omega, fun _ _ => rfl, fun _ _ => rfl, fun i hi => absurd hi (Nat.not_lt_zero i)⟩ (by omega)
  obtain ⟨k, hv2, hk2, p1, p2, p3⟩ := hI
  have h12 : h 111 12 = (C : Int) := by rw [p1 111 (by decide), f1 111 (by decide)]; exact hC
  rw [h12]
  refine w_ite (fun c => ?_) (fun c => ?_)
  · have ei : iadd 1100 v13 = ((1100 + k : Nat) : Int) := by rw [hv2, iadd_id (by omega) (by omega)]; omega
    rw [ei]
    refine w_rd (by omega) (by omega) (fun v28 e28 => ?_)
    rw [Int.toNat_natCast, p2 _ (by omega)] at e28
    refine w_wr (by omega) (by omega) (fun g29 e29 => ?_)
    rw [hv2, Int.toNat_natCast] at e29
    refine w_bd (fun v30 e30 => ?_)
    rw [iadd_id (by omega) (by omega)] at e30
    refine hr v30 g29 ⟨k + 1, by omega, by omega, fun c hc => by rw [e29, up_ne hc, p1 c hc], fun i hi => by rw [e29, up_at, if_neg (by omega), p2 i (by omega)], fun i hi => ?_⟩ (by omega)
    rw [e29, up_at]
    by_cases ei : i = k
    · rw [if_pos ⟨rfl, ei⟩, ei]; exact e28
    · rw [if_neg (fun y => ei y.2)]; exact p3 i (by omega)
  obtain rfl : k = C := by omega
  clear hr
  refine w_bd (fun v16 e16 => ?_)
  refine w_lpIH (fun v17 u => ∃ k : Nat, v17 = k ∧ k ≤ 18 ∧ (∀ c, c ≠ 119 → u c = h c) ∧ (∀ i, 18 ≤ i → u 119 i = h 119 i) ∧ ∀ i, i < k → u 119 i = h 119 (18 + i)) (fun v17 _ => (18 - v17).toNat) (fun rc3 v17 u hI hr => ?_) v16 h ⟨0, e16, by omega, fun _ _ => rfl, fun _ _ => rfl, fun i hi => absurd hi (Nat.not_lt_zero i)⟩ (by omega)
  obtain ⟨k3, hv3, hk3, u1, u2, u3⟩ := hI
  refine w_ite (fun c => ?_) (fun c => ?_)
  · have ei : iadd 18 v17 = ((18 + k3 : Nat) : Int) := by rw [hv3, iadd_id (by omega) (by omega)]; omega
    rw [ei]
    refine w_rd (by omega) (by omega) (fun v28 e28 => ?_)
    rw [Int.toNat_natCast, u2 _ (by omega)] at e28
    refine w_wr (by omega) (by omega) (fun g29 e29 => ?_)
    rw [hv3, Int.toNat_natCast] at e29
    refine w_bd (fun v30 e30 => ?_)
    rw [iadd_id (by omega) (by omega)] at e30
    refine hr v30 g29 ⟨k3 + 1, by omega, by omega, fun c hc => by rw [e29, up_ne hc, u1 c hc], fun i hi => by rw [e29, up_at, if_neg (by omega), u2 i (by omega)], fun i hi => ?_⟩ (by omega)
    rw [e29, up_at]
    by_cases ei : i = k3
    · rw [if_pos ⟨rfl, ei⟩, ei]; exact e28
    · rw [if_neg (fun y => ei y.2)]; exact u3 i (by omega)
  obtain rfl : k3 = 18 := by omega
  have c117 : ∀ i, i < 32 → u 117 i = G 117 (32 + i) := fun i hi => by rw [u1 117 (by decide), p1 117 (by decide)]; exact f3 i hi
  have c118 : ∀ i, i < k → u 118 i = G 118 (1100 + i) := fun i hi => by rw [u1 118 (by decide), p3 i hi, f1 118 (by decide)]
  have c119 : ∀ i, i < 18 → u 119 i = G 119 (18 + i) := fun i hi => by rw [u3 i hi, p1 119 (by decide), f1 119 (by decide)]
  have rd : RD S D u := by
    refine ⟨(c117 0 (by omega)).trans d1, (c117 1 (by omega)).trans d2, (c117 2 (by omega)).trans d3, (c117 3 (by omega)).trans d4, (c117 4 (by omega)).trans d5, fun i hi => ?_, fun i hi => ?_, fun t ht => ?_⟩
    · have q := d7 i hi
      rw [c117 (6 + i) (by omega), c117 (14 + i) (by omega), show 32 + (6 + i) = 38 + i by omega, show 32 + (14 + i) = 46 + i by omega]
      exact ⟨q.1, q.2.1⟩
    · rw [c117 (22 + i) (by omega), show 32 + (22 + i) = 54 + i by omega]; exact (d8 i hi).1
    · rw [ht] at d9
      obtain ⟨a1, a2, a3, a4⟩ := d9
      have kl : k = (lawR S t).2.2.length + 1 := by rw [hC] at a1; omega
      refine ⟨fun i hi => ?_, ?_, a4⟩
      · rw [c118 i (by omega)]; exact a2 i hi
      · rw [c118 _ (by omega)]; exact a3
  refine w_bn (m_begs w rd wd) (fun _ g20 q20 => w_rt ⟨rfl, q20.1, fun i hi => ?_, fun i hi => ?_, fun c a b => ?_, fun k hk => ?_⟩)
  · rw [q20.2.1 119 (by decide) (by omega), c119 i (by omega)]; exact (d7 i hi).2.2
  · rw [q20.2.1 119 (by decide) (by omega), c119 (8 + i) (by omega), show 18 + (8 + i) = 26 + i by omega]; exact (d8 i hi).2
  · rw [q20.2.1 c a (by omega), u1 c (by omega), p1 c (by omega), f1 c (by omega)]
  · rw [q20.2.2 k hk, u1 111 (by decide), p1 111 (by decide), f1 111 (by decide)]
theorem m_ring (w : WTp S) (m : MTp S G) (tb : MTb G) : WP (fX12_ring 111 G) (fun r G' => r = (rgR S 1000 0 D0).1 ∧ G' 111 2 = 0 ∧ (∀ c, c < 111 ∨ c = 112 ∨ c = 116 ∨ 125 < c → G' c = G c) ∧ (r ≠ 0 → (∀ c, 119 < c → G' c = G c) ∧ (∀ i, i < 32 → G' 117 i = G 117 i) ∧ (∀ i, i < 18 → G' 119 i = G 119 i) ∧ G' 111 18 = G 111 18) ∧ (r = 0 → RW (TD S (rgR S 1000 0 D0).2) W0 G' ∧ (∀ i, i < dN (rgR S 1000 0 D0).2 → G' 119 i = yv S (dnn (rgR S 1000 0 D0).2 i)) ∧ ∀ i, i < dK (rgR S 1000 0 D0).2 → G' 119 (8 + i) = yv S (dkn (rgR S 1000 0 D0).2 i))) := by
  obtain ⟨R, hR⟩ : ∃ R, rgR S 1000 0 D0 = R := ⟨_, rfl⟩
  rw [hR]
  unfold fX12_ring
  rw [rf_111_10, rf_111_11, rf_111_13, rf_111_4]
  refine w_bh (fun g1 e1 => ?_)
  have m1 : MTp S g1 := m.fr (by rw [e1, up_at, if_neg (by decide)]) (by rw [e1, up_ne (by decide)])
  refine w_bn (m_cut w m1) (fun _ g2 q2 => ?_)
  obtain ⟨f2, z2, z7, z8, n, nS, mce⟩ := q2
  have hn := HN2_of mce
  have n1 : n ≤ 1000 := by have := w.2.1; omega
  refine w_bh (fun g3 e3 => ?_)
  refine w_bn (m_std (a := 32) (by omega) (z := 32) rfl) (fun _ g4 q4 => ?_)
  obtain ⟨f4, k4, s4⟩ := q4
  have h4 : ∀ c, c ≠ 117 → c ≠ 111 → g4 c = g2 c := fun c a b => by rw [f4 c a, e3, up_ne b]
  have h41 : ∀ k, k ≠ 12 → g4 111 k = g2 111 k := fun k hk => by rw [f4 111 (by decide), e3, up_at, if_neg (fun y => hk y.2)]
  have g12 : g4 111 12 = 0 := by rw [f4 111 (by decide), e3, up_at, if_pos ⟨rfl, rfl⟩]
  have mj : MJ S n (0, 0) g4 := by
    refine ⟨mce.fr (h4 113 (by decide) (by decide)) (h4 114 (by decide) (by decide)) (h4 115 (by decide) (by decide)), fun i hi => ?_, by rw [h41 7 (by decide)]; exact z7, by rw [h41 8 (by decide)]; exact z8, Nat.zero_le n, n1, Int.le_refl 0⟩
    rw [h4 116 (by decide) (by decide), f2.1 116 (by decide) (by decide) (by decide) (by decide), e1, up_ne (by decide)]; exact tb i hi
  have d4 : MD S D0 g4 := ⟨s4 0 (by omega), s4 1 (by omega), s4 2 (by omega), s4 3 (by omega), s4 4 (by omega), s4 5 (by omega), fun i hi => absurd hi (Nat.not_lt_zero i), fun i hi => absurd hi (Nat.not_lt_zero i), g12⟩
  have fr4 : ∀ c, c < 111 ∨ c = 112 ∨ c = 116 ∨ 117 < c → g4 c = G c := fun c hc => by
    rw [h4 c (by omega) (by omega), f2.1 c (by omega) (by omega) (by omega) (by omega), e1, up_ne (by omega)]
  have fr5 : ∀ i, i < 32 → g4 117 i = G 117 i := fun i hi => by
    rw [k4 i (by omega), e3, up_ne (by decide), f2.1 117 (by decide) (by decide) (by decide) (by decide), e1, up_ne (by decide)]
  have fr6 : g4 111 18 = G 111 18 := by rw [h41 18 (by decide), f2.2 18 (by decide) (by decide) (by decide) (by decide), e1, up_at, if_neg (by decide)]
  have fr7 : g4 111 2 = 0 := by rw [h41 2 (by decide)]; exact z2
  refine w_lpH (fun g => FE g4 g ∧ ∃ (f j : Nat) (D : DR), n ≤ f + j ∧ WD S D ∧ ((MJ S n (j, 0) g ∧ MD S D g ∧ rgR S f j D = R) ∨ (g 111 8 = R.1 ∧ 0 < R.1))) (fun g => if g 111 8 = 0 then 2000 - (g 111 7).toNat else 0) (fun rc g hI hr => ?_) g4 ⟨FE.rf g4, 1000, 0, D0, by omega, WD_0, Or.inl ⟨mj, d4, hR⟩⟩ (by split <;> omega)
  obtain ⟨fg, f, j, D, hf, wd, hc⟩ := hI
  refine w_jnP (fun K7 hK => ?_)
  rcases hc with ⟨c1, c2, c3⟩ | ⟨c1, c2⟩
  · have g8 : g 111 8 = 0 := c1.2.2.2.1
    have g7 : g 111 7 = (j : Int) := c1.2.2.1
    have jn : j ≤ n := c1.2.2.2.2.1
    refine w_ite (fun _ => ?_) (fun y => absurd g8 y)
    refine w_rd c1.in.1 c1.in.2 (fun v31 e31 => ?_)
    rw [c1.at, c1.k] at e31
    have rk := (rso_1 (yk_r (S := S) (j := j))).2.2.2
    refine w_ite (fun k0 => ?_) (fun k0 => ?_)
    · have y0 : yk S j = 0 := rk.mp (by rw [← k0, e31])
      rw [rgR_e y0] at c3
      rw [hK]
      refine w_ite (fun y => by omega) (fun _ => ?_)
      refine (m_take w c2 wd).mono (fun r G' q => ?_)
      obtain ⟨r0, q1, q2, q3, q4, q5⟩ := q
      rw [← c3]
      refine ⟨r0, ?_, fun c hc => ?_, fun y => absurd r0 y, fun _ => ⟨q1, q2, q3⟩⟩
      · rw [q5 2 (by decide), fg.2.1 2 (by decide) (by decide) (by decide)]; exact fr7
      · rw [q4 c (by omega) (by omega), fg.1 c (by omega) (by omega) (by omega) (by omega), fr4 c (by omega)]
    · have y0 : yk S j ≠ 0 := fun y => k0 (by rw [e31]; exact rk.mpr y)
      have jl := hn j y0
      obtain ⟨f', rfl⟩ : ∃ f', f = f' + 1 := ⟨f - 1, by omega⟩
      have ju := lnJ_up w hn y0
      refine w_bn (m_line w c1 y0 c2 wd) (fun _ g32 q32 => ?_)
      obtain ⟨p1, p2, p3⟩ := q32
      refine w_bn (m_tSg w p2 59) (fun _ g33 q33 => ?_)
      obtain ⟨s1, s2'⟩ := q33
      have s2 : MA S n (lnT S D j) (lnJ S j + 1) g33 := s2'
      have F33 := (fg.tr p1).tr (FE.o8 s1)
      by_cases z : lnT S D j = 0
      · rw [rgR_s y0 z] at c3
        have zF := (lnT_p w z).1
        rw [z] at s2
        have m33 := s2.z
        have u8 : g33 111 8 = 0 := m33.2.2.2.1
        have u7 : g33 111 7 = ((lnJ S j + 1 : Nat) : Int) := m33.2.2.1
        have un : lnJ S j + 1 ≤ n := m33.2.2.2.2.1
        refine hr g33 ⟨F33, f', lnJ S j + 1, lnD S D j, by omega, WD_ln w wd zF, Or.inl ⟨m33, (p3 zF).f8 s1, c3⟩⟩ ?_
        rw [u8, u7, g8, g7, if_pos rfl, if_pos rfl, Int.toNat_natCast, Int.toNat_natCast]; omega
      · rw [rgR_n y0 z] at c3
        have u8 := s2.f
        refine hr g33 ⟨F33, f', j + 1, D, by omega, wd, Or.inr ⟨?_, ?_⟩⟩ ?_
        · rw [← c3]; exact u8.1
        · rw [← c3]; show 0 < lnT S D j; have := u8.2; omega
        · rw [if_neg (by rw [u8.1]; exact z), if_pos g8, g7, Int.toNat_natCast]; omega
  · refine w_ite (fun y => by omega) (fun _ => ?_)
    rw [hK]
    refine w_ite (fun _ => w_rt ?_) (fun y => absurd (by omega) y)
    refine ⟨c1, ?_, fun c hc => ?_, fun _ => ⟨fun c hc => ?_, fun i hi => ?_, fun i hi => ?_, ?_⟩, fun y => by omega⟩
    · rw [fg.2.1 2 (by decide) (by decide) (by decide)]; exact fr7
    · rw [fg.1 c (by omega) (by omega) (by omega) (by omega), fr4 c (by omega)]
    · rw [fg.1 c (by omega) (by omega) (by omega) (by omega), fr4 c (by omega)]
    · rw [fg.2.2.1 i hi, fr5 i hi]
    · rw [fg.2.2.2.2 i hi, fr4 119 (by omega)]
    · rw [fg.2.1 18 (by decide) (by decide) (by decide)]; exact fr6
end RDH
