/-! READING A RING: the case of ring -/
section RDI
variable {S : TS} {G : Hp} {n : Nat} {T : TT}
theorem w_cp {c0 n0 c1 n1 : Nat} {k : Int} {f : Hp → RT} {Q : Int → Hp → Prop} (h0 : 0 ≤ k) (h1 : k ≤ (n0 : Int)) (h2 : k ≤ (n1 : Int)) (h : ∀ g, (∀ c, c ≠ c1 → g c = G c) → (∀ i : Nat, (i : Int) < k → g c1 i = G c0 i) → WP (f g) Q) : WP (bs (cpO G c0 n0 0 c1 n1 0 k) f) Q := by
  unfold cpO
  rw [if_pos ⟨by omega, by omega, h0, by omega, by omega⟩, bs_s]
  refine h _ (fun c hc => cpy_ne hc) (fun i hi => ?_)
  rw [cpy_self]
  show (if (0 : Int).toNat ≤ i ∧ i < (0 : Int).toNat + k.toNat then G c0 ((0 : Int).toNat + (i - (0 : Int).toNat)) else G c1 i) = G c0 i
  rw [if_pos ⟨by omega, by omega⟩]
  congr 1
  omega
theorem x_tcopy : WP (fX8_copyFrom 4 12 G) (fun _ G' => (∀ c, c < 4 ∨ 10 < c → G' c = G c) ∧ (∀ i, i < 4 → G' 4 i = G 12 i) ∧ (∀ i : Nat, i < 8 → G' 5 i = G 13 i ∧ G' 6 i = G 14 i ∧ G' 7 i = G 15 i) ∧ ∀ i : Nat, i < 10 → G' 9 i = G 17 i ∧ G' 10 i = G 18 i) := by
  unfold fX8_copyFrom
  rw [rf_12_4, rf_12_5, rf_12_6, rf_12_7, rf_12_8, rf_12_9, rf_4_4, rf_4_5, rf_4_6, rf_4_7, rf_4_8, rf_4_9]
  refine w_bh (fun g1 e1 => ?_)
  refine w_bh (fun g2 e2 => ?_)
  refine w_bh (fun g3 e3 => ?_)
  refine w_bh (fun g4 e4 => ?_)
  have h1 : ∀ c, c ≠ 4 → g1 c = G c := fun c hc => by rw [e1, up_ne hc]
  have h2 : ∀ c, c ≠ 4 → g2 c = G c := fun c hc => by rw [e2, up_ne hc, h1 c hc]
  have h3 : ∀ c, c ≠ 4 → g3 c = G c := fun c hc => by rw [e3, up_ne hc, h2 c hc]
  have h4 : ∀ c, c ≠ 4 → g4 c = G c := fun c hc => by rw [e4, up_ne hc, h3 c hc]
  rw [h1 12 (by decide)] at e2
  rw [h2 12 (by decide)] at e3
  rw [h3 12 (by decide)] at e4
  have a4 : ∀ i, i < 4 → g4 4 i = G 12 i := by
    intro i hi
    have : i = 0 ∨ i = 1 ∨ i = 2 ∨ i = 3 := by omega
    rcases this with h | h | h | h <;> subst h
    · rw [e4, up_at, if_neg (by decide), e3, up_at, if_neg (by decide), e2, up_at, if_neg (by decide), e1, up_at, if_pos ⟨rfl, rfl⟩]
    · rw [e4, up_at, if_neg (by decide), e3, up_at, if_neg (by decide), e2, up_at, if_pos ⟨rfl, rfl⟩]
    · rw [e4, up_at, if_neg (by decide), e3, up_at, if_pos ⟨rfl, rfl⟩]
    · rw [e4, up_at, if_pos ⟨rfl, rfl⟩]
  refine w_cp (by omega) (by omega) (by omega) (fun g5 f5 b5 => ?_)
  refine w_cp (by omega) (by omega) (by omega) (fun g6 f6 b6 => ?_)
  refine w_cp (by omega) (by omega) (by omega) (fun g7 f7 b7 => ?_)
  refine w_cp (by omega) (by omega) (by omega) (fun g8 f8 b8 => ?_)
  refine w_cp (by omega) (by omega) (by omega) (fun g9 f9 b9 => ?_)
  refine w_cp (by omega) (by omega) (by omega) (fun g10 f10 b10 => w_rt ⟨fun c hc => ?_, fun i hi => ?_, fun i hi => ⟨?_, ?_, ?_⟩, fun i hi => ⟨?_, ?_⟩⟩)
  · rw [f10 c (by omega), f9 c (by omega), f8 c (by omega), f7 c (by omega), f6 c (by omega), f5 c (by omega), h4 c (by omega)]
  · rw [f10 4 (by decide), f9 4 (by decide), f8 4 (by decide), f7 4 (by decide), f6 4 (by decide), f5 4 (by decide)]; exact a4 i hi
  · rw [f10 5 (by decide), f9 5 (by decide), f8 5 (by decide), f7 5 (by decide), f6 5 (by decide), b5 i (by omega), h4 13 (by decide)]
  · rw [f10 6 (by decide), f9 6 (by decide), f8 6 (by decide), f7 6 (by decide), b6 i (by omega), f5 14 (by decide), h4 14 (by decide)]
  · rw [f10 7 (by decide), f9 7 (by decide), f8 7 (by decide), b7 i (by omega), f6 15 (by decide), f5 15 (by decide), h4 15 (by decide)]
  · rw [f10 9 (by decide), b9 i (by omega), f8 17 (by decide), f7 17 (by decide), f6 17 (by decide), f5 17 (by decide), h4 17 (by decide)]
  · rw [b10 i (by omega), f9 18 (by decide), f8 18 (by decide), f7 18 (by decide), f6 18 (by decide), f5 18 (by decide), h4 18 (by decide)]
theorem x_pclr : WP (fX3_clear 44 G) (fun _ G' => (∀ c, c ≠ 44 → c ≠ 82 → G' c = G c) ∧ (∀ i, i ≠ 5 → G' 44 i = G 44 i) ∧ G' 44 5 = 0 ∧ ∀ i, i < 4 → G' 82 i = 0) := by
  unfold fX3_clear
  rw [rf_44_3]
  refine w_bh (fun g1 e1 => ?_)
  refine w_bd (fun v2 e2 => ?_)
  refine w_lpIH (fun v7 g => ∃ k : Nat, v7 = k ∧ k ≤ 4 ∧ (∀ c, c ≠ 82 → g c = g1 c) ∧ ∀ i, i < k → g 82 i = 0) (fun v7 _ => (4 - v7).toNat) (fun rc v7 g hI hr => ?_) v2 g1 ⟨0, e2, by omega, fun _ _ => rfl, fun i hi => absurd hi (Nat.not_lt_zero i)⟩ (by omega)
  obtain ⟨k, hv, hk, fg, lg⟩ := hI
  refine w_ite (fun c => ?_) (fun c => ?_)
  · refine w_wrZ (by omega) (by omega) (Or.inl rfl) (fun g10 e10 => ?_)
    rw [hv, Int.toNat_natCast] at e10
    refine w_bd (fun v11 e11 => ?_)
    rw [iadd_id (by omega) (by omega)] at e11
    refine hr v11 g10 ⟨k + 1, by omega, by omega, fun c hc => by rw [e10, up_ne hc, fg c hc], fun i hi => ?_⟩ (by omega)
    rw [e10, up_at]
    by_cases ei : i = k
    · rw [if_pos ⟨rfl, ei⟩]
    · rw [if_neg (fun y => ei y.2)]; exact lg i (by omega)
  · obtain rfl : k = 4 := by omega
    refine w_rt ⟨fun c a b => by rw [fg c b, e1, up_ne a], fun i hi => by rw [fg 44 (by decide), e1, up_at, if_neg (fun y => hi y.2)], by rw [fg 44 (by decide), e1, up_at, if_pos ⟨rfl, rfl⟩], lg⟩
theorem CW.dr {W : WLD} {G' : Hp} (h : CW T W G) (f : ∀ c, 2 < c → c < 11 ∨ 18 < c → c < 111 → G' c = G c) : CW T W G' := by
  obtain ⟨h1, h2, ⟨nx, h3⟩, h4, h5, h6⟩ := h
  exact ⟨h1.fr (f _ (by omega) (by omega) (by omega)) (f _ (by omega) (by omega) (by omega)) (f _ (by omega) (by omega) (by omega)) (f _ (by omega) (by omega) (by omega)), h2.fr (f _ (by omega) (by omega) (by omega)) (f _ (by omega) (by omega) (by omega)), ⟨nx, h3.fr (fun c _ _ hc => f _ (by omega) (by omega) (by omega))⟩, h4.fr (fun c x y => f _ (by omega) (by omega) (by omega)), h5.fr (fun c x y => f _ (by omega) (by omega) (by omega)), h6.fr (fun c x => f _ (by omega) (by omega) (by omega))⟩
theorem x_ring {W : WLD} (w : WTp S) (x : XTp S G) (tb : XTb G) (n1 : n ≤ 1000) (hn : ∀ j, yk S j ≠ 0 → j < n) (h : CW T W G) : WP (fX11_ring 0 G) (fun r G' => r = (rgR S 1000 0 D0).1 ∧ G' 1 3 = 0 ∧ (∀ c, 110 < c → G' c = G c) ∧ G' 3 = G 3 ∧ (r ≠ 0 → CW T W G' ∧ G' 7 = G 7 ∧ G' 10 = G 10) ∧ (r = 0 → CW (TD S (rgR S 1000 0 D0).2) W0 G' ∧ (∀ i, i < dN (rgR S 1000 0 D0).2 → G' 7 i = yl S (dnn (rgR S 1000 0 D0).2 i)) ∧ ∀ i, i < dK (rgR S 1000 0 D0).2 → G' 10 i = yl S (dkn (rgR S 1000 0 D0).2 i))) := by
  have wd := rgR_w w 1000 0 D0 WD_0
  have rr := x_rdRing w x tb n1 hn
  obtain ⟨R, hR⟩ : ∃ R, rgR S 1000 0 D0 = R := ⟨_, rfl⟩
  rw [hR] at rr wd ⊢
  unfold fX11_ring
  rw [rf_0_0, rf_0_1, rf_0_2, rf_0_3, rf_0_5, rf_0_10, rf_0_11, rf_11_1]
  refine w_bn rr (fun v1 g2 q2 => ?_)
  obtain ⟨f2, r2, s2⟩ := q2
  refine w_bd (fun v3 e3 => ?_)
  have tc : WP (fX7_clear 1 g2) (fun _ G' => (∀ c, c ≠ 1 → G' c = g2 c) ∧ G' 1 3 = 0) := by
    unfold fX7_clear
    exact w_bh (fun g e => w_rt ⟨fun c hc => by rw [e, up_ne hc], by rw [e, up_at, if_pos ⟨rfl, rfl⟩]⟩)
  refine w_bn tc (fun _ g4 q4 => ?_)
  obtain ⟨f4, z4⟩ := q4
  have h4 : ∀ c, c ≠ 1 → c < 11 ∨ 18 < c → g4 c = G c := fun c a b => by rw [f4 c a, f2.1 c a b]
  refine w_ite (fun c0 => ?_) (fun c0 => ?_)
  · have v10 : v1 = 0 := by omega
    obtain ⟨xd, ls⟩ := s2 v10
    refine w_bn x_tcopy (fun _ g5 q5 => ?_)
    obtain ⟨f5, t5, a5, b5⟩ := q5
    refine w_bn (x_clear (q := 27) rf_27_0) (fun _ g6 q6 => ?_)
    obtain ⟨f6, -, a6⟩ := q6
    have t10 : WP (fX10_clear 19 g6) (fun _ G' => (∀ c, c ≠ 19 → G' c = g6 c) ∧ G' 19 3 = 0) := by
      unfold fX10_clear
      exact w_bh (fun g e => w_rt ⟨fun c hc => by rw [e, up_ne hc], by rw [e, up_at, if_pos ⟨rfl, rfl⟩]⟩)
    refine w_bn t10 (fun _ g7 q7 => ?_)
    obtain ⟨f7, z7⟩ := q7
    have t5' : WP (fX5_clear 39 g7) (fun _ G' => (∀ c, c ≠ 39 → G' c = g7 c) ∧ G' 39 4 = 0) := by
      unfold fX5_clear
      exact w_bh (fun g e => w_rt ⟨fun c hc => by rw [e, up_ne hc], by rw [e, up_at, if_pos ⟨rfl, rfl⟩]⟩)
    refine w_bn t5' (fun _ g8 q8 => ?_)
    obtain ⟨f8, z8⟩ := q8
    refine w_bn x_pclr (fun _ g9 q9 => w_rt ?_)
    obtain ⟨f9, p9, z9, m9⟩ := q9
    have k5 : ∀ c, c < 27 → c ≠ 19 → g9 c = g5 c := fun c a b => by rw [f9 c (by omega) (by omega), f8 c (by omega), f7 c b, f6 c (by omega) (by omega)]
    have k4 : ∀ c, c ≠ 1 → c < 4 ∨ 10 < c → c < 11 ∨ 18 < c → c ≠ 19 → c ≠ 27 → c ≠ 28 → c ≠ 39 → c ≠ 44 → c ≠ 82 → g9 c = G c := fun c a1 a2 a3 a4 a5 a6 a7 a8 a9 => by rw [f9 c a8 a9, f8 c a7, f7 c a4, f6 c a5 a6, f5 c a2, h4 c a1 a3]
    obtain ⟨d1, d2, d3, d4, d5, d6, d7, d8⟩ := xd
    have wN := wd.2.2.2.1
    have wK := wd.2.2.2.2.1
    refine ⟨by rw [e3]; exact r2, ?_, fun c hc => k4 c (by omega) (by omega) (by omega) (by omega) (by omega) (by omega) (by omega) (by omega) (by omega), k4 3 (by omega) (by omega) (by omega) (by omega) (by omega) (by omega) (by omega) (by omega) (by omega), fun y => absurd c0 y, fun _ => ⟨⟨?_, ?_, ?_, ⟨?_, fun i h0 h1 => ?_⟩, ⟨?_, fun i h0 h1 => ?_⟩, ⟨fun m hm => ⟨m9 m hm, fun z => ?_⟩, fun i hi => ?_, fun m hm i hi => ?_⟩⟩, fun i hi => ?_, fun i hi => ?_⟩⟩
    · rw [k5 1 (by omega) (by omega), f5 1 (by omega)]; exact z4
    · refine ⟨?_, ?_, ?_, ?_, fun i h0 h1 => ?_, fun i h0 h1 => ?_⟩
      · rw [k5 4 (by omega) (by omega), t5 0 (by omega), f4 12 (by decide)]; exact d1
      · rw [k5 4 (by omega) (by omega), t5 1 (by omega), f4 12 (by decide)]; exact d2
      · rw [k5 4 (by omega) (by omega), t5 2 (by omega), f4 12 (by decide)]; exact d4
      · rw [k5 4 (by omega) (by omega), t5 3 (by omega), f4 12 (by decide)]; exact d5
      · have h1' : i < (dN R.2 : Int) := h1
        have q := a5 i.toNat (by omega)
        have q2 := d7 i.toNat (by omega)
        rw [k5 5 (by omega) (by omega), k5 6 (by omega) (by omega), q.1, q.2.1, f4 13 (by decide), f4 14 (by decide)]
        exact ⟨q2.1, q2.2.1⟩
      · have h1' : i < (dK R.2 : Int) := h1
        rw [k5 9 (by omega) (by omega), (b5 i.toNat (by omega)).1, f4 17 (by decide)]
        exact ls i.toNat (by omega)
    · refine a6.fr ?_ ?_
      · rw [f9 27 (by decide) (by decide), f8 27 (by decide), f7 27 (by decide)]
      · rw [f9 28 (by decide) (by decide), f8 28 (by decide), f7 28 (by decide)]
    · obtain ⟨nx, hx⟩ := h.2.2.1
      refine ⟨nx, ?_, hx.2.1, z9, by decide, fun k hk => absurd hk (Nat.not_lt_zero k)⟩
      rw [p9 4 (by decide), f8 44 (by decide), f7 44 (by decide), f6 44 (by decide) (by decide), f5 44 (by omega), h4 44 (by decide) (by omega)]; exact hx.1
    · rw [f9 39 (by decide) (by decide)]; exact z8
    · have h1' : i < 0 := h1
      omega
    · rw [f9 19 (by decide) (by decide), f8 19 (by decide)]; exact z7
    · have h1' : i < 0 := h1
      omega
    · have z' : (0 : Int) = 1 := z
      omega
    · rw [k4 42 (by omega) (by omega) (by omega) (by omega) (by omega) (by omega) (by omega) (by omega) (by omega)]; exact h.2.2.2.2.2.2.1 i hi
    · rw [k4 (88 + 7 * m) (by omega) (by omega) (by omega) (by omega) (by omega) (by omega) (by omega) (by omega) (by omega)]; exact h.2.2.2.2.2.2.2 m hm i hi
    · rw [k5 7 (by omega) (by omega), (a5 i (by omega)).2.2, f4 15 (by decide)]; exact (d7 i hi).2.2
    · rw [k5 10 (by omega) (by omega), (b5 i (by omega)).2, f4 18 (by decide)]; exact (d8 i hi).2
  · refine w_rt ⟨by rw [e3]; exact r2, z4, fun c hc => h4 c (by omega) (by omega), h4 3 (by omega) (by omega), fun _ => ⟨h.dr (fun c a b _ => h4 c (by omega) b), h4 7 (by omega) (by omega), h4 10 (by omega) (by omega)⟩, fun y => absurd y c0⟩
/-- what readers keep -/
def RR (T : TT) (G : Hp) : Prop := XTb G ∧ MTb G ∧ (∀ i : Nat, (i : Int) < tN T → NmR (G 7 i) (G 119 i)) ∧ (∀ i : Nat, (i : Int) < tK T → NmR (G 10 i) (G 119 (8 + i))) ∧ (∀ i j : Nat, (i : Int) < tN T → (j : Int) < tN T → G 119 i = G 119 j → i = j) ∧ ∀ i j : Nat, (i : Int) < tK T → (j : Int) < tK T → G 119 (8 + i) = G 119 (8 + j) → i = j
theorem RR_k : RK RR := by
  intro T G G' h1 h2 h3 h4 h5 r
  unfold RR XTb MTb
  rw [h1 3 (by decide) (by decide) (by decide) (by decide) (by decide) (by decide) (by decide), h1 7 (by decide) (by decide) (by decide) (by decide) (by decide) (by decide) (by decide), h1 10 (by decide) (by decide) (by decide) (by decide) (by decide) (by decide) (by decide), h3, h5]
  exact r
theorem MT.t {G' : Hp} (wt : WT T) (h : MT T G) (f : ∀ i, i < 32 → G' 117 i = G 117 i) (f2 : G' 125 = G 125) : MT T G' := by
  obtain ⟨h1, h2, h3, h4, h5, h6⟩ := h
  have w1 := wt.1
  refine ⟨by rw [f 0 (by omega)]; exact h1, by rw [f 1 (by omega)]; exact h2, by rw [f 2 (by omega)]; exact h3, by rw [f 3 (by omega)]; exact h4, fun i a b => ?_, fun i a b => by rw [f2]; exact h6 i a b⟩
  rw [f _ (by omega), f _ (by omega)]; exact h5 i a b
theorem cs_1 {sn : Nat} {sc : Nat → Int} {i : Int} {K : Hp → RT} {Q : Int → Hp → Prop} (hI : Inv (PT RR) G) (hK : ∀ G', Inv (PT RR) G' → WP (K G') Q) : WP (gL_1 sn sc i K G) Q := by
  obtain ⟨T, W, o, c0, r0, ⟨S, w, x, m⟩, p⟩ := hI
  obtain ⟨p1, p2, p3, p4, p5, p6⟩ := p
  obtain ⟨n, n1, hn⟩ := tok_n w m
  have wd := rgR_w w 1000 0 D0 WD_0
  have xr := x_ring w x p1 n1 hn c0
  have mr : ∀ G1, MTp S G1 → MTb G1 → _ := fun G1 a b => m_ring (S := S) (G := G1) w a b
  obtain ⟨R, hR⟩ : ∃ R, rgR S 1000 0 D0 = R := ⟨_, rfl⟩
  rw [hR] at xr wd
  unfold gL_1
  refine w_bn (mg_wp xr) (fun v G1 q => ?_)
  obtain ⟨Ga, ⟨a1, a2, a3, a4, a5, a6⟩, e1⟩ := q
  have g1 : ∀ c, 110 < c → c < 129 → G1 c = G c := fun c h1 h2 => (e1 c h2).trans (a3 c h1)
  have m1 : MTp S G1 := m.fr (by rw [g1 111 (by decide) (by decide)]) (g1 112 (by decide) (by decide))
  have t1 : MTb G1 := fun i hi => by rw [g1 116 (by decide) (by decide)]; exact p2 i hi
  have mr1 := mr G1 m1 t1
  rw [hR] at mr1
  refine w_bn (mg_wp mr1) (fun v' G3 q => ?_)
  obtain ⟨Gb, ⟨b1, b2, b3, b4, b5⟩, e2⟩ := q
  rw [if_pos (a1.trans b1.symm)]
  have g3 : ∀ c, c < 111 → G3 c = Ga c := fun c hc => by rw [e2 c (by omega), b3 c (by omega), e1 c (by omega)]
  have xb : XTb G3 := fun i hi => by rw [g3 3 (by omega), a4]; exact p1 i hi
  have mb : MTb G3 := fun i hi => by rw [e2 116 (by omega), b3 116 (by omega)]; exact t1 i hi
  have tp : ∃ S, WTp S ∧ XTp S G3 ∧ MTp S G3 := by
    refine ⟨(0, fun _ => 0), ⟨Int.le_refl 0, by decide, fun i hi => ?_⟩, ⟨by rw [g3 1 (by omega)]; exact a2, fun i hi => ?_⟩, ⟨by rw [e2 111 (by omega)]; exact b2, fun i hi => ?_⟩⟩
    · have hi' : (i : Int) < 0 := hi
      omega
    · have hi' : (i : Int) < 0 := hi
      omega
    · have hi' : (i : Int) < 0 := hi
      omega
  by_cases z : R.1 = 0
  · obtain ⟨u1, u2, u3⟩ := a6 (a1.trans z)
    obtain ⟨y1, y2, y3⟩ := b5 (b1.trans z)
    obtain ⟨w1, w2, w3, w4, w5, w6, w7, w8, w9, w10, w11⟩ := wd
    refine hK G3 ⟨TD S R.2, W0, OW_D ⟨w1, w2, w3, w4, w5, w6, w7, w8, w9, w10, w11⟩, u1.e (fun c hc => g3 c hc), y1.e (OW_D ⟨w1, w2, w3, w4, w5, w6, w7, w8, w9, w10, w11⟩) (fun c h1 h2 => e2 c h2), tp, xb, mb, fun i hi => ?_, fun i hi => ?_, fun i j hi hj e => ?_, fun i j hi hj e => ?_⟩
    · have hi' : (i : Int) < (dN R.2 : Int) := hi
      rw [g3 7 (by omega), e2 119 (by omega), u2 i (by omega), y2 i (by omega)]
      exact tok_nm (w6 i (by omega)).2.2
    · have hi' : (i : Int) < (dK R.2 : Int) := hi
      rw [g3 10 (by omega), e2 119 (by omega), u3 i (by omega), y3 i (by omega)]
      exact tok_nm (w7 i (by omega)).2
    · have hi' : (i : Int) < (dN R.2 : Int) := hi
      have hj' : (j : Int) < (dN R.2 : Int) := hj
      rw [e2 119 (by omega), y2 i (by omega), y2 j (by omega)] at e
      exact w9 i j (by omega) (by omega) e
    · have hi' : (i : Int) < (dK R.2 : Int) := hi
      have hj' : (j : Int) < (dK R.2 : Int) := hj
      rw [e2 119 (by omega), y3 i (by omega), y3 j (by omega)] at e
      exact w10 i j (by omega) (by omega) e
  · obtain ⟨u1, u2, u3⟩ := a5 (fun y => z (a1.symm.trans y))
    obtain ⟨y1, y2, y3, y4⟩ := b4 (fun y => z (b1.symm.trans y))
    have g119 : ∀ i, i < 18 → G3 119 i = G 119 i := fun i hi => by rw [e2 119 (by omega), y3 i hi, g1 119 (by omega) (by omega)]
    have kk : ∀ c, 119 < c → c < 129 → G3 c = G c := fun c h1 h2 => by rw [e2 c h2, y1 c h1, g1 c (by omega) h2]
    have t1 := o.1.1
    have t2 := o.1.2.1
    refine hK G3 ⟨T, W, o, u1.e (fun c hc => g3 c hc), ?_, tp, xb, mb, fun i hi => ?_, fun i hi => ?_, fun i j hi hj e => ?_, fun i j hi hj e => ?_⟩
    · obtain ⟨h1, h2, h3, h4, h5, h6⟩ := r0
      have e := kk 123 (by omega) (by omega)
      exact ⟨MT.t o.1 h1 (fun i hi => by rw [e2 117 (by omega), y2 i hi, g1 117 (by omega) (by omega)]) (kk 125 (by omega) (by omega)), h2.fr e, h3.fr (by rw [e2 111 (by omega), y4, g1 111 (by omega) (by omega)]) (fun i _ _ => by rw [e]), h4.fr e, h5.fr (kk 120 (by omega) (by omega)), MM.fr o.2.2.2.2.2.1 h6 (kk 124 (by omega) (by omega)) (fun i _ _ => by rw [e])⟩
    · rw [g3 7 (by omega), u2, g119 i (by omega)]; exact p3 i hi
    · rw [g3 10 (by omega), u3, g119 (8 + i) (by omega)]; exact p4 i hi
    · rw [g119 i (by omega), g119 j (by omega)] at e; exact p5 i j hi hj e
    · rw [g119 (8 + i) (by omega), g119 (8 + j) (by omega)] at e; exact p6 i j hi hj e
end RDI
