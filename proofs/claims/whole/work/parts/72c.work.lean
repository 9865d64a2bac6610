/-! READING A WORK: the case of work -/
section WKC
variable {S : TS} {G : Hp} {n : Nat} {T : TT}
theorem x_rdWork {P : NP} (w : WTp S) (x : XTp S G) (tb : XTb G) (n1 : n ≤ 1000) (hn : ∀ j, yk S j ≠ 0 → j < n) (xn : XNm P G) (u : UNm P) : WP (fX10_readWork 23 1 4 G) (fun r G' => FW G G' ∧ r = (rwR P S 1000 0 E0).1 ∧ (r = 0 → XE (rwR P S 1000 0 E0).2 G')) := by
  obtain ⟨R, hR⟩ : ∃ R, rwR P S 1000 0 E0 = R := ⟨_, rfl⟩
  rw [hR]
  unfold fX10_readWork
  refine w_bh (fun g1 e1 => ?_)
  have F1 : FW G g1 := FWu (FW.rf G) e1 (by omega)
  have x1 : XTp S g1 := x.fr (F1.2 3 (by omega)) (F1.1 2 (by decide) (by omega))
  have t1 : XTb g1 := fun i hi => by rw [F1.1 3 (by decide) (by omega)]; exact tb i hi
  refine w_bn (x_restart w x1 t1) (fun _ g2 q2 => ?_)
  have xe2 : XE E0 g2 := ⟨by rw [q2.1.1 23 (by decide), e1, up_at, if_pos ⟨rfl, rfl⟩]; rfl, fun i hi => absurd hi (Nat.not_lt_zero i)⟩
  refine w_bd (fun v3 e3 => ?_)
  refine w_bd (fun v4 e4 => ?_)
  refine w_lpIIH (fun v5 v6 g => FW G g ∧ ∃ (i f j : Nat) (E : EW), v6 = i ∧ i ≤ 1000 ∧ n ≤ f + j ∧ i ≤ j ∧ WE P E ∧ ((v5 = 1 ∧ XJ S j 0 g ∧ XE E g ∧ rwR P S f j E = R) ∨ (v5 = 0 ∧ g 1 8 = R.1 ∧ R.1 ≠ 0))) (fun _ v6 _ => (1000 - v6).toNat) (fun rc v5 v6 g hI hr => ?_) v3 v4 g2 ⟨F1.tr (FW.o8 q2.1), 0, 1000, 0, E0, e4, by omega, by omega, by omega, WE_0, Or.inl ⟨e3, q2.2, xe2, hR⟩⟩ (by omega)
  obtain ⟨fg, i, f, j, E, h6, hi, hf, hij, we, hc⟩ := hI
  refine w_jnP (fun K9 hK => ?_)
  rcases hc with ⟨c1, c2, c3, c4⟩ | ⟨c1, c2, c3⟩
  · have fin : yk S j = 0 → WP K9 (fun r G' => FW G G' ∧ r = R.1 ∧ (r = 0 → XE R.2 G')) := by
      intro k0
      rw [rwR_e k0] at c4
      rw [hK, ← c4]
      exact w_rt ⟨fg, c2.2.2.2, fun _ => c3⟩
    refine w_ite (fun a1 => ?_) (fun a1 => ?_)
    · refine w_ite (fun y => by omega) (fun _ => ?_)
      rw [x_kin c2]
      refine w_ite (fun k0 => fin k0) (fun k0 => ?_)
      have jn := hn j k0
      obtain ⟨f', rfl⟩ : ∃ f', f = f' + 1 := ⟨f - 1, by omega⟩
      have ju := wJ_up (S := S) (j := j)
      refine w_bn (x_wline w c2 (xn.fr fg) u c3 we) (fun v10 g11 q11 => ?_)
      refine w_bd (fun v12 e12 => ?_)
      refine w_bd (fun v13 e13 => ?_)
      rw [iadd_id (by omega) (by omega)] at e13
      rcases q11.2 with ⟨b1, b2, b3, b4⟩ | ⟨b1, b2, b3⟩
      · rw [rwR_s k0 b1] at c4
        exact hr v12 v13 g11 ⟨fg.tr q11.1, i + 1, f', wJ S j + 1, wkE P S E j, by omega, by omega, by omega, by omega, WE_ln w we b1, Or.inl ⟨by omega, b3, b4, c4⟩⟩ (by omega)
      · rw [rwR_n k0 b1] at c4
        refine hr v12 v13 g11 ⟨fg.tr q11.1, i + 1, f', j + 1, E, by omega, by omega, by omega, by omega, we, Or.inr ⟨by omega, ?_, ?_⟩⟩ (by omega)
        · rw [← c4]; exact b3
        · rw [← c4]; exact b1
    · refine fin ?_
      by_cases k0 : yk S j = 0
      · exact k0
      · have := hn j k0; omega
  · have fin : WP K9 (fun r G' => FW G G' ∧ r = R.1 ∧ (r = 0 → XE R.2 G')) := by
      rw [hK]
      exact w_rt ⟨fg, c2, fun y => absurd (c2.symm.trans y) c3⟩
    exact w_ite (fun _ => w_ite (fun _ => fin) (fun y => absurd c1 y)) (fun _ => fin)
def wkK (E : EW) : WK := ((E.1 : Int), fun i => E.2.1 i.toNat, fun i => E.2.2.1 i.toNat, fun i => E.2.2.2 i.toNat)
def wW (W : WLD) (E : EW) : WLD := (W.1, W.2.1, W.2.2.1, wkK E, W.2.2.2.2)
theorem x_wcopy : WP (fX10_copyFrom 19 23 G) (fun _ G' => (∀ c, c < 19 ∨ 22 < c → G' c = G c) ∧ G' 19 3 = G 23 3 ∧ ∀ i : Nat, i < 40 → G' 20 i = G 24 i ∧ G' 21 i = G 25 i ∧ G' 22 i = G 26 i) := by
  unfold fX10_copyFrom
  rw [rf_19_0, rf_19_1, rf_19_2, rf_23_0, rf_23_1, rf_23_2]
  refine w_bh (fun g1 e1 => ?_)
  have h1 : ∀ c, c ≠ 19 → g1 c = G c := fun c hc => by rw [e1, up_ne hc]
  refine w_cp (by omega) (by omega) (by omega) (fun g2 f2 b2 => ?_)
  refine w_cp (by omega) (by omega) (by omega) (fun g3 f3 b3 => ?_)
  refine w_cp (by omega) (by omega) (by omega) (fun g4 f4 b4 => w_rt ⟨fun c hc => ?_, ?_, fun i hi => ⟨?_, ?_, ?_⟩⟩)
  · rw [f4 c (by omega), f3 c (by omega), f2 c (by omega), h1 c (by omega)]
  · rw [f4 19 (by decide), f3 19 (by decide), f2 19 (by decide), e1, up_at, if_pos ⟨rfl, rfl⟩]
  · rw [f4 20 (by decide), f3 20 (by decide), b2 i (by omega), h1 24 (by decide)]
  · rw [f4 21 (by decide), b3 i (by omega), f2 25 (by decide), h1 25 (by decide)]
  · rw [b4 i (by omega), f3 26 (by decide), f2 26 (by decide), h1 26 (by decide)]
theorem x_work {W : WLD} {P : NP} (w : WTp S) (x : XTp S G) (tb : XTb G) (n1 : n ≤ 1000) (hn : ∀ j, yk S j ≠ 0 → j < n) (xn : XNm P G) (u : UNm P) (h : CW T W G) : WP (fX11_work 0 G) (fun r G' => r = (rwR P S 1000 0 E0).1 ∧ G' 1 3 = 0 ∧ (∀ c, 110 < c → G' c = G c) ∧ (∀ c, 1 < c → c < 19 → G' c = G c) ∧ (r ≠ 0 → CW T W G') ∧ (r = 0 → CW T (wW W (rwR P S 1000 0 E0).2) G')) := by
  have we := rwR_w (P := P) w 1000 0 E0 WE_0
  have rr := x_rdWork w x tb n1 hn xn u
  obtain ⟨R, hR⟩ : ∃ R, rwR P S 1000 0 E0 = R := ⟨_, rfl⟩
  rw [hR] at rr we ⊢
  unfold fX11_work
  rw [rf_0_0, rf_0_1, rf_0_3, rf_0_4]
  refine w_bn rr (fun v1 g2 q2 => ?_)
  obtain ⟨f2, r2, s2⟩ := q2
  refine w_bd (fun v3 e3 => ?_)
  have tc : WP (fX7_clear 1 g2) (fun _ G' => (∀ c, c ≠ 1 → G' c = g2 c) ∧ G' 1 3 = 0) := by
    unfold fX7_clear
    exact w_bh (fun g e => w_rt ⟨fun c hc => by rw [e, up_ne hc], by rw [e, up_at, if_pos ⟨rfl, rfl⟩]⟩)
  refine w_bn tc (fun _ g4 q4 => ?_)
  obtain ⟨f4, z4⟩ := q4
  have h4 : ∀ c, c ≠ 1 → c < 23 ∨ 26 < c → g4 c = G c := fun c a b => by rw [f4 c a, f2.1 c a b]
  obtain ⟨h1, h2, ⟨nx, h3⟩, h5, h6, h7⟩ := h
  refine w_ite (fun c0 => ?_) (fun c0 => ?_)
  · have v10 : v1 = 0 := by omega
    have xe := s2 v10
    refine w_bn x_wcopy (fun _ g5 q5 => w_rt ?_)
    obtain ⟨f5, t5, a5⟩ := q5
    have k5 : ∀ c, c ≠ 1 → c < 19 ∨ 26 < c → g5 c = G c := fun c a b => by rw [f5 c (by omega), h4 c a (by omega)]
    refine ⟨by rw [e3]; exact r2, by rw [f5 1 (by omega)]; exact z4, fun c hc => k5 c (by omega) (by omega), fun c a b => k5 c (by omega) (by omega), fun y => absurd c0 y, fun _ => ⟨h1.fr (k5 _ (by omega) (by omega)) (k5 _ (by omega) (by omega)) (k5 _ (by omega) (by omega)) (k5 _ (by omega) (by omega)), h2.fr (k5 _ (by omega) (by omega)) (k5 _ (by omega) (by omega)), ⟨nx, h3.fr (fun c _ _ hc => k5 _ (by omega) (by omega))⟩, h5.fr (fun c x y => k5 _ (by omega) (by omega)), ⟨?_, fun i i0 i1 => ?_⟩, h7.fr (fun c x => k5 _ (by omega) (by omega))⟩⟩
    · rw [t5, f4 23 (by decide)]; exact xe.1
    · have i1' : i < (R.2.1 : Int) := i1
      have w40 := we.1
      have q := xe.2 i.toNat (by omega)
      have q2 := a5 i.toNat (by omega)
      rw [q2.1, q2.2.1, q2.2.2, f4 24 (by decide), f4 25 (by decide), f4 26 (by decide)]
      exact q
  · refine w_rt ⟨by rw [e3]; exact r2, z4, fun c hc => h4 c (by omega) (by omega), fun c a b => h4 c (by omega) (by omega), fun _ => ⟨h1.fr (h4 _ (by omega) (by omega)) (h4 _ (by omega) (by omega)) (h4 _ (by omega) (by omega)) (h4 _ (by omega) (by omega)), h2.fr (h4 _ (by omega) (by omega)) (h4 _ (by omega) (by omega)), ⟨nx, h3.fr (fun c _ _ hc => h4 _ (by omega) (by omega))⟩, h5.fr (fun c x y => h4 _ (by omega) (by omega)), h6.fr (fun c x y => h4 _ (by omega) (by omega)), h7.fr (fun c x => h4 _ (by omega) (by omega))⟩, fun y => absurd y c0⟩
theorem cs_2 {sn : Nat} {sc : Nat → Int} {i : Int} {K : Hp → RT} {Q : Int → Hp → Prop} (hI : Inv (PT RR) G) (hK : ∀ G', Inv (PT RR) G' → WP (K G') Q) : WP (gL_2 sn sc i K G) Q := by
  obtain ⟨T, W, o, c0, r0, ⟨S, w, x, m⟩, p⟩ := hI
  obtain ⟨p1, p2, p3, p4, p5, p6⟩ := p
  obtain ⟨n, n1, hn⟩ := tok_n w m
  have t1 := o.1.1
  have t2 := o.1.2.1
  obtain ⟨P, hP⟩ : ∃ P : NP, P = (fun i => G 119 i, (tN T).toNat, fun i => G 119 (8 + i), (tK T).toNat) := ⟨_, rfl⟩
  have un : UNm P := by
    rw [hP]
    exact ⟨by show (tN T).toNat ≤ 8; omega, by show (tK T).toNat ≤ 10; omega, fun i j hi hj e => p5 i j (by have hi' : i < (tN T).toNat := hi; omega) (by have hj' : j < (tN T).toNat := hj; omega) e, fun i j hi hj e => p6 i j (by have hi' : i < (tK T).toNat := hi; omega) (by have hj' : j < (tK T).toNat := hj; omega) e⟩
  have xn : XNm P G := by
    rw [hP]
    refine ⟨?_, ?_, fun i hi => p3 i (by have hi' : i < (tN T).toNat := hi; omega), fun i hi => p4 i (by have hi' : i < (tK T).toNat := hi; omega)⟩
    · show G 4 2 = (((tN T).toNat : Nat) : Int); rw [c0.1.2.2.1]; omega
    · show G 4 3 = (((tK T).toNat : Nat) : Int); rw [c0.1.2.2.2.1]; omega
  have mn : MNm P G := by
    rw [hP]
    refine ⟨?_, ?_, fun i hi => rfl, fun i hi => rfl⟩
    · show G 117 2 = (((tN T).toNat : Nat) : Int); rw [r0.1.2.2.1]; omega
    · show G 117 3 = (((tK T).toNat : Nat) : Int); rw [r0.1.2.2.2.1]; omega
  have we := rwR_w (P := P) w 1000 0 E0 WE_0
  have xr := x_work w x p1 n1 hn xn un c0
  have mr : ∀ G1, MTp S G1 → MTb G1 → MNm P G1 → _ := fun G1 a b c => m_work (S := S) (G := G1) w a b c un
  obtain ⟨R, hR⟩ : ∃ R, rwR P S 1000 0 E0 = R := ⟨_, rfl⟩
  rw [hR] at xr we
  unfold gL_2
  refine w_bn (mg_wp xr) (fun v G1 q => ?_)
  obtain ⟨Ga, ⟨a1, a2, a3, a4, a5, a6⟩, e1⟩ := q
  have g1 : ∀ c, 110 < c → c < 129 → G1 c = G c := fun c h1 h2 => (e1 c h2).trans (a3 c h1)
  have m1 : MTp S G1 := m.fr (by rw [g1 111 (by decide) (by decide)]) (g1 112 (by decide) (by decide))
  have tb1 : MTb G1 := fun i hi => by rw [g1 116 (by decide) (by decide)]; exact p2 i hi
  have mn1 : MNm P G1 := by unfold MNm; rw [g1 117 (by decide) (by decide), g1 119 (by decide) (by decide)]; exact mn
  have mr1 := mr G1 m1 tb1 mn1
  rw [hR] at mr1
  refine w_bn (mg_wp mr1) (fun v' G3 q => ?_)
  obtain ⟨Gb, ⟨b1, b2, b3, b4, b5, b6⟩, e2⟩ := q
  rw [if_pos (a1.trans b1.symm)]
  have g3 : ∀ c, c < 111 → G3 c = Ga c := fun c hc => by rw [e2 c (by omega), b3 c (by omega) (by omega) (by omega) (by omega) (by omega), e1 c (by omega)]
  have kk : ∀ c, c = 116 ∨ c = 117 ∨ c = 119 ∨ (120 < c ∧ c < 129) → G3 c = G c := fun c h1 => by rw [e2 c (by omega), b3 c (by omega) (by omega) (by omega) (by omega) (by omega), g1 c (by omega) (by omega)]
  have tp : ∃ S, WTp S ∧ XTp S G3 ∧ MTp S G3 := by
    refine ⟨(0, fun _ => 0), ⟨Int.le_refl 0, by decide, fun i hi => ?_⟩, ⟨by rw [g3 1 (by omega)]; exact a2, fun i hi => ?_⟩, ⟨by rw [e2 111 (by omega)]; exact b2, fun i hi => ?_⟩⟩
    · have hi' : (i : Int) < 0 := hi
      omega
    · have hi' : (i : Int) < 0 := hi
      omega
    · have hi' : (i : Int) < 0 := hi
      omega
  have rr : RR T G3 := by
    unfold RR XTb MTb
    rw [g3 3 (by omega), a4 3 (by omega) (by omega), g3 7 (by omega), a4 7 (by omega) (by omega), g3 10 (by omega), a4 10 (by omega) (by omega), kk 116 (by omega), kk 119 (by omega)]
    exact ⟨p1, p2, p3, p4, p5, p6⟩
  obtain ⟨h1, h2, h3, h4, h5, h6⟩ := r0
  have e := kk 123 (by omega)
  have h18 : G3 111 18 = G 111 18 := by rw [e2 111 (by omega), b4, g1 111 (by omega) (by omega)]
  obtain ⟨o1, o2, o3, o4, o5, o6, o7⟩ := o
  by_cases z : R.1 = 0
  · have u1 := a6 (a1.trans z)
    obtain ⟨y1, y2⟩ := b6 (b1.trans z)
    refine hK G3 ⟨T, wW W R.2, ⟨o1, o2, o3, o4, ?_, o6, o7⟩, u1.e (fun c hc => g3 c hc), ⟨h1.fr (kk 117 (by omega)) (kk 125 (by omega)), h2.fr e, h3.fr h18 (fun i _ _ => by rw [e]), h4.fr e, ⟨?_, fun i i0 i1 => ?_⟩, MM.fr o6 h6 (kk 124 (by omega)) (fun i _ _ => by rw [e])⟩, tp, rr⟩
    · have w40 := we.1
      rw [hP] at we
      refine ⟨⟨by show (0 : Int) ≤ (R.2.1 : Int); omega, by show (R.2.1 : Int) ≤ 40; omega⟩, fun i i0 i1 => ?_⟩
      have i1' : i < (R.2.1 : Int) := i1
      have q := we.2 i.toNat (by omega)
      have eN : (((tN T).toNat : Nat) : Int) = tN T := by omega
      have eK : (((tK T).toNat : Nat) : Int) = tK T := by omega
      simp only at q
      rw [eN, eK] at q
      exact q
    · rw [e2 120 (by omega)]; exact y1
    · have i1' : i < (R.2.1 : Int) := i1
      have q := y2 i.toNat (by omega)
      rw [e2 120 (by omega), show (1 + 3 * i).toNat = 1 + 3 * i.toNat by omega, show (1 + 3 * i + 1).toNat = 1 + 3 * i.toNat + 1 by omega, show (1 + 3 * i + 2).toNat = 1 + 3 * i.toNat + 2 by omega]
      exact q
  · have u1 := a5 (fun y => z (a1.symm.trans y))
    have y1 := b5 (fun y => z (b1.symm.trans y))
    refine hK G3 ⟨T, W, ⟨o1, o2, o3, o4, o5, o6, o7⟩, u1.e (fun c hc => g3 c hc), ⟨h1.fr (kk 117 (by omega)) (kk 125 (by omega)), h2.fr e, h3.fr h18 (fun i _ _ => by rw [e]), h4.fr e, ?_, MM.fr o6 h6 (kk 124 (by omega)) (fun i _ _ => by rw [e])⟩, tp, rr⟩
    have l40 := o5.1
    have k120 : ∀ i, i < 121 → G3 120 i = G 120 i := fun i hi => by rw [e2 120 (by omega), y1 i hi, g1 120 (by omega) (by omega)]
    obtain ⟨v1, v2⟩ := h5
    refine ⟨by rw [k120 0 (by omega)]; exact v1, fun i i0 i1 => ?_⟩
    have q := v2 i i0 i1
    rw [k120 _ (by omega), k120 _ (by omega), k120 _ (by omega)]
    exact q
end WKC
