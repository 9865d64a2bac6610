section WLDS
variable {b : Nat} {a : AS} {G : Hp} {T : TT}
/-! route -/
def RT1 (T : TT) (a : AS) (n p i : Int) : Prop := isi a n = 1 ∧ 0 ≤ p ∧ p < tC T ∧ skf T a n p ≠ -1 ∧ 0 ≤ i ∧ i < skt T a n p
theorem x_route (w : WT T) (hw : WA T a) (hA_G : XA 27 a G) (hT_G : XT T G) {n p i : Int} : WP (fX11_route 0 n p i G) (fun r G' => FCQ G G' ∧ XA 27 a G' ∧ ((RT1 T a n p i ∧ r = skN T a p n (i.toNat + 1)) ∨ (¬ RT1 T a n p i ∧ r = THR))) := by
  unfold fX11_route
  rw [rf_0_6, rf_29_2]
  refine w_bn (x_seek2 w hw hA_G hT_G (n := n) (p := p)) (fun v1 G2 y => ?_)
  obtain ⟨f2, sy, sn⟩ := y
  have FF : FCQ G G2 := fun c _ _ x3 x4 _ _ _ _ _ _ _ => f2 c x3 x4
  have A2 : XA 27 a G2 := hA_G.fr (f2 27 (by decide) (by decide)) (f2 28 (by decide) (by decide))
  have sr := skf_r hw w n p
  by_cases c : isi a n = 1 ∧ 0 ≤ p ∧ p < tC T
  · have s := sy c
    refine w_ite (fun z => ?_) (fun z => w_ite (fun z2 => ?_) (fun z2 => w_ite (fun z3 => w_ite (fun z4 => ?_) (fun z4 => ?_)) (fun z3 => ?_)))
    · exact w_rt ⟨FF, A2, Or.inr ⟨fun y => by have := y.2.2.2.1; omega, rfl⟩⟩
    · exact w_rt ⟨FF, A2, Or.inr ⟨fun y => by have := y.2.2.2.2; omega, rfl⟩⟩
    · refine w_rd (by omega) (by omega) (fun v3 hv3 => ?_)
      exact w_rt ⟨FF, A2, Or.inl ⟨⟨c.1, c.2.1, c.2.2, by omega, by omega, by omega⟩, by rw [hv3]; exact s.2.2.2 i (by omega) (by omega)⟩⟩
    · exfalso; omega
    · exact w_rt ⟨FF, A2, Or.inr ⟨fun y => by have := y.2.2.2.2; omega, rfl⟩⟩
  · have s := sn c
    rw [if_pos s.1]
    exact w_rt ⟨FF, A2, Or.inr ⟨fun y => c ⟨y.1, y.2.1, y.2.2.1⟩, rfl⟩⟩
theorem m_route (w : WT T) (hw : WA T a) (hR_G : MR 0 a G) (hM_G : MT T G) {n p i : Int} : WP (fX12_route 111 n p i G) (fun r G' => FRS G G' ∧ ((RT1 T a n p i ∧ r = skN T a p n (i.toNat + 1) ∧ G' 111 0 = 0) ∨ (¬ RT1 T a n p i ∧ G' 111 0 = 1))) := by
  have R1 : MR 0 a (up G 111 0 0) := hR_G.fr (up_ne (by decide))
  have M1 : MT T (up G 111 0 0) := hM_G.fr (up_ne (by decide)) (up_ne (by decide))
  have F1 : FRS G (up G 111 0 0) := FRS.th
  have z1 : up G 111 0 0 111 0 = 0 := by rw [up_at]; simp
  have wr := w.rg
  have ni := hw.inr (n := n)
  have sr := skf_r hw w n p
  unfold fX12_route
  rw [bh_s, rf_111_22]
  generalize up G 111 0 0 = G1 at R1 M1 F1 z1 ⊢
  rw [m_canFind w hw R1 M1, bp_s, jn_s]
  have thr : ∀ G4 : Hp, FRS G G4 → ¬ RT1 T a n p i → WP (bh (up G4 111 0 1) fun G8 => rt 0 G8) (fun r G' => FRS G G' ∧ ((RT1 T a n p i ∧ r = skN T a p n (i.toNat + 1) ∧ G' 111 0 = 0) ∨ (¬ RT1 T a n p i ∧ G' 111 0 = 1))) := fun G4 F4 no => by
    rw [bh_s]
    refine w_rt ⟨F4.tr ⟨fun c x _ _ _ _ => up_ne x, fun k x _ _ => by rw [up_at, if_neg (fun z => x z.2)], fun j _ => by rw [up_ne (by decide)]⟩, Or.inr ⟨no, by rw [up_at]; simp⟩⟩
  by_cases c : isi a n = 1 ∧ 0 ≤ p ∧ p < tC T
  · rw [if_pos c, if_neg (by decide)]
    refine w_bn (m_stepsTo (b := 0) w hw (by omega) R1 M1 (n := n) (p := p) (by omega) (by omega) (by omega)) (fun v G4 y => ?_)
    obtain ⟨f4, g4, e4, p4⟩ := y
    have F4 : FRS G G4 := F1.tr (FSx.S ⟨fun c x y' _ => f4 c x y', g4⟩)
    refine w_bd (fun v6 hv6 => ?_)
    refine w_jn ?_
    refine w_ite (fun z => ?_) (fun z => w_ite (fun z2 => ?_) (fun z2 => ?_))
    · exact thr G4 F4 (fun y => by have := y.2.2.2.2; omega)
    · refine w_rd (by omega) (by omega) (fun v9 hv9 => ?_)
      exact w_rt ⟨F4, Or.inl ⟨⟨c.1, c.2.1, c.2.2, by omega, by omega, by omega⟩, by rw [hv9]; exact p4 i (by omega) (by omega), by rw [g4 0 (by decide)]; exact z1⟩⟩
    · exact thr G4 F4 (fun y => by have := y.2.2.2; omega)
  · rw [if_neg c, if_pos rfl]
    refine w_bd (fun v6 hv6 => ?_)
    refine w_jn ?_
    have no : ¬ RT1 T a n p i := fun y => c ⟨y.1, y.2.1, y.2.2.1⟩
    refine w_ite (fun z => thr G1 F1 no) (fun z => w_ite (fun z2 => ?_) (fun z2 => thr G1 F1 no))
    exfalso; omega
theorem skN_r (w : WT T) (hw : WA T a) {p n : Int} (k : Nat) : -1 ≤ skN T a p n (k + 1) ∧ skN T a p n (k + 1) < tN T := by
  have wr := w.rg
  have := farb_rng hw w (skN T a p n k) (wy (tC T) (tp T (skN T a p n k)) p)
  show -1 ≤ farb T a (skN T a p n k) (wy (tC T) (tp T (skN T a p n k)) p) ∧ farb T a (skN T a p n k) (wy (tC T) (tp T (skN T a p n k)) p) < tN T
  omega
theorem mg_wp9 {o : RT} {Q : Int → Hp → Prop} (h : WP o Q) : WP (mg G o) (fun r G' => ∃ G0, Q r G0 ∧ (∀ c, c < 129 → G' c = G0 c) ∧ G' 129 = G 129) := by
  obtain ⟨r, g, h1, h2⟩ := h
  refine ⟨r, mrg g G, by unfold mg; rw [h1], g, h2, fun c hc => ?_, ?_⟩
  · unfold mrg; rw [if_pos hc]
  · unfold mrg; rw [if_neg (by decide)]
theorem lcmp_self (v : Int) : lcmp' v v = 0 := by unfold lcmp'; rw [if_neg (by omega), if_pos rfl]
theorem cs_21 {P : TT → Hp → Prop} (hP : TPK P) {sn : Nat} {sc : Nat → Int} {i : Int} {K : Hp → RT} {Q : Int → Hp → Prop} (hi : 0 ≤ i) (hi2 : i + 7 ≤ sn) (hs : sn ≤ 3584) (hI : Inv P G) (hK : ∀ G', Inv P G' → WP (K G') Q) : WP (gL_21 sn sc i K G) Q := by
  have h1 : rdC sn sc (iadd i 1) = some (sc (i + 1).toNat) := rdC_in hi hi2 hs (by omega) (by omega)
  have h2 : rdC sn sc (iadd i 2) = some (sc (i + 2).toNat) := rdC_in hi hi2 hs (by omega) (by omega)
  have h3 : rdC sn sc (iadd i 3) = some (sc (i + 3).toNat) := rdC_in hi hi2 hs (by omega) (by omega)
  unfold gL_21
  rw [h1, br_s, h2, br_s, h3, br_s]
  obtain ⟨T, W, o, cw, r, pp⟩ := hI
  have wr := o.1.rg
  obtain ⟨v, G0, e0, F0, A0, y0⟩ := x_route (i := sc (i + 3).toNat) o.1 o.2.1 cw.2.1 cw.1 (n := sc (i + 1).toNat) (p := sc (i + 2).toNat)
  have sk := skN_r o.1 o.2.1 (p := sc (i + 2).toNat) (n := sc (i + 1).toNat) (sc (i + 3).toNat).toNat
  have key : ∃ (v5 : Int) (G4 : Hp), fL_route (sc (i + 1).toNat) (sc (i + 2).toNat) (sc (i + 3).toNat) G = some (v5, G4) ∧ (∀ c, c < 129 → G4 c = G0 c) ∧ ((RT1 T W.1 (sc (i + 1).toNat) (sc (i + 2).toNat) (sc (i + 3).toNat) ∧ v5 = 0 ∧ G4 129 0 = skN T W.1 (sc (i + 2).toNat) (sc (i + 1).toNat) ((sc (i + 3).toNat).toNat + 1)) ∨ (¬ RT1 T W.1 (sc (i + 1).toNat) (sc (i + 2).toNat) (sc (i + 3).toNat) ∧ v5 = 1)) := by
    unfold fL_route
    rw [e0]
    rcases y0 with y | y
    · have hv : ¬ v = THR := by rw [y.2]; unfold THR; omega
      refine ⟨0, up (mrg G0 G) 129 0 v, if_neg hv, fun c hc => by rw [up_ne (by omega)]; unfold mrg; rw [if_pos hc], Or.inl ⟨y.1, rfl, by rw [up_at]; simp; exact y.2⟩⟩
    · exact ⟨1, mrg G0 G, if_pos y.2, fun c hc => by unfold mrg; rw [if_pos hc], Or.inr ⟨y.1, rfl⟩⟩
  obtain ⟨v5, G4, e5, c4, y5⟩ := key
  rw [e5, bn_s, bd_s, br_s, br_s, br_s]
  have cw4 : CW T W G4 := (cw.q F0 A0).e (fun c x => c4 c (by omega))
  have r4 : RW T W G4 := r.e o (fun c x y => by rw [c4 c y, F0.at (by omega)])
  refine w_bn (mg_wp9 (m_route (i := sc (i + 3).toNat) o.1 o.2.1 r4.2.1 r4.1 (n := sc (i + 1).toNat) (p := sc (i + 2).toNat))) (fun v11 G10 q => ?_)
  obtain ⟨G5, ⟨F5, y6⟩, e6, e7⟩ := q
  rw [bd_s]
  refine w_bn (mg_wp9 (show WP (fX12_thrown 111 G10) (fun r G' => r = G10 111 0 ∧ G' = G10) from ⟨_, _, rfl, rfl, rfl⟩)) (fun v14 G13 q => ?_)
  obtain ⟨G11, ⟨ev, eg⟩, e8, e9⟩ := q
  rw [eg] at e8
  have t0 : v14 = G5 111 0 := by rw [ev, e6 111 (by decide)]
  have a13 : ∀ c, c < 129 → G13 c = G5 c := fun c x => by rw [e8 c x, e6 c x]
  have i13 : Inv P G13 := by
    have fr : ∀ c, c < 111 → G13 c = G4 c := fun c x => by rw [a13 c (by omega), F5.1 c (by omega) (by omega) (by omega) (by omega) (by omega)]
    have c40 : ∀ c, c ≤ 26 → G4 c = G c := fun c x => by rw [c4 c (by omega), F0.at (by omega)]
    have cm : ∀ c, 111 ≤ c → c < 129 → G4 c = G c := fun c x y => by rw [c4 c y, F0.at (by omega)]
    have fm : ∀ c, 111 < c → c < 123 → G13 c = G c := fun c x y => by rw [a13 c (by omega), F5.1 c (by omega) (by omega) (by omega) (by omega) (by omega), cm c (by omega) (by omega)]
    exact ⟨T, W, o, cw4.e fr, (RW.q o r4 F5).e o (fun c x y => a13 c y), hP T G G13 (fun c x _ _ _ _ => by rw [fr c (by omega), c40 c x]) (fm 112 (by decide) (by decide)) (fm 116 (by decide) (by decide)) (fm 117 (by decide) (by decide)) (fm 119 (by decide) (by decide)) (by rw [a13 111 (by decide), F5.2.1 2 (by decide) (by decide) (by decide), cm 111 (by decide) (by decide)]) pp⟩
  rcases y5 with ⟨z1, z2, z3⟩ | ⟨z1, z2⟩
  · rcases y6 with ⟨w1, w2, w3⟩ | ⟨w1, w2⟩
    · rw [if_pos (by omega), jn_s, if_pos z2, rd_in (by decide) (by decide), br_s, show (0 : Int).toNat = 0 from rfl, e9, e7, z3, w2, lcmp_self, if_pos rfl]
      exact hK G13 i13
    · exact absurd z1 w1
  · rcases y6 with ⟨w1, w2, w3⟩ | ⟨w1, w2⟩
    · exact absurd w1 z1
    · rw [if_pos (by omega), jn_s, if_neg (by omega)]
      exact hK G13 i13
end WLDS
