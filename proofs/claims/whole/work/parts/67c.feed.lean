/-! THE TAPE: the case of feed -/
section TPG
variable {G : Hp} {T : TT}
/-- what a reader keeps between readings: `R` asks for these cells alone -/
def RK (R : TT → Hp → Prop) : Prop := ∀ T G G', (∀ c, c ≤ 26 → c ≠ 1 → c ≠ 2 → c ≠ 19 → c ≠ 20 → c ≠ 21 → c ≠ 22 → G' c = G c) → (∀ k, k ≠ 3 → G' 1 k = G 1 k) → G' 116 = G 116 → G' 117 = G 117 → G' 119 = G 119 → R T G → R T G'
def PT (R : TT → Hp → Prop) (T : TT) (G : Hp) : Prop := (∃ S, WTp S ∧ XTp S G ∧ MTp S G) ∧ R T G
theorem XTp.fr {S : TS} {G' : Hp} (h : XTp S G) (h1 : G' 1 3 = G 1 3) (h2 : G' 2 = G 2) : XTp S G' := ⟨by rw [h1]; exact h.1, by rw [h2]; exact h.2⟩
theorem MTp.fr {S : TS} {G' : Hp} (h : MTp S G) (h1 : G' 111 2 = G 111 2) (h2 : G' 112 = G 112) : MTp S G' := ⟨by rw [h1]; exact h.1, by rw [h2]; exact h.2⟩
theorem PT_k {R : TT → Hp → Prop} (hR : RK R) : TPK (PT R) := by
  intro T G G' h h2 h3 h4 h5 h6 p
  obtain ⟨⟨S, w, x, m⟩, r⟩ := p
  have e1 : G' 1 = G 1 := h 1 (by decide) (by decide) (by decide) (by decide) (by decide)
  have e2 : G' 2 = G 2 := h 2 (by decide) (by decide) (by decide) (by decide) (by decide)
  exact ⟨⟨S, w, x.fr (by rw [e1]) e2, m.fr h6 h2⟩, hR T G G' (fun c a _ _ x1 x2 x3 x4 => h c a x1 x2 x3 x4) (fun k _ => by rw [e1]) h3 h4 h5 r⟩
theorem PT_l {R : TT → Hp → Prop} (p : PT R T G) : G 1 3 = G 111 2 := by
  obtain ⟨⟨S, w, x, m⟩, r⟩ := p
  rw [x.1, m.1]
theorem CW.t {W : WLD} {G' : Hp} (h : CW T W G) (f : ∀ c, 2 < c → c < 111 → G' c = G c) : CW T W G' := by
  obtain ⟨h1, h2, ⟨nx, h3⟩, h4, h5, h6⟩ := h
  exact ⟨h1.fr (f _ (by omega) (by omega)) (f _ (by omega) (by omega)) (f _ (by omega) (by omega)) (f _ (by omega) (by omega)), h2.fr (f _ (by omega) (by omega)) (f _ (by omega) (by omega)), ⟨nx, h3.fr (fun c _ _ hc => f _ (by omega) (by omega))⟩, h4.fr (fun c x y => f _ (by omega) (by omega)), h5.fr (fun c x y => f _ (by omega) (by omega)), h6.fr (fun c x => f _ (by omega) (by omega))⟩
theorem RW.t {W : WLD} {G' : Hp} (o : OW T W) (h : RW T W G) (f : ∀ c, 112 < c → c < 129 → G' c = G c) (f1 : G' 111 18 = G 111 18) : RW T W G' := by
  obtain ⟨h1, h2, h3, h4, h5, h6⟩ := h
  have e := f 123 (by omega) (by omega)
  exact ⟨h1.fr (f _ (by omega) (by omega)) (f _ (by omega) (by omega)), h2.fr e, h3.fr f1 (fun i _ _ => by rw [e]), h4.fr e, h5.fr (f _ (by omega) (by omega)), MM.fr o.2.2.2.2.2.1 h6 (f _ (by omega) (by omega)) (fun i _ _ => by rw [e])⟩
def tp3 (a b c : Int) (S : TS) : TS := tpF c 8 (tpF b 8 (tpF a 8 S))
theorem tp3_w {a b c : Int} {S : TS} (w : WTp S) : WTp (tp3 a b c S) := tpF_w 8 (tpF_w 8 (tpF_w 8 w))
theorem x_feed {S : TS} (w : WTp S) (x : XTp S G) (a b c : Int) : WP (fX11_feed 0 a b c G) (fun r G' => r = (tp3 a b c S).1 ∧ XTp (tp3 a b c S) G' ∧ xtF G G') := by
  unfold fX11_feed
  rw [rf_0_0]
  refine w_bn (xt_add w x a) (fun _ G1 q1 => ?_)
  refine w_bn (xt_add (tpF_w 8 w) q1.1 b) (fun _ G2 q2 => ?_)
  refine w_bn (xt_add (tpF_w 8 (tpF_w 8 w)) q2.1 c) (fun _ G3 q3 => ?_)
  exact w_rt ⟨q3.1.1, q3.1, (q1.2.tr q2.2).tr q3.2⟩
theorem m_feed {S : TS} (w : WTp S) (x : MTp S G) (a b c : Int) : WP (fX12_feed 111 a b c G) (fun r G' => r = (tp3 a b c S).1 ∧ MTp (tp3 a b c S) G' ∧ (∀ c, c ≠ 111 → c ≠ 112 → G' c = G c) ∧ ∀ k, k ≠ 0 → k ≠ 2 → G' 111 k = G 111 k) := by
  unfold fX12_feed
  refine w_bh (fun G0 e0 => ?_)
  have z1 : ∀ c, c ≠ 111 → G0 c = G c := fun c hc => by rw [e0]; funext j; rw [up_at, if_neg (by omega)]
  have z2 : ∀ k, k ≠ 0 → G0 111 k = G 111 k := fun k hk => by rw [e0, up_at, if_neg (by omega)]
  refine w_bn (mt_add w (x.fr (z2 2 (by decide)) (z1 112 (by decide))) a) (fun _ G1 q1 => ?_)
  refine w_bn (mt_add (tpF_w 8 w) q1.1 b) (fun _ G2 q2 => ?_)
  refine w_bn (mt_add (tpF_w 8 (tpF_w 8 w)) q2.1 c) (fun _ G3 q3 => ?_)
  have f := (q1.2.tr q2.2).tr q3.2
  exact w_rt ⟨q3.1.1, q3.1, fun c h1 h2 => (f.1 c h1 h2).trans (z1 c h1), fun k h1 h2 => (f.2 k h2).trans (z2 k h1)⟩
theorem stepF {R : TT → Hp → Prop} (hR : RK R) {a b c : Int} {K : Hp → RT} {Q : Int → Hp → Prop} (hI : Inv (PT R) G) (hK : ∀ G', Inv (PT R) G' → WP (K G') Q) {C : Int → Hp → RT} (hC : ∀ v G1, C v G1 = bn (mg G1 (fX12_feed 111 a b c G1)) fun v' G3 => if v = v' then K G3 else rz 0 G3) : WP (bn (mg G (fX11_feed 0 a b c G)) C) Q := by
  obtain ⟨T, W, o, c0, r0, ⟨S, w, x, m⟩, p⟩ := hI
  refine w_bn (mg_wp (x_feed w x a b c)) (fun v G1 q => ?_)
  obtain ⟨Ga, ⟨a1, x1, f1⟩, e1⟩ := q
  rw [hC]
  have g1 : ∀ c, c ≠ 1 → c ≠ 2 → c < 129 → G1 c = G c := fun c h1 h2 h3 => (e1 c h3).trans (f1.1 c h1 h2)
  have m1 : MTp S G1 := m.fr (by rw [g1 111 (by decide) (by decide) (by decide)]) (g1 112 (by decide) (by decide) (by decide))
  refine w_bn (mg_wp (m_feed w m1 a b c)) (fun v' G3 q => ?_)
  obtain ⟨Gb, ⟨a2, x2, f2, f3⟩, e2⟩ := q
  rw [if_pos (a1.trans a2.symm)]
  have g3 : ∀ c, c ≠ 111 → c ≠ 112 → c < 129 → G3 c = G1 c := fun c h1 h2 h3 => (e2 c h3).trans (f2 c h1 h2)
  have g4 : ∀ c, c ≠ 1 → c ≠ 2 → c ≠ 111 → c ≠ 112 → c < 129 → G3 c = G c := fun c h1 h2 h3 h4 h5 => (g3 c h3 h4 h5).trans (g1 c h1 h2 h5)
  refine hK G3 ⟨T, W, o, c0.t (fun c h1 h2 => g4 c (by omega) (by omega) (by omega) (by omega) (by omega)), r0.t o (fun c h1 h2 => g4 c (by omega) (by omega) (by omega) (by omega) (by omega)) ?_, ⟨tp3 a b c S, tp3_w w, ?_, ?_⟩, hR T G G3 (fun c h1 h2 h3 _ _ _ _ => g4 c h2 h3 (by omega) (by omega) (by omega)) (fun k hk => ?_) (g4 116 (by decide) (by decide) (by decide) (by decide) (by decide)) (g4 117 (by decide) (by decide) (by decide) (by decide) (by decide)) (g4 119 (by decide) (by decide) (by decide) (by decide) (by decide)) p⟩
  · rw [e2 111 (by decide), f3 18 (by decide) (by decide), g1 111 (by decide) (by decide) (by decide)]
  · exact x1.fr (by rw [g3 1 (by decide) (by decide) (by decide), e1 1 (by decide)]) (by rw [g3 2 (by decide) (by decide) (by decide), e1 2 (by decide)])
  · exact x2.fr (by rw [e2 111 (by decide)]) (e2 112 (by decide))
  · rw [g3 1 (by decide) (by decide) (by decide), e1 1 (by decide)]; exact f1.2 k hk
theorem cs_0 {R : TT → Hp → Prop} (hR : RK R) {sn : Nat} {sc : Nat → Int} {i : Int} {K : Hp → RT} {Q : Int → Hp → Prop} (hi : 0 ≤ i) (hi2 : i + 7 ≤ sn) (hs : sn ≤ 3584) (hI : Inv (PT R) G) (hK : ∀ G', Inv (PT R) G' → WP (K G') Q) : WP (gL_0 sn sc i K G) Q := by
  have h1 : rdC sn sc (iadd i 1) = some (sc (i + 1).toNat) := rdC_in hi hi2 hs (by omega) (by omega)
  have h2 : rdC sn sc (iadd i 2) = some (sc (i + 2).toNat) := rdC_in hi hi2 hs (by omega) (by omega)
  have h3 : rdC sn sc (iadd i 3) = some (sc (i + 3).toNat) := rdC_in hi hi2 hs (by omega) (by omega)
  have h4 : rdC sn sc (iadd i 4) = some (sc (i + 4).toNat) := rdC_in hi hi2 hs (by omega) (by omega)
  have h5 : rdC sn sc (iadd i 5) = some (sc (i + 5).toNat) := rdC_in hi hi2 hs (by omega) (by omega)
  have h6 : rdC sn sc (iadd i 6) = some (sc (i + 6).toNat) := rdC_in hi hi2 hs (by omega) (by omega)
  unfold gL_0
  rw [h1, br_s, h2, br_s, h3, br_s, h4, br_s, h5, br_s, h6, br_s]
  exact stepF hR hI hK (fun v G1 => by rw [br_s, br_s, br_s, br_s, br_s, br_s])
end TPG
