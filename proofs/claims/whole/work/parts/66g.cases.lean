section WLDS
variable {b : Nat} {a : AS} {G : Hp} {T : TT}
/-! the law's cases -/
theorem stepP {P : TT → Hp → Prop} (hP : TPK P) {f g : Hp → RT} {K : Hp → RT} {Q : Int → Hp → Prop} {C : Int → Hp → RT} (hI : Inv P G) (hs : ∀ T W, OW T W → CW T W G → P T G → ∃ W' A, OW T W' ∧ (∀ r r', A r → A r' → r = r') ∧ WP (f G) (fun r G' => A r ∧ CW T W' G' ∧ (∀ c, 111 ≤ c → G' c = G c) ∧ (∀ c, c ≤ 26 → G' c = G c)) ∧ ∀ G1, RW T W G1 → G1 111 2 = G 111 2 → WP (g G1) (SMK T W' A G1)) (hK : ∀ G', Inv P G' → WP (K G') Q) (hC : ∀ v G1, C v G1 = bn (mg G1 (g G1)) fun v' G3 => if v = v' then K G3 else rz 0 G3) : WP (bn (mg G (f G)) C) Q := by
  obtain ⟨T, W, o, c, r, p⟩ := hI
  obtain ⟨W', A, o', u, sx, sm⟩ := hs T W o c p
  refine w_bn (mg_wp sx) (fun v G1 q => ?_)
  obtain ⟨G0, ⟨a1, c1, k1, k2⟩, e1⟩ := q
  have r1 : RW T W G1 := r.e o (fun c x y => by rw [e1 c (by omega), k1 c x])
  rw [hC]
  refine w_bn (mg_wp (sm G1 r1 (by rw [e1 111 (by omega), k1 111 (by omega)]))) (fun v' G3 q => ?_)
  obtain ⟨G2, ⟨a2, r2, m1, m2, m3, m4, m5, m6⟩, e2⟩ := q
  rw [if_pos (u v v' a1 a2)]
  refine hK G3 ⟨T, W', o', c1.e (fun c x => by rw [e2 c (by omega), m1 c x, e1 c (by omega)]), r2.e o' (fun c x y => e2 c (by omega)), hP T G G3 (fun c x _ _ _ _ => by rw [e2 c (by omega), m1 c (by omega), e1 c (by omega), k2 c x]) ?_ ?_ ?_ ?_ ?_ p⟩
  · rw [e2 112 (by decide), m2, e1 112 (by decide), k1 112 (by decide)]
  · rw [e2 116 (by decide), m3, e1 116 (by decide), k1 116 (by decide)]
  · rw [e2 117 (by decide), m4, e1 117 (by decide), k1 117 (by decide)]
  · rw [e2 119 (by decide), m5, e1 119 (by decide), k1 119 (by decide)]
  · rw [e2 111 (by decide), m6, e1 111 (by decide), k1 111 (by decide)]
theorem step3 {P : TT → Hp → Prop} (hP : TPK P) {f g : Hp → RT} {K : Hp → RT} {Q : Int → Hp → Prop} {C : Int → Hp → RT} (hI : Inv P G) (hs : ∀ T W, OW T W → ∃ W' A, OW T W' ∧ (∀ r r', A r → A r' → r = r') ∧ SX T f W W' A ∧ SM T g W W' A) (hK : ∀ G', Inv P G' → WP (K G') Q) (hC : ∀ v G1, C v G1 = bn (mg G1 (g G1)) fun v' G3 => if v = v' then K G3 else rz 0 G3) : WP (bn (mg G (f G)) C) Q :=
  stepP hP hI (fun T W o c _ => by
    obtain ⟨W', A, o', u, sx, sm⟩ := hs T W o
    exact ⟨W', A, o', u, sx G c, fun G1 r _ => sm G1 r⟩) hK hC
theorem cs_3 {P : TT → Hp → Prop} (hP : TPK P) {sn : Nat} {sc : Nat → Int} {i : Int} {K : Hp → RT} {Q : Int → Hp → Prop} (hi : 0 ≤ i) (hi2 : i + 7 ≤ sn) (hs : sn ≤ 3584) (hI : Inv P G) (hK : ∀ G', Inv P G' → WP (K G') Q) : WP (gL_3 sn sc i K G) Q := by
  have h1 : rdC sn sc (iadd i 1) = some (sc (i + 1).toNat) := rdC_in hi hi2 hs (by omega) (by omega)
  have h2 : rdC sn sc (iadd i 2) = some (sc (i + 2).toNat) := rdC_in hi hi2 hs (by omega) (by omega)
  unfold gL_3
  rw [h1, br_s, h2, br_s]
  exact step3 hP (f := fun G => fX11_node 0 (sc (i + 1).toNat) (sc (i + 2).toNat) G) (g := fun G => fX12_node 111 (sc (i + 1).toNat) (sc (i + 2).toNat) G) hI (fun T W o => ⟨W, _, o, eqA, xq_node o, mq_node o⟩) hK (fun v G1 => by rw [br_s, br_s])

theorem cs_4 {P : TT → Hp → Prop} (hP : TPK P) {sn : Nat} {sc : Nat → Int} {i : Int} {K : Hp → RT} {Q : Int → Hp → Prop} (hi : 0 ≤ i) (hi2 : i + 7 ≤ sn) (hs : sn ≤ 3584) (hI : Inv P G) (hK : ∀ G', Inv P G' → WP (K G') Q) : WP (gL_4 sn sc i K G) Q := by
  have h1 : rdC sn sc (iadd i 1) = some (sc (i + 1).toNat) := rdC_in hi hi2 hs (by omega) (by omega)
  have h2 : rdC sn sc (iadd i 2) = some (sc (i + 2).toNat) := rdC_in hi hi2 hs (by omega) (by omega)
  unfold gL_4
  rw [h1, br_s, h2, br_s]
  exact step3 hP (f := fun G => fX11_listed 0 (sc (i + 1).toNat) (sc (i + 2).toNat) G) (g := fun G => fX12_listed 111 (sc (i + 1).toNat) (sc (i + 2).toNat) G) hI (fun T W o => ⟨W, _, o, eqA, xq_listed o, mq_listed o⟩) hK (fun v G1 => by rw [br_s, br_s])

theorem cs_5 {P : TT → Hp → Prop} (hP : TPK P) {sn : Nat} {sc : Nat → Int} {i : Int} {K : Hp → RT} {Q : Int → Hp → Prop} (hi : 0 ≤ i) (hi2 : i + 7 ≤ sn) (hs : sn ≤ 3584) (hI : Inv P G) (hK : ∀ G', Inv P G' → WP (K G') Q) : WP (gL_5 sn sc i K G) Q := by
  have h1 : rdC sn sc (iadd i 1) = some (sc (i + 1).toNat) := rdC_in hi hi2 hs (by omega) (by omega)
  have h2 : rdC sn sc (iadd i 2) = some (sc (i + 2).toNat) := rdC_in hi hi2 hs (by omega) (by omega)
  unfold gL_5
  rw [h1, br_s, h2, br_s]
  exact step3 hP (f := fun G => fX11_finger 0 (sc (i + 1).toNat) (sc (i + 2).toNat) G) (g := fun G => fX12_finger 111 (sc (i + 1).toNat) (sc (i + 2).toNat) G) hI (fun T W o => ⟨W, _, o, eqA, xq_finger o, mq_finger o⟩) hK (fun v G1 => by rw [br_s, br_s])

theorem cs_6 {P : TT → Hp → Prop} (hP : TPK P) {sn : Nat} {sc : Nat → Int} {i : Int} {K : Hp → RT} {Q : Int → Hp → Prop} (hi : 0 ≤ i) (hi2 : i + 7 ≤ sn) (hs : sn ≤ 3584) (hI : Inv P G) (hK : ∀ G', Inv P G' → WP (K G') Q) : WP (gL_6 sn sc i K G) Q := by
  have h1 : rdC sn sc (iadd i 1) = some (sc (i + 1).toNat) := rdC_in hi hi2 hs (by omega) (by omega)
  have h2 : rdC sn sc (iadd i 2) = some (sc (i + 2).toNat) := rdC_in hi hi2 hs (by omega) (by omega)
  unfold gL_6
  rw [h1, br_s, h2, br_s]
  exact step3 hP (f := fun G => fX11_key 0 (sc (i + 1).toNat) (sc (i + 2).toNat) G) (g := fun G => fX12_key 111 (sc (i + 1).toNat) (sc (i + 2).toNat) G) hI (fun T W o => ⟨W, _, o, eqA, xq_key o, mq_key o⟩) hK (fun v G1 => by rw [br_s, br_s])

theorem cs_18 {P : TT → Hp → Prop} (hP : TPK P) {sn : Nat} {sc : Nat → Int} {i : Int} {K : Hp → RT} {Q : Int → Hp → Prop} (hi : 0 ≤ i) (hi2 : i + 7 ≤ sn) (hs : sn ≤ 3584) (hI : Inv P G) (hK : ∀ G', Inv P G' → WP (K G') Q) : WP (gL_18 sn sc i K G) Q := by
  have h1 : rdC sn sc (iadd i 1) = some (sc (i + 1).toNat) := rdC_in hi hi2 hs (by omega) (by omega)
  unfold gL_18
  rw [h1, br_s]
  exact step3 hP (f := fun G => fX11_judged 0 (sc (i + 1).toNat) G) (g := fun G => fX12_judged 111 (sc (i + 1).toNat) G) hI (fun T W o => ⟨W, _, o, eqA, xq_judged o, mq_judged o⟩) hK (fun v G1 => by rw [br_s])

theorem cs_19 {P : TT → Hp → Prop} (hP : TPK P) {sn : Nat} {sc : Nat → Int} {i : Int} {K : Hp → RT} {Q : Int → Hp → Prop} (hi : 0 ≤ i) (hi2 : i + 7 ≤ sn) (hs : sn ≤ 3584) (hI : Inv P G) (hK : ∀ G', Inv P G' → WP (K G') Q) : WP (gL_19 sn sc i K G) Q := by
  have h1 : rdC sn sc (iadd i 1) = some (sc (i + 1).toNat) := rdC_in hi hi2 hs (by omega) (by omega)
  have h2 : rdC sn sc (iadd i 2) = some (sc (i + 2).toNat) := rdC_in hi hi2 hs (by omega) (by omega)
  unfold gL_19
  rw [h1, br_s, h2, br_s]
  exact step3 hP (f := fun G => fX11_find 0 (sc (i + 1).toNat) (sc (i + 2).toNat) G) (g := fun G => fX12_find 111 (sc (i + 1).toNat) (sc (i + 2).toNat) G) hI (fun T W o => ⟨W, _, o, eqA, xq_find o, mq_find o⟩) hK (fun v G1 => by rw [br_s, br_s])

theorem cs_20 {P : TT → Hp → Prop} (hP : TPK P) {sn : Nat} {sc : Nat → Int} {i : Int} {K : Hp → RT} {Q : Int → Hp → Prop} (hi : 0 ≤ i) (hi2 : i + 7 ≤ sn) (hs : sn ≤ 3584) (hI : Inv P G) (hK : ∀ G', Inv P G' → WP (K G') Q) : WP (gL_20 sn sc i K G) Q := by
  have h1 : rdC sn sc (iadd i 1) = some (sc (i + 1).toNat) := rdC_in hi hi2 hs (by omega) (by omega)
  have h2 : rdC sn sc (iadd i 2) = some (sc (i + 2).toNat) := rdC_in hi hi2 hs (by omega) (by omega)
  unfold gL_20
  rw [h1, br_s, h2, br_s]
  exact step3 hP (f := fun G => fX11_steps 0 (sc (i + 1).toNat) (sc (i + 2).toNat) G) (g := fun G => fX12_steps 111 (sc (i + 1).toNat) (sc (i + 2).toNat) G) hI (fun T W o => ⟨W, _, o, eqA, xq_steps o, mq_steps o⟩) hK (fun v G1 => by rw [br_s, br_s])

theorem cs_22 {P : TT → Hp → Prop} (hP : TPK P) {sn : Nat} {sc : Nat → Int} {i : Int} {K : Hp → RT} {Q : Int → Hp → Prop} (hi : 0 ≤ i) (hi2 : i + 7 ≤ sn) (hs : sn ≤ 3584) (hI : Inv P G) (hK : ∀ G', Inv P G' → WP (K G') Q) : WP (gL_22 sn sc i K G) Q := by
  unfold gL_22
  exact step3 hP (f := fun G => fX11_astray 0 G) (g := fun G => fX12_astray 111 G) hI (fun T W o => ⟨W, _, o, eqA, xq_astray o, mq_astray o⟩) hK (fun v G1 => rfl)

theorem cs_23 {P : TT → Hp → Prop} (hP : TPK P) {sn : Nat} {sc : Nat → Int} {i : Int} {K : Hp → RT} {Q : Int → Hp → Prop} (hi : 0 ≤ i) (hi2 : i + 7 ≤ sn) (hs : sn ≤ 3584) (hI : Inv P G) (hK : ∀ G', Inv P G' → WP (K G') Q) : WP (gL_23 sn sc i K G) Q := by
  unfold gL_23
  exact step3 hP (f := fun G => fX11_lost 0 G) (g := fun G => fX12_lost 111 G) hI (fun T W o => ⟨W, _, o, eqA, xq_lost o, mq_lost o⟩) hK (fun v G1 => rfl)

theorem cs_24 {P : TT → Hp → Prop} (hP : TPK P) {sn : Nat} {sc : Nat → Int} {i : Int} {K : Hp → RT} {Q : Int → Hp → Prop} (hi : 0 ≤ i) (hi2 : i + 7 ≤ sn) (hs : sn ≤ 3584) (hI : Inv P G) (hK : ∀ G', Inv P G' → WP (K G') Q) : WP (gL_24 sn sc i K G) Q := by
  have h1 : rdC sn sc (iadd i 1) = some (sc (i + 1).toNat) := rdC_in hi hi2 hs (by omega) (by omega)
  unfold gL_24
  rw [h1, br_s]
  exact step3 hP (f := fun G => fX11_cycles 0 (sc (i + 1).toNat) G) (g := fun G => fX12_cycles 111 (sc (i + 1).toNat) G) hI (fun T W o => ⟨W, _, o, eqA, xq_cycles o, mq_cycles o⟩) hK (fun v G1 => by rw [br_s])

theorem cs_25 {P : TT → Hp → Prop} (hP : TPK P) {sn : Nat} {sc : Nat → Int} {i : Int} {K : Hp → RT} {Q : Int → Hp → Prop} (hi : 0 ≤ i) (hi2 : i + 7 ≤ sn) (hs : sn ≤ 3584) (hI : Inv P G) (hK : ∀ G', Inv P G' → WP (K G') Q) : WP (gL_25 sn sc i K G) Q := by
  unfold gL_25
  exact step3 hP (f := fun G => fX11_ordered 0 G) (g := fun G => fX12_ordered 111 G) hI (fun T W o => ⟨W, _, o, eqA, xq_ordered o, mq_ordered o⟩) hK (fun v G1 => rfl)

theorem cs_26 {P : TT → Hp → Prop} (hP : TPK P) {sn : Nat} {sc : Nat → Int} {i : Int} {K : Hp → RT} {Q : Int → Hp → Prop} (hi : 0 ≤ i) (hi2 : i + 7 ≤ sn) (hs : sn ≤ 3584) (hI : Inv P G) (hK : ∀ G', Inv P G' → WP (K G') Q) : WP (gL_26 sn sc i K G) Q := by
  unfold gL_26
  exact step3 hP (f := fun G => fX11_amiss 0 G) (g := fun G => fX12_amiss 111 G) hI (fun T W o => ⟨W, _, o, eqA, xq_amiss o, mq_amiss o⟩) hK (fun v G1 => rfl)

theorem cs_27 {P : TT → Hp → Prop} (hP : TPK P) {sn : Nat} {sc : Nat → Int} {i : Int} {K : Hp → RT} {Q : Int → Hp → Prop} (hi : 0 ≤ i) (hi2 : i + 7 ≤ sn) (hs : sn ≤ 3584) (hI : Inv P G) (hK : ∀ G', Inv P G' → WP (K G') Q) : WP (gL_27 sn sc i K G) Q := by
  unfold gL_27
  exact step3 hP (f := fun G => fX11_behind 0 G) (g := fun G => fX12_behind 111 G) hI (fun T W o => ⟨W, _, o, eqA, xq_behind o, mq_behind o⟩) hK (fun v G1 => rfl)

theorem cs_29 {P : TT → Hp → Prop} (hP : TPK P) {sn : Nat} {sc : Nat → Int} {i : Int} {K : Hp → RT} {Q : Int → Hp → Prop} (hi : 0 ≤ i) (hi2 : i + 7 ≤ sn) (hs : sn ≤ 3584) (hI : Inv P G) (hK : ∀ G', Inv P G' → WP (K G') Q) : WP (gL_29 sn sc i K G) Q := by
  have h1 : rdC sn sc (iadd i 1) = some (sc (i + 1).toNat) := rdC_in hi hi2 hs (by omega) (by omega)
  have h2 : rdC sn sc (iadd i 2) = some (sc (i + 2).toNat) := rdC_in hi hi2 hs (by omega) (by omega)
  unfold gL_29
  rw [h1, br_s, h2, br_s]
  exact step3 hP (f := fun G => fX11_after 0 (sc (i + 1).toNat) (sc (i + 2).toNat) G) (g := fun G => fX12_after 111 (sc (i + 1).toNat) (sc (i + 2).toNat) G) hI (fun T W o => ⟨W, _, o, eqA, xq_after o, mq_after o⟩) hK (fun v G1 => by rw [br_s, br_s])

theorem cs_30 {P : TT → Hp → Prop} (hP : TPK P) {sn : Nat} {sc : Nat → Int} {i : Int} {K : Hp → RT} {Q : Int → Hp → Prop} (hi : 0 ≤ i) (hi2 : i + 7 ≤ sn) (hs : sn ≤ 3584) (hI : Inv P G) (hK : ∀ G', Inv P G' → WP (K G') Q) : WP (gL_30 sn sc i K G) Q := by
  have h1 : rdC sn sc (iadd i 1) = some (sc (i + 1).toNat) := rdC_in hi hi2 hs (by omega) (by omega)
  unfold gL_30
  rw [h1, br_s]
  exact step3 hP (f := fun G => fX11_wrongs 0 (sc (i + 1).toNat) G) (g := fun G => fX12_wrongs 111 (sc (i + 1).toNat) G) hI (fun T W o => ⟨W, _, o, eqA, xq_wrongs o, mq_wrongs o⟩) hK (fun v G1 => by rw [br_s])

theorem cs_31 {P : TT → Hp → Prop} (hP : TPK P) {sn : Nat} {sc : Nat → Int} {i : Int} {K : Hp → RT} {Q : Int → Hp → Prop} (hi : 0 ≤ i) (hi2 : i + 7 ≤ sn) (hs : sn ≤ 3584) (hI : Inv P G) (hK : ∀ G', Inv P G' → WP (K G') Q) : WP (gL_31 sn sc i K G) Q := by
  have h1 : rdC sn sc (iadd i 1) = some (sc (i + 1).toNat) := rdC_in hi hi2 hs (by omega) (by omega)
  unfold gL_31
  rw [h1, br_s]
  exact step3 hP (f := fun G => fX11_far 0 (sc (i + 1).toNat) G) (g := fun G => fX12_far 111 (sc (i + 1).toNat) G) hI (fun T W o => ⟨W, _, o, eqA, xq_far o, mq_far o⟩) hK (fun v G1 => by rw [br_s])

theorem cs_32 {P : TT → Hp → Prop} (hP : TPK P) {sn : Nat} {sc : Nat → Int} {i : Int} {K : Hp → RT} {Q : Int → Hp → Prop} (hi : 0 ≤ i) (hi2 : i + 7 ≤ sn) (hs : sn ≤ 3584) (hI : Inv P G) (hK : ∀ G', Inv P G' → WP (K G') Q) : WP (gL_32 sn sc i K G) Q := by
  have h1 : rdC sn sc (iadd i 1) = some (sc (i + 1).toNat) := rdC_in hi hi2 hs (by omega) (by omega)
  unfold gL_32
  rw [h1, br_s]
  exact step3 hP (f := fun G => fX11_arc 0 (sc (i + 1).toNat) G) (g := fun G => fX12_arc 111 (sc (i + 1).toNat) G) hI (fun T W o => ⟨W, _, o, eqA, xq_arc o, mq_arc o⟩) hK (fun v G1 => by rw [br_s])

theorem cs_33 {P : TT → Hp → Prop} (hP : TPK P) {sn : Nat} {sc : Nat → Int} {i : Int} {K : Hp → RT} {Q : Int → Hp → Prop} (hi : 0 ≤ i) (hi2 : i + 7 ≤ sn) (hs : sn ≤ 3584) (hI : Inv P G) (hK : ∀ G', Inv P G' → WP (K G') Q) : WP (gL_33 sn sc i K G) Q := by
  have h1 : rdC sn sc (iadd i 1) = some (sc (i + 1).toNat) := rdC_in hi hi2 hs (by omega) (by omega)
  unfold gL_33
  rw [h1, br_s]
  exact step3 hP (f := fun G => fX11_load 0 (sc (i + 1).toNat) G) (g := fun G => fX12_load 111 (sc (i + 1).toNat) G) hI (fun T W o => ⟨W, _, o, eqA, xq_load o, mq_load o⟩) hK (fun v G1 => by rw [br_s])

theorem cs_34 {P : TT → Hp → Prop} (hP : TPK P) {sn : Nat} {sc : Nat → Int} {i : Int} {K : Hp → RT} {Q : Int → Hp → Prop} (hi : 0 ≤ i) (hi2 : i + 7 ≤ sn) (hs : sn ≤ 3584) (hI : Inv P G) (hK : ∀ G', Inv P G' → WP (K G') Q) : WP (gL_34 sn sc i K G) Q := by
  have h1 : rdC sn sc (iadd i 1) = some (sc (i + 1).toNat) := rdC_in hi hi2 hs (by omega) (by omega)
  unfold gL_34
  rw [h1, br_s]
  exact step3 hP (f := fun G => fX11_hosts 0 (sc (i + 1).toNat) G) (g := fun G => fX12_hosts 111 (sc (i + 1).toNat) G) hI (fun T W o => ⟨W, _, o, eqA, xq_hosts o, mq_hosts o⟩) hK (fun v G1 => by rw [br_s])

theorem cs_35 {P : TT → Hp → Prop} (hP : TPK P) {sn : Nat} {sc : Nat → Int} {i : Int} {K : Hp → RT} {Q : Int → Hp → Prop} (hi : 0 ≤ i) (hi2 : i + 7 ≤ sn) (hs : sn ≤ 3584) (hI : Inv P G) (hK : ∀ G', Inv P G' → WP (K G') Q) : WP (gL_35 sn sc i K G) Q := by
  have h1 : rdC sn sc (iadd i 1) = some (sc (i + 1).toNat) := rdC_in hi hi2 hs (by omega) (by omega)
  unfold gL_35
  rw [h1, br_s]
  exact step3 hP (f := fun G => fX11_reaches 0 (sc (i + 1).toNat) G) (g := fun G => fX12_reaches 111 (sc (i + 1).toNat) G) hI (fun T W o => ⟨W, _, o, eqA, xq_reaches o, mq_reaches o⟩) hK (fun v G1 => by rw [br_s])

theorem cs_37 {P : TT → Hp → Prop} (hP : TPK P) {sn : Nat} {sc : Nat → Int} {i : Int} {K : Hp → RT} {Q : Int → Hp → Prop} (hi : 0 ≤ i) (hi2 : i + 7 ≤ sn) (hs : sn ≤ 3584) (hI : Inv P G) (hK : ∀ G', Inv P G' → WP (K G') Q) : WP (gL_37 sn sc i K G) Q := by
  unfold gL_37
  exact step3 hP (f := fun G => fX11_widest 0 G) (g := fun G => fX12_widest 111 G) hI (fun T W o => ⟨W, _, o, eqA, xq_widest o, mq_widest o⟩) hK (fun v G1 => rfl)

theorem cs_38 {P : TT → Hp → Prop} (hP : TPK P) {sn : Nat} {sc : Nat → Int} {i : Int} {K : Hp → RT} {Q : Int → Hp → Prop} (hi : 0 ≤ i) (hi2 : i + 7 ≤ sn) (hs : sn ≤ 3584) (hI : Inv P G) (hK : ∀ G', Inv P G' → WP (K G') Q) : WP (gL_38 sn sc i K G) Q := by
  have h1 : rdC sn sc (iadd i 1) = some (sc (i + 1).toNat) := rdC_in hi hi2 hs (by omega) (by omega)
  unfold gL_38
  rw [h1, br_s]
  exact step3 hP (f := fun G => fX11_toil 0 (sc (i + 1).toNat) G) (g := fun G => fX12_toil 111 (sc (i + 1).toNat) G) hI (fun T W o => ⟨W, _, o, eqA, xq_toil o, mq_toil o⟩) hK (fun v G1 => by rw [br_s])

theorem cs_39 {P : TT → Hp → Prop} (hP : TPK P) {sn : Nat} {sc : Nat → Int} {i : Int} {K : Hp → RT} {Q : Int → Hp → Prop} (hi : 0 ≤ i) (hi2 : i + 7 ≤ sn) (hs : sn ≤ 3584) (hI : Inv P G) (hK : ∀ G', Inv P G' → WP (K G') Q) : WP (gL_39 sn sc i K G) Q := by
  have h1 : rdC sn sc (iadd i 1) = some (sc (i + 1).toNat) := rdC_in hi hi2 hs (by omega) (by omega)
  unfold gL_39
  rw [h1, br_s]
  exact step3 hP (f := fun G => fX11_risk 0 (sc (i + 1).toNat) G) (g := fun G => fX12_risk 111 (sc (i + 1).toNat) G) hI (fun T W o => ⟨W, _, o, eqA, xq_risk o, mq_risk o⟩) hK (fun v G1 => by rw [br_s])

theorem cs_40 {P : TT → Hp → Prop} (hP : TPK P) {sn : Nat} {sc : Nat → Int} {i : Int} {K : Hp → RT} {Q : Int → Hp → Prop} (hi : 0 ≤ i) (hi2 : i + 7 ≤ sn) (hs : sn ≤ 3584) (hI : Inv P G) (hK : ∀ G', Inv P G' → WP (K G') Q) : WP (gL_40 sn sc i K G) Q := by
  have h1 : rdC sn sc (iadd i 1) = some (sc (i + 1).toNat) := rdC_in hi hi2 hs (by omega) (by omega)
  unfold gL_40
  rw [h1, br_s]
  exact step3 hP (f := fun G => fX11_moves 0 (sc (i + 1).toNat) G) (g := fun G => fX12_moves 111 (sc (i + 1).toNat) G) hI (fun T W o => ⟨W, _, o, eqA, xq_moves o, mq_moves o⟩) hK (fun v G1 => by rw [br_s])

theorem cs_42 {P : TT → Hp → Prop} (hP : TPK P) {sn : Nat} {sc : Nat → Int} {i : Int} {K : Hp → RT} {Q : Int → Hp → Prop} (hi : 0 ≤ i) (hi2 : i + 7 ≤ sn) (hs : sn ≤ 3584) (hI : Inv P G) (hK : ∀ G', Inv P G' → WP (K G') Q) : WP (gL_42 sn sc i K G) Q := by
  unfold gL_42
  exact step3 hP (f := fun G => fX11_who 0 G) (g := fun G => fX12_who 111 G) hI (fun T W o => ⟨W, _, o, eqA, xq_who o, mq_who o⟩) hK (fun v G1 => rfl)

theorem cs_43 {P : TT → Hp → Prop} (hP : TPK P) {sn : Nat} {sc : Nat → Int} {i : Int} {K : Hp → RT} {Q : Int → Hp → Prop} (hi : 0 ≤ i) (hi2 : i + 7 ≤ sn) (hs : sn ≤ 3584) (hI : Inv P G) (hK : ∀ G', Inv P G' → WP (K G') Q) : WP (gL_43 sn sc i K G) Q := by
  unfold gL_43
  exact step3 hP (f := fun G => fX11_ask 0 G) (g := fun G => fX12_ask 111 G) hI (fun T W o => ⟨W, _, o, eqA, xq_ask o, mq_ask o⟩) hK (fun v G1 => rfl)

theorem cs_44 {P : TT → Hp → Prop} (hP : TPK P) {sn : Nat} {sc : Nat → Int} {i : Int} {K : Hp → RT} {Q : Int → Hp → Prop} (hi : 0 ≤ i) (hi2 : i + 7 ≤ sn) (hs : sn ≤ 3584) (hI : Inv P G) (hK : ∀ G', Inv P G' → WP (K G') Q) : WP (gL_44 sn sc i K G) Q := by
  have h1 : rdC sn sc (iadd i 1) = some (sc (i + 1).toNat) := rdC_in hi hi2 hs (by omega) (by omega)
  have h2 : rdC sn sc (iadd i 2) = some (sc (i + 2).toNat) := rdC_in hi hi2 hs (by omega) (by omega)
  have h3 : rdC sn sc (iadd i 3) = some (sc (i + 3).toNat) := rdC_in hi hi2 hs (by omega) (by omega)
  unfold gL_44
  rw [h1, br_s, h2, br_s, h3, br_s]
  exact step3 hP (f := fun G => fX11_drives 0 (sc (i + 1).toNat) (sc (i + 2).toNat) (sc (i + 3).toNat) G) (g := fun G => fX12_drives 111 (sc (i + 1).toNat) (sc (i + 2).toNat) (sc (i + 3).toNat) G) hI (fun T W o => ⟨W, _, o, eqA, xq_drives o, mq_drives o⟩) hK (fun v G1 => by rw [br_s, br_s, br_s])

theorem cs_28 {P : TT → Hp → Prop} (hP : TPK P) {sn : Nat} {sc : Nat → Int} {i : Int} {K : Hp → RT} {Q : Int → Hp → Prop} (hi : 0 ≤ i) (hi2 : i + 7 ≤ sn) (hs : sn ≤ 3584) (hI : Inv P G) (hK : ∀ G', Inv P G' → WP (K G') Q) : WP (gL_28 sn sc i K G) Q := by
  unfold gL_28
  exact step3 hP (f := fun G => fX11_rests 0 G) (g := fun G => fX12_rests 111 G) hI (fun T W o => ⟨W, _, o, fun _ _ x y => RS_u x y, xq_rests o, mq_rests o⟩) hK (fun v G1 => rfl)

theorem cs_36 {P : TT → Hp → Prop} (hP : TPK P) {sn : Nat} {sc : Nat → Int} {i : Int} {K : Hp → RT} {Q : Int → Hp → Prop} (hi : 0 ≤ i) (hi2 : i + 7 ≤ sn) (hs : sn ≤ 3584) (hI : Inv P G) (hK : ∀ G', Inv P G' → WP (K G') Q) : WP (gL_36 sn sc i K G) Q := by
  have h1 : rdC sn sc (iadd i 1) = some (sc (i + 1).toNat) := rdC_in hi hi2 hs (by omega) (by omega)
  have h2 : rdC sn sc (iadd i 2) = some (sc (i + 2).toNat) := rdC_in hi hi2 hs (by omega) (by omega)
  unfold gL_36
  rw [h1, br_s, h2, br_s]
  exact step3 hP (f := fun G => fX11_heirs 0 (sc (i + 1).toNat) (sc (i + 2).toNat) G) (g := fun G => fX12_heirs 111 (sc (i + 1).toNat) (sc (i + 2).toNat) G) hI (fun T W o => ⟨W, _, o, heirs_u o, xq_heirs o, mq_heirs o⟩) hK (fun v G1 => by rw [br_s, br_s])

theorem cs_7 {P : TT → Hp → Prop} (hP : TPK P) {sn : Nat} {sc : Nat → Int} {i : Int} {K : Hp → RT} {Q : Int → Hp → Prop} (hi : 0 ≤ i) (hi2 : i + 7 ≤ sn) (hs : sn ≤ 3584) (hI : Inv P G) (hK : ∀ G', Inv P G' → WP (K G') Q) : WP (gL_7 sn sc i K G) Q := by
  have h1 : rdC sn sc (iadd i 1) = some (sc (i + 1).toNat) := rdC_in hi hi2 hs (by omega) (by omega)
  unfold gL_7
  rw [h1, br_s]
  exact step3 hP (f := fun G => fX11_start 0 (sc (i + 1).toNat) G) (g := fun G => fX12_start 111 (sc (i + 1).toNat) G) hI (fun T W o => ⟨_, _, OW_n o (WA_eBeg o.2.1 o.1) _, eqA, xd_start o, md_start o⟩) hK (fun v G1 => by rw [br_s])

theorem cs_8 {P : TT → Hp → Prop} (hP : TPK P) {sn : Nat} {sc : Nat → Int} {i : Int} {K : Hp → RT} {Q : Int → Hp → Prop} (hi : 0 ≤ i) (hi2 : i + 7 ≤ sn) (hs : sn ≤ 3584) (hI : Inv P G) (hK : ∀ G', Inv P G' → WP (K G') Q) : WP (gL_8 sn sc i K G) Q := by
  have h1 : rdC sn sc (iadd i 1) = some (sc (i + 1).toNat) := rdC_in hi hi2 hs (by omega) (by omega)
  have h2 : rdC sn sc (iadd i 2) = some (sc (i + 2).toNat) := rdC_in hi hi2 hs (by omega) (by omega)
  unfold gL_8
  rw [h1, br_s, h2, br_s]
  exact step3 hP (f := fun G => fX11_join 0 (sc (i + 1).toNat) (sc (i + 2).toNat) G) (g := fun G => fX12_join 111 (sc (i + 1).toNat) (sc (i + 2).toNat) G) hI (fun T W o => ⟨_, _, OW_n o (WA_eJoin o.2.1 o.1) _, eqA, xd_join o, md_join o⟩) hK (fun v G1 => by rw [br_s, br_s])

theorem cs_9 {P : TT → Hp → Prop} (hP : TPK P) {sn : Nat} {sc : Nat → Int} {i : Int} {K : Hp → RT} {Q : Int → Hp → Prop} (hi : 0 ≤ i) (hi2 : i + 7 ≤ sn) (hs : sn ≤ 3584) (hI : Inv P G) (hK : ∀ G', Inv P G' → WP (K G') Q) : WP (gL_9 sn sc i K G) Q := by
  have h1 : rdC sn sc (iadd i 1) = some (sc (i + 1).toNat) := rdC_in hi hi2 hs (by omega) (by omega)
  unfold gL_9
  rw [h1, br_s]
  exact step3 hP (f := fun G => fX11_leave 0 (sc (i + 1).toNat) G) (g := fun G => fX12_leave 111 (sc (i + 1).toNat) G) hI (fun T W o => ⟨_, _, OW_n o (WA_eLeave o.2.1 o.1) _, eqA, xd_leave o, md_leave o⟩) hK (fun v G1 => by rw [br_s])

theorem cs_10 {P : TT → Hp → Prop} (hP : TPK P) {sn : Nat} {sc : Nat → Int} {i : Int} {K : Hp → RT} {Q : Int → Hp → Prop} (hi : 0 ≤ i) (hi2 : i + 7 ≤ sn) (hs : sn ≤ 3584) (hI : Inv P G) (hK : ∀ G', Inv P G' → WP (K G') Q) : WP (gL_10 sn sc i K G) Q := by
  have h1 : rdC sn sc (iadd i 1) = some (sc (i + 1).toNat) := rdC_in hi hi2 hs (by omega) (by omega)
  unfold gL_10
  rw [h1, br_s]
  exact step3 hP (f := fun G => fX11_fail 0 (sc (i + 1).toNat) G) (g := fun G => fX12_fail 111 (sc (i + 1).toNat) G) hI (fun T W o => ⟨_, _, OW_n o (WA_eFail o.2.1 o.1) _, eqA, xd_fail o, md_fail o⟩) hK (fun v G1 => by rw [br_s])

theorem cs_11 {P : TT → Hp → Prop} (hP : TPK P) {sn : Nat} {sc : Nat → Int} {i : Int} {K : Hp → RT} {Q : Int → Hp → Prop} (hi : 0 ≤ i) (hi2 : i + 7 ≤ sn) (hs : sn ≤ 3584) (hI : Inv P G) (hK : ∀ G', Inv P G' → WP (K G') Q) : WP (gL_11 sn sc i K G) Q := by
  have h1 : rdC sn sc (iadd i 1) = some (sc (i + 1).toNat) := rdC_in hi hi2 hs (by omega) (by omega)
  unfold gL_11
  rw [h1, br_s]
  exact step3 hP (f := fun G => fX11_tidy 0 (sc (i + 1).toNat) G) (g := fun G => fX12_tidy 111 (sc (i + 1).toNat) G) hI (fun T W o => ⟨_, _, OW_n o (WA_eTidy o.2.1 o.1) _, eqA, xd_tidy o, md_tidy o⟩) hK (fun v G1 => by rw [br_s])

theorem cs_12 {P : TT → Hp → Prop} (hP : TPK P) {sn : Nat} {sc : Nat → Int} {i : Int} {K : Hp → RT} {Q : Int → Hp → Prop} (hi : 0 ≤ i) (hi2 : i + 7 ≤ sn) (hs : sn ≤ 3584) (hI : Inv P G) (hK : ∀ G', Inv P G' → WP (K G') Q) : WP (gL_12 sn sc i K G) Q := by
  have h1 : rdC sn sc (iadd i 1) = some (sc (i + 1).toNat) := rdC_in hi hi2 hs (by omega) (by omega)
  unfold gL_12
  rw [h1, br_s]
  exact step3 hP (f := fun G => fX11_flush 0 (sc (i + 1).toNat) G) (g := fun G => fX12_flush 111 (sc (i + 1).toNat) G) hI (fun T W o => ⟨_, _, OW_n o (WA_eFlush o.2.1 o.1) _, eqA, xd_flush o, md_flush o⟩) hK (fun v G1 => by rw [br_s])

theorem cs_13 {P : TT → Hp → Prop} (hP : TPK P) {sn : Nat} {sc : Nat → Int} {i : Int} {K : Hp → RT} {Q : Int → Hp → Prop} (hi : 0 ≤ i) (hi2 : i + 7 ≤ sn) (hs : sn ≤ 3584) (hI : Inv P G) (hK : ∀ G', Inv P G' → WP (K G') Q) : WP (gL_13 sn sc i K G) Q := by
  have h1 : rdC sn sc (iadd i 1) = some (sc (i + 1).toNat) := rdC_in hi hi2 hs (by omega) (by omega)
  have h2 : rdC sn sc (iadd i 2) = some (sc (i + 2).toNat) := rdC_in hi hi2 hs (by omega) (by omega)
  unfold gL_13
  rw [h1, br_s, h2, br_s]
  exact step3 hP (f := fun G => fX11_fix 0 (sc (i + 1).toNat) (sc (i + 2).toNat) G) (g := fun G => fX12_fix 111 (sc (i + 1).toNat) (sc (i + 2).toNat) G) hI (fun T W o => ⟨_, _, OW_n o (WA_eFix o.2.1 o.1) _, eqA, xd_fix o, md_fix o⟩) hK (fun v G1 => by rw [br_s, br_s])

theorem cs_14 {P : TT → Hp → Prop} (hP : TPK P) {sn : Nat} {sc : Nat → Int} {i : Int} {K : Hp → RT} {Q : Int → Hp → Prop} (hi : 0 ≤ i) (hi2 : i + 7 ≤ sn) (hs : sn ≤ 3584) (hI : Inv P G) (hK : ∀ G', Inv P G' → WP (K G') Q) : WP (gL_14 sn sc i K G) Q := by
  have h1 : rdC sn sc (iadd i 1) = some (sc (i + 1).toNat) := rdC_in hi hi2 hs (by omega) (by omega)
  unfold gL_14
  rw [h1, br_s]
  exact step3 hP (f := fun G => fX11_mend 0 (sc (i + 1).toNat) G) (g := fun G => fX12_mend 111 (sc (i + 1).toNat) G) hI (fun T W o => ⟨_, _, OW_n o (WA_eMend o.2.1 o.1) _, eqA, xd_mend o, md_mend o⟩) hK (fun v G1 => by rw [br_s])

theorem cs_15 {P : TT → Hp → Prop} (hP : TPK P) {sn : Nat} {sc : Nat → Int} {i : Int} {K : Hp → RT} {Q : Int → Hp → Prop} (hi : 0 ≤ i) (hi2 : i + 7 ≤ sn) (hs : sn ≤ 3584) (hI : Inv P G) (hK : ∀ G', Inv P G' → WP (K G') Q) : WP (gL_15 sn sc i K G) Q := by
  have h1 : rdC sn sc (iadd i 1) = some (sc (i + 1).toNat) := rdC_in hi hi2 hs (by omega) (by omega)
  have h2 : rdC sn sc (iadd i 2) = some (sc (i + 2).toNat) := rdC_in hi hi2 hs (by omega) (by omega)
  unfold gL_15
  rw [h1, br_s, h2, br_s]
  exact step3 hP (f := fun G => fX11_put 0 (sc (i + 1).toNat) (sc (i + 2).toNat) G) (g := fun G => fX12_put 111 (sc (i + 1).toNat) (sc (i + 2).toNat) G) hI (fun T W o => ⟨_, _, OW_n o (WA_ePut o.2.1 o.1) _, eqA, xd_put o, md_put o⟩) hK (fun v G1 => by rw [br_s, br_s])

theorem cs_16 {P : TT → Hp → Prop} (hP : TPK P) {sn : Nat} {sc : Nat → Int} {i : Int} {K : Hp → RT} {Q : Int → Hp → Prop} (hi : 0 ≤ i) (hi2 : i + 7 ≤ sn) (hs : sn ≤ 3584) (hI : Inv P G) (hK : ∀ G', Inv P G' → WP (K G') Q) : WP (gL_16 sn sc i K G) Q := by
  have h1 : rdC sn sc (iadd i 1) = some (sc (i + 1).toNat) := rdC_in hi hi2 hs (by omega) (by omega)
  unfold gL_16
  rw [h1, br_s]
  exact step3 hP (f := fun G => fX11_hand 0 (sc (i + 1).toNat) G) (g := fun G => fX12_hand 111 (sc (i + 1).toNat) G) hI (fun T W o => ⟨_, _, OW_n o (WA_eHand o.2.1 o.1) _, eqA, xd_hand o, md_hand o⟩) hK (fun v G1 => by rw [br_s])

theorem cs_17 {P : TT → Hp → Prop} (hP : TPK P) {sn : Nat} {sc : Nat → Int} {i : Int} {K : Hp → RT} {Q : Int → Hp → Prop} (hi : 0 ≤ i) (hi2 : i + 7 ≤ sn) (hs : sn ≤ 3584) (hI : Inv P G) (hK : ∀ G', Inv P G' → WP (K G') Q) : WP (gL_17 sn sc i K G) Q := by
  unfold gL_17
  exact step3 hP (f := fun G => fX11_undo 0 G) (g := fun G => fX12_undo 111 G) hI (fun T W o => ⟨_, _, OW_u o, eqA, xd_undo o, md_undo o⟩) hK (fun v G1 => rfl)

end WLDS
