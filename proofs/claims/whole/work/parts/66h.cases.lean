section WLDS
variable {b : Nat} {a : AS} {G : Hp} {T : TT}
theorem cs_41 {P : TT → Hp → Prop} (hP : TPK P) {sn : Nat} {sc : Nat → Int} {i : Int} {K : Hp → RT} {Q : Int → Hp → Prop} (hi : 0 ≤ i) (hi2 : i + 7 ≤ sn) (hs : sn ≤ 3584) (hI : Inv P G) (hK : ∀ G', Inv P G' → WP (K G') Q) : WP (gL_41 sn sc i K G) Q := by
  have h1 : rdC sn sc (iadd i 1) = some (sc (i + 1).toNat) := rdC_in hi hi2 hs (by omega) (by omega)
  have h2 : rdC sn sc (iadd i 2) = some (sc (i + 2).toNat) := rdC_in hi hi2 hs (by omega) (by omega)
  have h3 : rdC sn sc (iadd i 3) = some (sc (i + 3).toNat) := rdC_in hi hi2 hs (by omega) (by omega)
  unfold gL_41
  rw [h1, br_s, h2, br_s, h3, br_s]
  refine w_jn ?_
  refine w_ite (fun e => ?_) (fun e => ?_)
  · exact step3 hP (f := fun G => fX11_see 0 (sc (i + 1).toNat) (sc (i + 2).toNat) 0 G) (g := fun G => fX12_see 111 (sc (i + 1).toNat) (sc (i + 2).toNat) 0 G) hI (fun T W o => ⟨_, _, OW_v o (Or.inl rfl), eqA, xd_see o (Or.inl rfl), md_see o (Or.inl rfl)⟩) hK (fun v G1 => by rw [br_s, br_s, br_s, jn_s, if_pos e])
  · exact step3 hP (f := fun G => fX11_see 0 (sc (i + 1).toNat) (sc (i + 2).toNat) 1 G) (g := fun G => fX12_see 111 (sc (i + 1).toNat) (sc (i + 2).toNat) 1 G) hI (fun T W o => ⟨_, _, OW_v o (Or.inr rfl), eqA, xd_see o (Or.inr rfl), md_see o (Or.inr rfl)⟩) hK (fun v G1 => by rw [br_s, br_s, br_s, jn_s, if_neg e])
theorem cs_45 {P : TT → Hp → Prop} (hP : TPK P) {sn : Nat} {sc : Nat → Int} {i : Int} {K : Hp → RT} {Q : Int → Hp → Prop} (hi : 0 ≤ i) (hi2 : i + 7 ≤ sn) (hs : sn ≤ 3584) (hI : Inv P G) (hK : ∀ G', Inv P G' → WP (K G') Q) : WP (gL_45 sn sc i K G) Q := by
  have h1 : rdC sn sc (iadd i 1) = some (sc (i + 1).toNat) := rdC_in hi hi2 hs (by omega) (by omega)
  have h2 : rdC sn sc (iadd i 2) = some (sc (i + 2).toNat) := rdC_in hi hi2 hs (by omega) (by omega)
  unfold gL_45
  rw [h1, br_s, h2, br_s]
  refine w_jn ?_
  refine w_ite (fun e => ?_) (fun e => ?_)
  · exact step3 hP (f := fun G => fX11_mark 0 (sc (i + 1).toNat) 0 G) (g := fun G => fX12_mark 111 (sc (i + 1).toNat) 0 G) hI (fun T W o => ⟨_, _, OW_k o, eqA, xd_mark o, md_mark o (Or.inl rfl)⟩) hK (fun v G1 => by rw [br_s, br_s, jn_s, if_pos e])
  · exact step3 hP (f := fun G => fX11_mark 0 (sc (i + 1).toNat) 1 G) (g := fun G => fX12_mark 111 (sc (i + 1).toNat) 1 G) hI (fun T W o => ⟨_, _, OW_k o, eqA, xd_mark o, md_mark o (Or.inr rfl)⟩) hK (fun v G1 => by rw [br_s, br_s, jn_s, if_neg e])
noncomputable def cvv (T : TT) (W : WLD) (L n : Int) : Int := if n = 0 then tC T else if n = 1 then tL T else if n = 2 then tN T else if n = 3 then tK T else if n = 4 then W.1.1 else if n = 5 then cnt (fun k => hld W.1 k ≠ -1) 10 else if n = 6 then W.2.2.2.1.1 else if n = 7 then W.2.2.1.1 else if n = 8 then (W.2.1.1 : Int) else if n = 9 then L else -1
theorem x_count {W : WLD} {n : Int} (cw : CW T W G) : fX11_count 0 n G = some (cvv T W (G 1 3) n, G) := by
  obtain ⟨h1, h2, ⟨nx, h3⟩, h4, h5, h6⟩ := cw
  unfold fX11_count cvv
  rw [rf_0_1, rf_0_5, rf_0_3, rf_0_10, rf_0_11, rf_0_0, h1.1, h1.2.1, h1.2.2.1, h1.2.2.2.1, h2.1, x_heldKeys h2, bp_s, h5.1, h4.1, h3.2.2.1]
  (repeat' split) <;> rfl
theorem m_count {W : WLD} {n L : Int} (o : OW T W) (r : RW T W G) (hL : G 111 2 = L) : WP (fX12_count 111 n G) (fun v G' => FRS G G' ∧ v = cvv T W L n) := by
  obtain ⟨h1, h2, h3, h4, h5, h6⟩ := r
  have R1 : MR 0 W.1 (up G 111 0 0) := h2.fr (up_ne (by decide))
  have M1 : MT T (up G 111 0 0) := h1.fr (up_ne (by decide)) (up_ne (by decide))
  have F1 : FRS G (up G 111 0 0) := FRS.th
  have e2 : up G 111 0 0 111 2 = L := by rw [up_at, if_neg (by decide)]; exact hL
  have e18 : up G 111 0 0 111 18 = W.2.1.1 := by rw [up_at, if_neg (by decide)]; exact h3.1
  have e130 : up G 111 0 0 123 130 = W.2.2.1.1 := by rw [up_ne (by decide)]; exact h4.1
  have e120 : up G 111 0 0 120 0 = W.2.2.2.1.1 := by rw [up_ne (by decide)]; exact h5.1
  unfold fX12_count
  rw [bh_s]
  generalize up G 111 0 0 = G1 at R1 M1 F1 e2 e18 e130 e120 ⊢
  have m1 : fX12_inSet 111 0 G1 = some (W.1.1, G1) := m_inSet (b := 0) o.1 (by omega) M1 R1 o.2.1
  have m2 : fX12_heldMany 111 0 G1 = some (cnt (fun k => hld W.1 k ≠ -1) 10, G1) := m_heldMany (b := 0) o.1 (by omega) M1 R1 o.2.1
  have m3 : rd G1 117 64 1 = some (tL T) := (rd_in (by decide) (by decide)).trans (congrArg some M1.2.1)
  have m4 : rd G1 120 241 0 = some W.2.2.2.1.1 := (rd_in (by decide) (by decide)).trans (congrArg some e120)
  have m5 : rd G1 123 3565 130 = some W.2.2.1.1 := (rd_in (by decide) (by decide)).trans (congrArg some e130)
  rw [rf_111_10, rf_111_14, rf_111_17, m_circle M1, m3, m_nodes M1, m_keys M1, m1, m2, m4, m5, e18, e2, bp_s, bp_s, bp_s, bp_s, bp_s, br_s, br_s, br_s]
  unfold cvv
  refine w_ite (fun c => ?_) (fun c => ?_)
  · rw [if_pos c]; exact w_rt ⟨F1, rfl⟩
  rw [if_neg c]
  refine w_ite (fun c => ?_) (fun c => ?_)
  · rw [if_pos c]; exact w_rt ⟨F1, rfl⟩
  rw [if_neg c]
  refine w_ite (fun c => ?_) (fun c => ?_)
  · rw [if_pos c]; exact w_rt ⟨F1, rfl⟩
  rw [if_neg c]
  refine w_ite (fun c => ?_) (fun c => ?_)
  · rw [if_pos c]; exact w_rt ⟨F1, rfl⟩
  rw [if_neg c]
  refine w_ite (fun c => ?_) (fun c => ?_)
  · rw [if_pos c]; exact w_rt ⟨F1, rfl⟩
  rw [if_neg c]
  refine w_ite (fun c => ?_) (fun c => ?_)
  · rw [if_pos c]; exact w_rt ⟨F1, rfl⟩
  rw [if_neg c]
  refine w_ite (fun c => ?_) (fun c => ?_)
  · rw [if_pos c]; exact w_rt ⟨F1, rfl⟩
  rw [if_neg c]
  refine w_ite (fun c => ?_) (fun c => ?_)
  · rw [if_pos c]; exact w_rt ⟨F1, rfl⟩
  rw [if_neg c]
  refine w_ite (fun c => ?_) (fun c => ?_)
  · rw [if_pos c]; exact w_rt ⟨F1, rfl⟩
  rw [if_neg c]
  refine w_ite (fun c => ?_) (fun c => ?_)
  · rw [if_pos c]; exact w_rt ⟨F1, rfl⟩
  rw [if_neg c]; exact w_rt ⟨F1, rfl⟩
theorem cs_46 {P : TT → Hp → Prop} (hP : TPK P) {sn : Nat} {sc : Nat → Int} {i : Int} {K : Hp → RT} {Q : Int → Hp → Prop} (hi : 0 ≤ i) (hi2 : i + 7 ≤ sn) (hs : sn ≤ 3584) (hI : Inv P G) (hK : ∀ G', Inv P G' → WP (K G') Q) (hT : ∀ T G, P T G → G 1 3 = G 111 2) : WP (gL_46 sn sc i K G) Q := by
  have h1 : rdC sn sc (iadd i 1) = some (sc (i + 1).toNat) := rdC_in hi hi2 hs (by omega) (by omega)
  unfold gL_46
  rw [h1, br_s]
  refine stepP hP (f := fun G => fX11_count 0 (sc (i + 1).toNat) G) (g := fun G => fX12_count 111 (sc (i + 1).toNat) G) hI (fun T W o c p => ⟨W, fun r => r = cvv T W (G 1 3) (sc (i + 1).toNat), o, eqA, WP_of (x_count c) ⟨rfl, c, fun _ _ => rfl, fun _ _ => rfl⟩, fun G1 r e => ?_⟩) hK (fun v G1 => by rw [br_s])
  refine (m_count (n := sc (i + 1).toNat) o r (show G1 111 2 = G 1 3 by rw [e, hT T G p])).mono (fun v G' q => ?_)
  exact ⟨q.2, RW.q o r q.1, fun c x => q.1.1 c (by omega) (by omega) (by omega) (by omega) (by omega), q.1.1 112 (by decide) (by decide) (by decide) (by decide) (by decide), q.1.1 116 (by decide) (by decide) (by decide) (by decide) (by decide), q.1.1 117 (by decide) (by decide) (by decide) (by decide) (by decide), q.1.1 119 (by decide) (by decide) (by decide) (by decide) (by decide), q.1.2.1 2 (by decide) (by decide) (by decide)⟩
end WLDS
