section WLDS
variable {b : Nat} {a : AS} {G : Hp} {T : TT}
/-! marks -/
theorem x_seenCopy {p q : Nat} {S : SE} (hq : rf q 0 = q + 1 ∧ rf q 1 = q + 2 ∧ rf q 2 = q + 3) (hp : rf p 0 = p + 1 ∧ rf p 1 = p + 2 ∧ rf p 2 = p + 3) (hd : p + 3 < q ∨ q + 3 < p) (hb : ∀ i, i < 8 → G (p + 3) i = 0 ∨ G (p + 3) i = 1) (hS : 0 ≤ S.1 ∧ S.1 ≤ 8) (k : XS p S G) : WP (fX5_copyFrom q p G) (fun _ G' => (∀ c, c < q ∨ q + 3 < c → G' c = G c) ∧ XS q S G' ∧ ∀ i, i < 8 → G' (q + 3) i = 0 ∨ G' (q + 3) i = 1) := by
  unfold fX5_copyFrom
  rw [hq.1, hq.2.1, hq.2.2, hp.1, hp.2.1, hp.2.2]
  refine w_bh (fun G1 hG1 => ?_)
  refine w_bd (fun v2 hv2 => ?_)
  refine w_lpIH (fun (v3 : Int) (G4 : Hp) => (0 ≤ v3) ∧ (v3 ≤ 8) ∧ (∀ c, c < q ∨ q + 3 < c → G4 c = G c) ∧ (G4 q 4 = G p 4) ∧ (∀ j : Nat, (j : Int) < v3 → G4 (q + 1) j = G (p + 1) j ∧ G4 (q + 2) j = G (p + 2) j ∧ G4 (q + 3) j = G (p + 3) j)) (fun v3 _ => (8 - v3).toNat) (fun rc v3 G4 hI hrc => ?_) _ _ ?_ ?_
  · obtain ⟨i0, i1, f, g, h⟩ := hI
    refine w_ite (fun c => ?_) (fun c => ?_)
    · refine w_rd (by omega) (by omega) (fun v6 hv6 => ?_)
      refine w_wr (by omega) (by omega) (fun G7 hG7 => ?_)
      refine w_rd (by omega) (by omega) (fun v8 hv8 => ?_)
      refine w_wr (by omega) (by omega) (fun G9 hG9 => ?_)
      refine w_rd (by omega) (by omega) (fun v10 hv10 => ?_)
      have e6 : v6 = G (p + 1) v3.toNat := by rw [hv6, f _ (by omega)]
      have e8 : v8 = G (p + 2) v3.toNat := by rw [hv8, hG7, up_ne (by omega), f _ (by omega)]
      have e10 : v10 = G (p + 3) v3.toNat := by rw [hv10, hG9, up_ne (by omega), hG7, up_ne (by omega), f _ (by omega)]
      refine w_wrZ (by omega) (by omega) (by rw [e10]; exact hb _ (by omega)) (fun G11 hG11 => ?_)
      refine w_bd (fun v12 hv12 => ?_)
      rw [iadd_id (by omega) (by omega)] at hv12
      refine hrc _ _ ⟨by omega, by omega, fun c x => by rw [hG11, up_ne (by omega), hG9, up_ne (by omega), hG7, up_ne (by omega)]; exact f c x, by rw [hG11, up_ne (by omega), hG9, up_ne (by omega), hG7, up_ne (by omega)]; exact g, fun j hj => ?_⟩ (by show (8 - v12).toNat < (8 - v3).toNat; omega)
      have a1 : G11 (q + 1) j = if j = v3.toNat then v6 else G4 (q + 1) j := by rw [hG11, up_ne (by omega), hG9, up_ne (by omega), hG7, up_at]; simp
      have a2 : G11 (q + 2) j = if j = v3.toNat then v8 else G4 (q + 2) j := by rw [hG11, up_ne (by omega), hG9, up_at, hG7, up_ne (by omega)]; simp
      have a3 : G11 (q + 3) j = if j = v3.toNat then v10 else G4 (q + 3) j := by rw [hG11, up_at, hG9, up_ne (by omega), hG7, up_ne (by omega)]; simp
      rw [a1, a2, a3]
      by_cases e : j = v3.toNat
      · rw [if_pos e, if_pos e, if_pos e, e]; exact ⟨e6, e8, e10⟩
      · rw [if_neg e, if_neg e, if_neg e]; exact h j (by omega)
    · refine w_rt ⟨f, ⟨by rw [g]; exact k.1, fun i x y => ?_⟩, fun i hi => by rw [(h i (by omega)).2.2]; exact hb i hi⟩
      have q := h i.toNat (by omega)
      rw [q.1, q.2.1, q.2.2]; exact k.2 i x y
  · exact ⟨by omega, by omega, fun c x => by rw [hG1, up_ne (by omega)], by rw [hG1, up_at]; simp, fun j hj => by omega⟩
  · show (8 - v2).toNat < 5000; omega
/-- a mark is laid; one goes back to it -/
def lW (W : WLD) (m : Nat) : WLD := (W.1, W.2.1, W.2.2.1, W.2.2.2.1, (fun i => if i = m then 1 else W.2.2.2.2.1 i, fun i => if i = m then W.1 else W.2.2.2.2.2.1 i, fun i => if i = m then W.2.2.1 else W.2.2.2.2.2.2 i))
def bW (W : WLD) (m : Nat) : WLD := (W.2.2.2.2.2.1 m, (0, W.2.1.2), W.2.2.2.2.2.2 m, W.2.2.2.1, W.2.2.2.2)
def kW (W : WLD) (m y : Int) : WLD := if 0 ≤ m ∧ m < 4 then (if y = 0 then lW W m.toNat else if W.2.2.2.2.1 m.toNat = 1 then bW W m.toNat else W) else W
def kR (W : WLD) (m y : Int) : Int := if 0 ≤ m ∧ m < 4 then (if y = 0 then 1 else if W.2.2.2.2.1 m.toNat = 1 then 1 else 0) else 0
theorem OW_k {W : WLD} (o_ : OW T W) {m y : Int} : OW T (kW W m y) := by
  have o0 := o_
  obtain ⟨w, hw, wu, hS, hk, wm, u16⟩ := o_
  unfold kW
  split
  · rename_i c
    split
    · refine ⟨w, hw, wu, hS, hk, fun i hi => ?_, u16⟩
      show ((if i = m.toNat then (1 : Int) else W.2.2.2.2.1 i) = 0 ∨ (if i = m.toNat then (1 : Int) else W.2.2.2.2.1 i) = 1) ∧ ((if i = m.toNat then (1 : Int) else W.2.2.2.2.1 i) = 1 → WA T (if i = m.toNat then W.1 else W.2.2.2.2.2.1 i) ∧ WS T (if i = m.toNat then W.2.2.1 else W.2.2.2.2.2.2 i))
      by_cases e : i = m.toNat
      · rw [if_pos e, if_pos e, if_pos e]; exact ⟨Or.inr rfl, fun _ => ⟨hw, hS⟩⟩
      · rw [if_neg e, if_neg e, if_neg e]; exact wm i hi
    · split
      · rename_i z
        have q := (wm m.toNat (by omega)).2 z
        exact ⟨w, q.1, fun k hk => absurd hk (Nat.not_lt_zero _), q.2, hk, wm, by show 0 ≤ 16; omega⟩
      · exact o0
  · exact o0
theorem rf39c : rf 39 0 = 39 + 1 ∧ rf 39 1 = 39 + 2 ∧ rf 39 2 = 39 + 3 := ⟨rf_39_0, rf_39_1, rf_39_2⟩
theorem xd_mark {W : WLD} (o_ : OW T W) {m y : Int} : SX T (fun G => fX11_mark 0 m y G) W (kW W m y) (fun r => r = kR W m y) := by
  intro G cw
  have cw0 := cw
  obtain ⟨h1, h2, ⟨nx, h3⟩, h4, h5, h6⟩ := cw
  have s0 := o_.2.2.2.1.1
  show WP (fX11_mark 0 m y G) _
  unfold fX11_mark
  rw [rf_0_5, rf_0_10, rf_0_11]
  refine w_ite (fun c => ?_) (fun c => w_ite (fun d => ?_) (fun d => ?_))
  · rw [show kW W m y = W by unfold kW; rw [if_neg (by omega)], show kR W m y = 0 by unfold kR; rw [if_neg (by omega)]]
    exact w_rz (Or.inl rfl) ⟨rfl, cw0, fun _ _ => rfl, fun _ _ => rfl⟩
  · obtain ⟨m', rfl⟩ : ∃ m' : Nat, m = (m' : Int) := ⟨m.toNat, by omega⟩
    have hm : m' < 4 := by omega
    have r8 := rf80 hm
    have eW : kW W (m' : Int) y = if y = 0 then lW W m' else if W.2.2.2.2.1 m' = 1 then bW W m' else W := by unfold kW; rw [if_pos (show 0 ≤ (m' : Int) ∧ (m' : Int) < 4 by omega), Int.toNat_natCast]
    have eR : kR W (m' : Int) y = if y = 0 then 1 else if W.2.2.2.2.1 m' = 1 then 1 else 0 := by unfold kR; rw [if_pos (show 0 ≤ (m' : Int) ∧ (m' : Int) < 4 by omega), Int.toNat_natCast]
    rw [eW, eR]
    refine w_ite (fun e => ?_) (fun e => ?_)
    · rw [if_pos e, if_pos e]
      unfold fX3_layMark ra
      rw [rf_44_1, rf_44_2, rf_44_3, if_pos (by omega), Int.toNat_natCast, r8.1]
      refine w_bn (Q' := fun _ G' => (∀ c, 111 ≤ c → G' c = G c) ∧ (∀ c, c ≤ 26 → G' c = G c) ∧ CW T (lW W m') G') ?_ (fun _ G1 q => w_rz (Or.inr rfl) ⟨rfl, q.2.2, q.1, q.2.1⟩)
      refine w_bn (x_copyFrom (q := 83 + 7 * m') (p := 27) r8.2.1 rf27 (by omega) (by omega) (by omega) h2) (fun _ G3 q3 => ?_)
      rw [if_pos (by omega), r8.2.2.1]
      have x3 : XS 39 W.2.2.1 G3 := h4.fr (fun c x y => q3.1 c (by omega) (by omega))
      refine w_bn (x_seenCopy (q := 85 + 7 * m') (p := 39) (by have := r8.2.2.2; exact ⟨by rw [this.1]; omega, by rw [this.2.1]; omega, by rw [this.2.2]; omega⟩) rf39c (by omega) (fun i hi => by rw [q3.1 _ (by omega) (by omega)]; exact h6.2.1 i hi) s0 x3) (fun _ G6 q6 => ?_)
      refine w_wrZ (by omega) (by omega) (Or.inr rfl) (fun G7 hG7 => ?_)
      have at_ : ∀ {c : Nat}, (c ≠ 82 ∧ (c < 83 + 7 * m' ∨ 88 + 7 * m' < c)) → G7 c = G c := fun {c} hc => by rw [hG7, up_ne hc.1, q6.1 c (by omega), q3.1 c (by omega) (by omega)]
      refine w_rt ⟨fun c x => at_ (by omega), fun c x => at_ (by omega), ⟨h1.fr (at_ (by omega)) (at_ (by omega)) (at_ (by omega)) (at_ (by omega)), h2.fr (at_ (by omega)) (at_ (by omega)), ⟨nx, h3.fr (fun c _ _ hc => at_ (by omega))⟩, h4.fr (fun c x y => at_ (by omega)), h5.fr (fun c x y => at_ (by omega)), fun i hi => ?_, fun i hi => by rw [at_ (by omega)]; exact h6.2.1 i hi, fun i hi j hj => ?_⟩⟩
      · show G7 82 i = (if i = m' then 1 else W.2.2.2.2.1 i) ∧ ((if i = m' then (1 : Int) else W.2.2.2.2.1 i) = 1 → XA (83 + 7 * i) (if i = m' then W.1 else W.2.2.2.2.2.1 i) G7 ∧ XS (85 + 7 * i) (if i = m' then W.2.2.1 else W.2.2.2.2.2.2 i) G7)
        have e82 : G7 82 i = if i = m' then 1 else G 82 i := by
          rw [hG7, up_at, q6.1 82 (by omega), q3.1 82 (by omega) (by omega), Int.toNat_natCast]; simp
        by_cases ei : i = m'
        · rw [e82, if_pos ei, if_pos ei, if_pos ei, if_pos ei, ei]
          refine ⟨rfl, fun _ => ⟨?_, ?_⟩⟩
          · exact (q3.2.2.same (G' := G7) (fun c hc => by rw [hG7, up_ne (by omega), q6.1 c (by omega)]))
          · exact q6.2.1.fr (fun c x y => by rw [hG7, up_ne (by omega)])
        · rw [e82, if_neg ei, if_neg ei, if_neg ei, if_neg ei]
          refine ⟨(h6.1 i hi).1, fun z => ?_⟩
          have q := (h6.1 i hi).2 z
          exact ⟨q.1.same (fun c hc => at_ (by omega)), q.2.fr (fun c x y => at_ (by omega))⟩
      · by_cases ei : i = m'
        · rw [ei, hG7, up_ne (by omega), show 88 + 7 * m' = 85 + 7 * m' + 3 by omega]; exact q6.2.2 j hj
        · rw [at_ (by omega)]; exact h6.2.2 i hi j hj
    · rw [if_neg e, if_neg e]
      unfold fX3_goBack
      rw [rf_44_1, rf_44_2, rf_44_3, rd_in (by omega) (by omega), br_s, Int.toNat_natCast, (h6.1 m' hm).1]
      have w01 := (o_.2.2.2.2.2.1 m' hm).1
      by_cases z : W.2.2.2.2.1 m' = 1
      · rw [if_neg (by omega), if_pos z, if_pos z]
        have q := (h6.1 m' hm).2 z
        have qs := ((o_.2.2.2.2.2.1 m' hm).2 z).2.1
        unfold ra
        rw [if_pos (by omega), Int.toNat_natCast, r8.1]
        refine w_bn (Q' := fun r G' => r = 1 ∧ (∀ c, 111 ≤ c → G' c = G c) ∧ (∀ c, c ≤ 26 → G' c = G c) ∧ CW T (bW W m') G') ?_ (fun r G1 q => w_rz (Or.inr q.1) ⟨q.1, q.2.2.2, q.2.1, q.2.2.1⟩)
        refine w_bn (x_copyFrom (q := 27) (p := 83 + 7 * m') rf27 r8.2.1 (by omega) (by omega) (by omega) q.1) (fun _ G4 q4 => ?_)
        rw [if_pos (by omega), r8.2.2.1]
        have x4 : XS (85 + 7 * m') (W.2.2.2.2.2.2 m') G4 := q.2.fr (fun c x y => q4.1 c (by omega) (by omega))
        refine w_bn (x_seenCopy (q := 39) (p := 85 + 7 * m') rf39c (by have := r8.2.2.2; exact ⟨by rw [this.1]; omega, by rw [this.2.1]; omega, by rw [this.2.2]; omega⟩) (by omega) (fun i hi => by rw [q4.1 _ (by omega) (by omega), show 85 + 7 * m' + 3 = 88 + 7 * m' by omega]; exact h6.2.2 m' hm i hi) qs x4) (fun _ G7 q7 => ?_)
        refine w_bh (fun G8 hG8 => ?_)
        have at_ : ∀ {c : Nat}, (c < 27 ∨ (28 < c ∧ c < 39) ∨ (42 < c ∧ c < 44) ∨ 44 < c) → G8 c = G c := fun {c} hc => by rw [hG8, up_ne (by omega), q7.1 c (by omega), q4.1 c (by omega) (by omega)]
        refine w_rz (Or.inr rfl) ⟨rfl, fun c x => at_ (by omega), fun c x => at_ (by omega), ⟨h1.fr (at_ (by omega)) (at_ (by omega)) (at_ (by omega)) (at_ (by omega)), q4.2.2.fr (by rw [hG8, up_ne (by decide), q7.1 27 (by omega)]) (by rw [hG8, up_ne (by decide), q7.1 28 (by omega)]), ⟨nx, ?_, h3.2.1, ?_, Nat.zero_le _, fun k hk => absurd hk (Nat.not_lt_zero _)⟩, q7.2.1.fr (fun c x y => by rw [hG8, up_ne (by omega)]), h5.fr (fun c x y => at_ (by omega)), fun i hi => ?_, fun i hi => ?_, fun i hi j hj => by rw [at_ (by omega)]; exact h6.2.2 i hi j hj⟩⟩
        · rw [hG8, up_at, if_neg (by decide), q7.1 44 (by omega), q4.1 44 (by omega) (by omega)]; exact h3.1
        · rw [hG8, up_at]; simp; rfl
        · refine ⟨by rw [at_ (by omega)]; exact (h6.1 i hi).1, fun z => ?_⟩
          have q := (h6.1 i hi).2 z
          exact ⟨q.1.same (fun c hc => at_ (by omega)), q.2.fr (fun c x y => at_ (by omega))⟩
        · rw [hG8, up_ne (by decide)]; exact q7.2.2 i hi
      · rw [if_pos (by omega), if_neg z, if_neg z, rz0, bn_s]
        exact w_rz (Or.inl rfl) ⟨rfl, cw0, fun _ _ => rfl, fun _ _ => rfl⟩
  · rw [show kW W m y = W by unfold kW; rw [if_neg (by omega)], show kR W m y = 0 by unfold kR; rw [if_neg (by omega)]]
    exact w_rz (Or.inl rfl) ⟨rfl, cw0, fun _ _ => rfl, fun _ _ => rfl⟩
theorem md_mark {W : WLD} (o_ : OW T W) {m y : Int} (hy : y = 0 ∨ y = 1) : SM T (fun G => fX12_mark 111 m y G) W (kW W m y) (fun r => r = kR W m y) := by
  intro G rw_
  have rw0 := rw_
  obtain ⟨h1, h2, h3, h4, h5, h6⟩ := rw_
  have s0 := o_.2.2.2.1.1
  show WP (fX12_mark 111 m y G) _
  unfold fX12_mark
  rw [bh_s, m_within, bp_s, rf_111_19]
  have f1 : ∀ c, c ≠ 111 → up G 111 0 0 c = G c := fun c x => up_ne x
  have k1 : ∀ k, k ≠ 0 → up G 111 0 0 111 k = G 111 k := fun k x => by rw [up_at, if_neg (fun z => x z.2)]
  have RQ : RW T W (up G 111 0 0) := RW.q o_ rw0 FRS.th
  have no : WP (rz 0 (up G 111 0 0)) (SMK T W (fun r => r = 0) G) := w_rz (Or.inl rfl) ⟨rfl, RQ, fun c x => f1 c (by omega), f1 _ (by decide), f1 _ (by decide), f1 _ (by decide), f1 _ (by decide), k1 2 (by decide)⟩
  generalize hG1 : up G 111 0 0 = G1 at f1 k1 RQ no
  by_cases c : 0 ≤ m ∧ m ≤ 3
  · obtain ⟨m', rfl⟩ : ∃ m' : Nat, m = (m' : Int) := ⟨m.toNat, by omega⟩
    have hm : m' < 4 := by omega
    have w01 := (o_.2.2.2.2.2.1 m' hm).1
    obtain ⟨g1, g2, g3, g4, g5, g6⟩ := RQ
    rw [if_pos c, if_neg (by decide), jn_s]
    have cp : ∀ (s t : Int), (s = 0 ∧ t = 155 * (1 + (m' : Int))) ∨ (t = 0 ∧ s = 155 * (1 + (m' : Int))) → ∀ G4 : Hp, WP (fX12_copies 111 s t 155 G4) (fun _ G' => (∀ c, c ≠ 123 → G' c = G4 c) ∧ (∀ j : Nat, G' 123 j = if t ≤ (j : Int) ∧ (j : Int) < t + 155 then G4 123 (s + ((j : Int) - t)).toNat else G4 123 j)) := fun s t h G4 => m_copies (by omega) (by omega) (by omega) (by omega) (by omega) (by omega) (by omega)
    have nog : ∀ {o1 : RT} (f : RT → RT), True := fun _ => trivial
    have eW : kW W (m' : Int) y = if y = 0 then lW W m' else if W.2.2.2.2.1 m' = 1 then bW W m' else W := by unfold kW; rw [if_pos (show 0 ≤ (m' : Int) ∧ (m' : Int) < 4 by omega), Int.toNat_natCast]
    have eR : kR W (m' : Int) y = if y = 0 then 1 else if W.2.2.2.2.1 m' = 1 then 1 else 0 := by unfold kR; rw [if_pos (show 0 ≤ (m' : Int) ∧ (m' : Int) < 4 by omega), Int.toNat_natCast]
    rw [eW, eR]
    rcases hy with e | e
    · simp only [if_pos e]
      refine w_wrZ (by omega) (by omega) (Or.inr rfl) (fun G4 hG4 => ?_)
      refine w_jn ?_
      refine w_jn ?_
      rw [iadd_id (by omega) (by omega), imul_id (by omega) (by omega)]
      refine w_bn (cp 0 (155 * (1 + (m' : Int))) (Or.inl ⟨rfl, rfl⟩) G4) (fun _ G9 q => ?_)
      refine w_bh (fun G10 hG10 => ?_)
      have ax : ∀ c, c ≠ 111 → c ≠ 123 → c ≠ 124 → G10 c = G c := fun c x y z => by rw [hG10, up_ne x, q.1 c y, hG4, up_ne z, f1 c x]
      have ak : ∀ k, k ≠ 0 → G10 111 k = G 111 k := fun k x => by
        have e9 : ∀ k, G9 111 k = G1 111 k := fun k => by rw [q.1 111 (by decide), hG4, up_ne (by decide)]
        rw [hG10, up_at]
        split
        · rename_i z; rw [e9, z.2, k1 18 (by decide)]
        · rw [e9, k1 k x]
      have aj : ∀ j : Nat, G10 123 j = if 155 * (1 + (m' : Int)) ≤ (j : Int) ∧ (j : Int) < 155 * (1 + (m' : Int)) + 155 then G 123 ((j : Int) - 155 * (1 + (m' : Int))).toNat else G 123 j := fun j => by
        rw [hG10, up_ne (by decide), q.2, hG4, up_ne (by decide), f1 123 (by decide), Int.zero_add]
      have am : ∀ i, G10 124 i = if i = m' then 1 else G 124 i := fun i => by rw [hG10, up_ne (by decide), q.1 124 (by decide), hG4, up_at, f1 124 (by decide), Int.toNat_natCast]; simp
      have lo : ∀ j : Nat, (j < 155 * (1 + m') ∨ 155 * (1 + m') + 155 ≤ j) → G10 123 j = G 123 j := fun j z => by rw [aj, if_neg (by omega)]
      refine w_rz (Or.inr rfl) ⟨rfl, ⟨h1.fr (ax _ (by decide) (by decide) (by decide)) (ax _ (by decide) (by decide) (by decide)), h2.lo2 (fun i _ z => lo i (by omega)), h3.fr (ak 18 (by decide)) (fun i z _ => lo i (by omega)), h4.lo s0.2 (by omega) (fun i _ z => lo i (by omega)), h5.fr (ax _ (by decide) (by decide) (by decide)), fun i hi => ?_⟩, fun c x => ax c (by omega) (by omega) (by omega), ax _ (by decide) (by decide) (by decide), ax _ (by decide) (by decide) (by decide), ax _ (by decide) (by decide) (by decide), ax _ (by decide) (by decide) (by decide), ak 2 (by decide)⟩
      show G10 124 i = (if i = m' then 1 else W.2.2.2.2.1 i) ∧ ((if i = m' then (1 : Int) else W.2.2.2.2.1 i) = 1 → MR (155 * (1 + i)) (if i = m' then W.1 else W.2.2.2.2.2.1 i) G10 ∧ MSe (155 * (1 + i)) (if i = m' then W.2.2.1 else W.2.2.2.2.2.2 i) G10)
      rw [am]
      by_cases ei : i = m'
      · rw [if_pos ei, if_pos ei, if_pos ei, if_pos ei, ei]
        refine ⟨rfl, fun _ => ⟨fun j hj => ?_, ?_, fun j j1 j2 => ?_⟩⟩
        · rw [aj, if_pos (by omega), ← h2 j hj]; exact congrArg (G 123) (by omega)
        · rw [aj, if_pos (by omega), ← h4.1]; exact congrArg (G 123) (by omega)
        · rw [aj, if_pos (by omega), aj, if_pos (by omega), aj, if_pos (by omega)]
          have q := h4.2 j j1 j2
          rw [← q.1, ← q.2.1, ← q.2.2]
          exact ⟨congrArg (G 123) (by omega), congrArg (G 123) (by omega), congrArg (G 123) (by omega)⟩
      · rw [if_neg ei, if_neg ei, if_neg ei, if_neg ei]
        refine ⟨(h6 i hi).1, fun z => ?_⟩
        have q := (h6 i hi).2 z
        have v := ((o_.2.2.2.2.2.1 i hi).2 z).2.1.2
        exact ⟨q.1.lo2 (fun j _ y => lo j (by omega)), q.2.lo v (by omega) (fun j _ y => lo j (by omega))⟩
    · have e0 : ¬ y = 0 := by omega
      simp only [if_neg e0]
      rw [rd_in (by omega) (by omega), br_s, Int.toNat_natCast, (g6 m' hm).1]
      by_cases z : W.2.2.2.2.1 m' = 1
      · rw [if_neg (by omega), if_pos z, if_pos z]
        have qm := (h6 m' hm).2 z
        have qs := ((o_.2.2.2.2.2.1 m' hm).2 z).2.1
        refine w_wrZ (by omega) (by omega) (Or.inr rfl) (fun G4 hG4 => ?_)
        refine w_jn ?_
        refine w_jn ?_
        rw [iadd_id (by omega) (by omega), imul_id (by omega) (by omega)]
        refine w_bn (cp (155 * (1 + (m' : Int))) 0 (Or.inr ⟨rfl, rfl⟩) G4) (fun _ G9 q => ?_)
        refine w_bh (fun G11 hG11 => ?_)
        have ax : ∀ c, c ≠ 111 → c ≠ 123 → c ≠ 124 → G11 c = G c := fun c x y z => by rw [hG11, up_ne x, q.1 c y, hG4, up_ne z, f1 c x]
        have ak : ∀ k, k ≠ 0 → k ≠ 18 → G11 111 k = G 111 k := fun k x y => by rw [hG11, up_at, if_neg (fun z => y z.2), q.1 111 (by decide), hG4, up_ne (by decide), k1 k x]
        have aj : ∀ j : Nat, G11 123 j = if j < 155 then G 123 (155 * (1 + m') + j) else G 123 j := fun j => by
          rw [hG11, up_ne (by decide), q.2, hG4, up_ne (by decide), f1 123 (by decide)]
          by_cases u : j < 155
          · rw [if_pos (by omega), if_pos u]; first | done | exact congrArg (G 123) (by omega)
          · rw [if_neg (by omega), if_neg u]
        have am : ∀ i, i < 4 → G11 124 i = W.2.2.2.2.1 i := fun i hi => by
          rw [hG11, up_ne (by decide), q.1 124 (by decide), hG4, up_at, f1 124 (by decide), Int.toNat_natCast]
          split
          · rename_i u; rw [u.2, z]
          · exact (h6 i hi).1
        refine w_rz (Or.inr rfl) ⟨rfl, ⟨h1.fr (ax _ (by decide) (by decide) (by decide)) (ax _ (by decide) (by decide) (by decide)), fun j hj => ?_, ⟨by rw [hG11, up_at]; simp; rfl, Nat.zero_le _, fun k hk => absurd hk (Nat.not_lt_zero _)⟩, ⟨?_, fun j j1 j2 => ?_⟩, h5.fr (ax _ (by decide) (by decide) (by decide)), fun i hi => ?_⟩, fun c x => ax c (by omega) (by omega) (by omega), ax _ (by decide) (by decide) (by decide), ax _ (by decide) (by decide) (by decide), ax _ (by decide) (by decide) (by decide), ax _ (by decide) (by decide) (by decide), ak 2 (by decide) (by decide)⟩
        · rw [aj, if_pos (by omega), Nat.zero_add]; exact qm.1 j hj
        · rw [aj, if_pos (by omega), Nat.zero_add]; exact qm.2.1
        · have j2 : j < (W.2.2.2.2.2.2 m').1 := j2
          rw [aj, if_pos (by omega), aj, if_pos (by omega), aj, if_pos (by omega)]
          have q := qm.2.2 j j1 j2
          show _ = (W.2.2.2.2.2.2 m').2.1 j ∧ _ = (W.2.2.2.2.2.2 m').2.2.1 j ∧ _ = (W.2.2.2.2.2.2 m').2.2.2 j
          rw [← q.1, ← q.2.1, ← q.2.2]
          exact ⟨congrArg (G 123) (by omega), congrArg (G 123) (by omega), congrArg (G 123) (by omega)⟩
        · refine ⟨am i hi, fun u => ?_⟩
          have q := (h6 i hi).2 u
          have v := ((o_.2.2.2.2.2.1 i hi).2 u).2.1.2
          exact ⟨q.1.lo2 (fun j x y => by rw [aj, if_neg (by omega)]), q.2.lo v (by omega) (fun j x y => by rw [aj, if_neg (by omega)])⟩
      · rw [if_pos (by omega), if_neg z, if_neg z]; exact no
  · rw [if_neg c, if_pos rfl, show kW W m y = W by unfold kW; rw [if_neg (by omega)], show kR W m y = 0 by unfold kR; rw [if_neg (by omega)]]; exact no
end WLDS
