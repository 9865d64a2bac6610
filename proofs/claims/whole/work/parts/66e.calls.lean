section WLDS
variable {b : Nat} {a : AS} {G : Hp} {T : TT}
/-! undo, seeing, marks -/
def uW (W : WLD) : WLD := if W.2.1.1 = 0 then W else (W.2.1.2 (W.2.1.1 - 1), qU W.2.1, W.2.2)
theorem OW_u {W : WLD} (o_ : OW T W) : OW T (uW W) := by
  unfold uW; split
  · exact o_
  · obtain ⟨w, hw, wu, hS, hk, wm, u16⟩ := o_
    exact ⟨w, wu _ (by omega), fun k hk => wu k (by have : k < W.2.1.1 - 1 := hk; omega), hS, hk, wm, by show W.2.1.1 - 1 ≤ 16; omega⟩
theorem xd_undo {W : WLD} (o_ : OW T W) : SX T (fun G => fX11_undo 0 G) W (uW W) (fun r => r = if W.2.1.1 = 0 then 0 else 1) := by
  intro G cw
  have cw0 := cw
  obtain ⟨h1, h2, ⟨nx, h3⟩, h4, h5, h6⟩ := cw
  show WP (bn (fX3_takeBack 44 27 G) fun v1 G2 => rz v1 G2) _
  refine w_bn (x_takeBack h3) (fun v G2 q => ?_)
  unfold uW
  rcases q.2 with z | z
  · rw [if_pos z.1, if_pos z.1]
    exact w_rz (Or.inl z.2.1) ⟨z.2.1, by rw [z.2.2]; exact cw0, fun c _ => by rw [z.2.2], fun c _ => by rw [z.2.2]⟩
  · rw [if_neg z.1, if_neg z.1]
    have at_ : ∀ {c : Nat}, (c < 27 ∨ (28 < c ∧ c < 44) ∨ 44 < c) → G2 c = G c := fun hc => q.1 _ (by omega) (by omega) (by omega)
    exact w_rz (Or.inr z.2.1) ⟨z.2.1, ⟨h1.fr (at_ (by omega)) (at_ (by omega)) (at_ (by omega)) (at_ (by omega)), z.2.2.1, z.2.2.2, h4.fr (fun c x y => at_ (by omega)), h5.fr (fun c x y => at_ (by omega)), h6.fr (fun c x => at_ (by omega))⟩, fun c x => at_ (by omega), fun c x => at_ (by omega)⟩
theorem md_undo {W : WLD} (o_ : OW T W) : SM T (fun G => fX12_undo 111 G) W (uW W) (fun r => r = if W.2.1.1 = 0 then 0 else 1) := by
  intro G rw_
  have rw0 := rw_
  obtain ⟨h1, h2, h3, h4, h5, h6⟩ := rw_
  refine (m_undo h3 h2).mono (fun r G' q => ?_)
  have at_ : ∀ {c : Nat}, (c ≠ 111 ∧ c ≠ 123) → G' c = G c := fun hc => q.1 _ hc.1 hc.2
  have s8 := o_.2.2.2.1.1.2
  have S' : MSe 0 W.2.2.1 G' := ⟨by rw [q.2.2.1 _ (by omega)]; exact h4.1, fun i i1 i2 => by rw [q.2.2.1 _ (by omega), q.2.2.1 _ (by omega), q.2.2.1 _ (by omega)]; exact h4.2 i i1 i2⟩
  have M' : MM W.2.2.2.2 G' := MM.fr o_.2.2.2.2.2.1 h6 (at_ (by decide)) (fun i _ y => q.2.2.1 i (by omega))
  have fr : (∀ c, c < 111 → G' c = G c) ∧ G' 112 = G 112 ∧ G' 116 = G 116 ∧ G' 117 = G 117 ∧ G' 119 = G 119 ∧ G' 111 2 = G 111 2 := ⟨fun c x => at_ (by omega), at_ (by decide), at_ (by decide), at_ (by decide), at_ (by decide), q.2.1 2 (by decide) (by decide)⟩
  unfold uW
  rcases q.2.2.2 with z | z
  · rw [if_pos z.1, if_pos z.1]
    exact ⟨z.2.1, ⟨h1.fr (at_ (by decide)) (at_ (by decide)), z.2.2.2, z.2.2.1, S', h5.fr (at_ (by decide)), M'⟩, fr⟩
  · rw [if_neg z.1, if_neg z.1]
    exact ⟨z.2.1, ⟨h1.fr (at_ (by decide)) (at_ (by decide)), z.2.2.1, z.2.2.2, S', h5.fr (at_ (by decide)), M'⟩, fr⟩
/-- one more is seen -/
def sW (W : WLD) (p s m : Int) : WLD := (W.1, W.2.1, (W.2.2.1.1 + 1, fun i => if i = W.2.2.1.1 then p else W.2.2.1.2.1 i, fun i => if i = W.2.2.1.1 then s else W.2.2.1.2.2.1 i, fun i => if i = W.2.2.1.1 then m else W.2.2.1.2.2.2 i), W.2.2.2)
def seeOk (T : TT) (W : WLD) (p s : Int) : Prop := (0 ≤ p ∧ p < tC T) ∧ (0 ≤ s ∧ s ≤ 20) ∧ W.2.2.1.1 < 8
theorem OW_s {W : WLD} (o_ : OW T W) {p s m : Int} (h : seeOk T W p s) (hm : m = 0 ∨ m = 1) : OW T (sW W p s m) := by
  obtain ⟨w, hw, wu, hS, hk, wm, u16⟩ := o_
  refine ⟨w, hw, wu, ⟨⟨by show 0 ≤ W.2.2.1.1 + 1; have := hS.1; omega, by show W.2.2.1.1 + 1 ≤ 8; have := h.2.2; omega⟩, fun i i1 i2 => ?_⟩, hk, wm, u16⟩
  have i2 : i < W.2.2.1.1 + 1 := i2
  show (0 ≤ (if i = W.2.2.1.1 then p else W.2.2.1.2.1 i) ∧ (if i = W.2.2.1.1 then p else W.2.2.1.2.1 i) < tC T) ∧ (0 ≤ (if i = W.2.2.1.1 then s else W.2.2.1.2.2.1 i) ∧ (if i = W.2.2.1.1 then s else W.2.2.1.2.2.1 i) ≤ 20) ∧ ((if i = W.2.2.1.1 then m else W.2.2.1.2.2.2 i) = 0 ∨ (if i = W.2.2.1.1 then m else W.2.2.1.2.2.2 i) = 1)
  by_cases e : i = W.2.2.1.1
  · rw [if_pos e, if_pos e, if_pos e]; exact ⟨h.1, h.2.1, hm⟩
  · rw [if_neg e, if_neg e, if_neg e]; exact hS.2 i i1 (by omega)
noncomputable def vW (T : TT) (W : WLD) (p s m : Int) : WLD := @ite _ (seeOk T W p s) (Classical.propDecidable _) (sW W p s m) W
noncomputable def seR (T : TT) (W : WLD) (p s : Int) : Int := pif (seeOk T W p s) 1 0
theorem OW_v {W : WLD} (o_ : OW T W) {p s m : Int} (hm : m = 0 ∨ m = 1) : OW T (vW T W p s m) := by
  unfold vW; split
  · rename_i h; exact OW_s o_ h hm
  · exact o_
theorem xd_see {W : WLD} (o_ : OW T W) {p s m : Int} (hm : m = 0 ∨ m = 1) : SX T (fun G => fX11_see 0 p s m G) W (vW T W p s m) (fun r => r = seR T W p s) := by
  intro G cw
  have cw0 := cw
  obtain ⟨h1, h2, h3, h4, h5, h6⟩ := cw
  have s0 := o_.2.2.2.1.1
  have no : ¬ seeOk T W p s → WP (rz 0 G) (fun r G' => r = seR T W p s ∧ CW T (vW T W p s m) G' ∧ (∀ c, 111 ≤ c → G' c = G c) ∧ (∀ c, c ≤ 26 → G' c = G c)) := fun z => by
    unfold vW seR; rw [if_neg z, pif_f z]
    exact w_rz (Or.inl rfl) ⟨rfl, cw0, fun _ _ => rfl, fun _ _ => rfl⟩
  show WP (fX11_see 0 p s m G) _
  unfold fX11_see
  rw [rf_0_1, rf_0_10, x_isPlace h1, bp_s]
  by_cases c : 0 ≤ p ∧ p < tC T
  · rw [if_pos c, if_neg (by decide)]
    refine w_ite (fun d => no (fun z => by have := z.2.1; omega)) (fun d => w_ite (fun e => no (fun z => by have := z.2.1; omega)) (fun e => ?_))
    unfold fX5_add
    rw [rf_39_0, rf_39_1, rf_39_2, h4.1]
    by_cases q8 : W.2.2.1.1 < 8
    · have ok : seeOk T W p s := ⟨c, ⟨by omega, by omega⟩, q8⟩
      rw [if_pos q8, wr_in (by omega) (by omega), bs_s]
      have e1 : up G 40 W.2.2.1.1.toNat p 39 4 = W.2.2.1.1 := by rw [up_ne (by decide)]; exact h4.1
      rw [e1, wr_in (by omega) (by omega), bs_s]
      have e2 : up (up G 40 W.2.2.1.1.toNat p) 41 W.2.2.1.1.toNat s 39 4 = W.2.2.1.1 := by rw [up_ne (by decide)]; exact e1
      rw [e2, wrZ_in (by omega) (by omega) hm, bs_s, bh_s]
      have e3 : up (up (up G 40 W.2.2.1.1.toNat p) 41 W.2.2.1.1.toNat s) 42 W.2.2.1.1.toNat m 39 4 = W.2.2.1.1 := by rw [up_ne (by decide)]; exact e2
      rw [e3, iadd_id (by omega) (by omega), rz1, bn_s]
      generalize hG' : up (up (up (up G 40 W.2.2.1.1.toNat p) 41 W.2.2.1.1.toNat s) 42 W.2.2.1.1.toNat m) 39 4 (W.2.2.1.1 + 1) = G'
      have at_ : ∀ {c : Nat}, (c < 39 ∨ 42 < c) → G' c = G c := fun {c} hc => by rw [← hG', up_ne (by omega), up_ne (by omega), up_ne (by omega), up_ne (by omega)]
      unfold vW seR; rw [if_pos ok, pif_t ok]
      refine w_rz (Or.inr rfl) ⟨rfl, ⟨h1.fr (at_ (by omega)) (at_ (by omega)) (at_ (by omega)) (at_ (by omega)), h2.fr (at_ (by omega)) (at_ (by omega)), ?_, ?_, h5.fr (fun c x y => at_ (by omega)), ?_⟩, fun c x => at_ (by omega), fun c x => at_ (by omega)⟩
      · obtain ⟨nx, h3⟩ := h3
        exact ⟨nx, h3.fr (fun c _ _ hc => at_ (by omega))⟩
      · refine ⟨by rw [← hG', up_at]; simp; rfl, fun i i1 i2 => ?_⟩
        have i2 : i < W.2.2.1.1 + 1 := i2
        show G' 40 i.toNat = (if i = W.2.2.1.1 then p else W.2.2.1.2.1 i) ∧ G' 41 i.toNat = (if i = W.2.2.1.1 then s else W.2.2.1.2.2.1 i) ∧ G' 42 i.toNat = (if i = W.2.2.1.1 then m else W.2.2.1.2.2.2 i)
        rw [← hG', up_ne (by decide), up_ne (by decide), up_ne (by decide), up_at, up_ne (by decide), up_ne (by decide), up_at, up_ne (by decide), up_ne (by decide), up_at, up_ne (by decide), up_ne (by decide)]
        by_cases e : i = W.2.2.1.1
        · rw [if_pos ⟨rfl, by rw [e]⟩, if_pos e, if_pos ⟨rfl, by rw [e]⟩, if_pos e, if_pos ⟨rfl, by rw [e]⟩, if_pos e]; exact ⟨rfl, rfl, rfl⟩
        · rw [if_neg (by omega), if_neg e, if_neg (by omega), if_neg e, if_neg (by omega), if_neg e]; exact h4.2 i i1 (by omega)
      · have h6' : XM W.2.2.2.2 (fun c => if c = 42 then G 42 else G' c) := h6.fr (fun c x => by
          by_cases e : c = 42
          · rw [if_pos e, e]
          · rw [if_neg e]; exact at_ (by omega))
        refine ⟨fun m' hm' => ⟨by rw [at_ (by omega)]; exact (h6.1 m' hm').1, fun z => ?_⟩, fun i hi => ?_, fun m' hm' i hi => by rw [at_ (by omega)]; exact h6.2.2 m' hm' i hi⟩
        · have q := (h6.1 m' hm').2 z
          exact ⟨q.1.same (fun c hc => at_ (by omega)), q.2.fr (fun c h1 h2 => at_ (by omega))⟩
        · rw [← hG', up_ne (by decide), up_at, up_ne (by decide), up_ne (by decide)]
          split
          · exact hm
          · exact h6.2.1 i hi
    · rw [if_neg q8, rz0, bn_s]; exact no (fun z => q8 z.2.2)
  · rw [if_neg c, if_pos rfl]; exact no (fun z => c z.1)
theorem md_see {W : WLD} (o_ : OW T W) {p s m : Int} (hm : m = 0 ∨ m = 1) : SM T (fun G => fX12_see 111 p s m G) W (vW T W p s m) (fun r => r = seR T W p s) := by
  intro G rw_
  have rw0 := rw_
  obtain ⟨h1, h2, h3, h4, h5, h6⟩ := rw_
  have s0 := o_.2.2.2.1.1
  have M1 : MT T (up G 111 0 0) := h1.fr (up_ne (by decide)) (up_ne (by decide))
  have r130 : up G 111 0 0 123 130 = W.2.2.1.1 := by rw [up_ne (by decide)]; exact h4.1
  have no : ¬ seeOk T W p s → WP (rz 0 (up G 111 0 0)) (SMK T (vW T W p s m) (fun r => r = seR T W p s) G) := fun z => by
    unfold vW seR; rw [if_neg z, pif_f z]
    refine w_rz (Or.inl rfl) ⟨rfl, RW.q o_ rw0 FRS.th, fun c x => up_ne (by omega), up_ne (by decide), up_ne (by decide), up_ne (by decide), up_ne (by decide), by rw [up_at, if_neg (by decide)]⟩
  show WP (fX12_see 111 p s m G) _
  unfold fX12_see
  rw [bh_s, m_isPlace M1, bp_s, m_within, bp_s, rf_111_17, rd_in (by decide) (by decide), br_s, br_s, show (130 : Int).toNat = 130 from rfl, r130]
  by_cases c : 0 ≤ p ∧ p < tC T
  · rw [if_pos c, if_neg (by decide)]
    by_cases d : 0 ≤ s ∧ s ≤ 20
    · rw [if_pos d, if_neg (by decide)]
      by_cases q8 : W.2.2.1.1 = 8
      · rw [if_pos q8]; exact no (fun z => by have := z.2.2; omega)
      · have ok : seeOk T W p s := ⟨c, d, by omega⟩
        rw [if_neg q8, imul_id (by omega) (by omega), iadd_id (b := 3 * W.2.2.1.1) (by omega) (by omega), bd_s, wr_in (by omega) (by omega), bs_s, iadd_id (b := 1) (by omega) (by omega), wr_in (by omega) (by omega), bs_s, jn_s]
        have key : ∀ v, v = m → WP (bs (wr (up (up (up G 111 0 0) 123 (131 + 3 * W.2.2.1.1).toNat p) 123 (131 + 3 * W.2.2.1.1 + 1).toNat s) 123 3565 (iadd (131 + 3 * W.2.2.1.1) 2) v) fun G11 => br (rd G11 123 3565 130) fun v12 => bs (wr G11 123 3565 130 (iadd v12 1)) fun G13 => rz 1 G13) (SMK T (vW T W p s m) (fun r => r = seR T W p s) G) := by
          intro v hv
          rw [hv, iadd_id (by omega) (by omega), wr_in (by omega) (by omega), bs_s, rd_in (by decide) (by decide), br_s, show (130 : Int).toNat = 130 from rfl]
          generalize hG3 : up (up (up (up G 111 0 0) 123 (131 + 3 * W.2.2.1.1).toNat p) 123 (131 + 3 * W.2.2.1.1 + 1).toNat s) 123 (131 + 3 * W.2.2.1.1 + 2).toNat m = G3
          have g3 : ∀ j, G3 123 j = if (j : Int) = 131 + 3 * W.2.2.1.1 + 2 then m else if (j : Int) = 131 + 3 * W.2.2.1.1 + 1 then s else if (j : Int) = 131 + 3 * W.2.2.1.1 then p else G 123 j := fun j => by
            rw [← hG3, up_at, up_at, up_at, up_ne (show (123 : Nat) ≠ 111 by decide)]
            (repeat' split) <;> first | rfl | (exfalso; omega)
          have c3 : ∀ c, c ≠ 111 → c ≠ 123 → G3 c = G c := fun c x y => by rw [← hG3, up_ne y, up_ne y, up_ne y, up_ne x]
          have e130 : G3 123 130 = W.2.2.1.1 := by rw [g3, if_neg (by omega), if_neg (by omega), if_neg (by omega)]; exact h4.1
          rw [e130, iadd_id (by omega) (by omega), wr_in (by decide) (by decide), bs_s, show (130 : Int).toNat = 130 from rfl]
          generalize hG' : up G3 123 130 (W.2.2.1.1 + 1) = G'
          have g' : ∀ j, j ≠ 130 → G' 123 j = G3 123 j := fun j z => by rw [← hG', up_at, if_neg (fun y => z y.2)]
          have c' : ∀ c, c ≠ 111 → c ≠ 123 → G' c = G c := fun c x y => by rw [← hG', up_ne y, c3 c x y]
          have k' : ∀ k, k ≠ 0 → G' 111 k = G 111 k := fun k x => by rw [← hG', up_ne (by decide), ← hG3, up_ne (by decide), up_ne (by decide), up_ne (by decide), up_at, if_neg (fun z => x z.2)]
          have lo : ∀ j, j < 130 ∨ 155 ≤ j → G' 123 j = G 123 j := fun j z => by rw [g' j (by omega), g3, if_neg (by omega), if_neg (by omega), if_neg (by omega)]
          unfold vW seR; rw [if_pos ok, pif_t ok]
          refine w_rz (Or.inr rfl) ⟨rfl, ⟨h1.fr (c' _ (by decide) (by decide)) (c' _ (by decide) (by decide)), h2.lo2 (fun i _ y => lo i (by omega)), h3.fr (k' 18 (by decide)) (fun i x _ => lo i (by omega)), ⟨?_, fun i i1 i2 => ?_⟩, h5.fr (c' _ (by decide) (by decide)), MM.fr o_.2.2.2.2.2.1 h6 (c' _ (by decide) (by decide)) (fun i x _ => lo i (by omega))⟩, fun c x => c' c (by omega) (by omega), c' _ (by decide) (by decide), c' _ (by decide) (by decide), c' _ (by decide) (by decide), c' _ (by decide) (by decide), k' 2 (by decide)⟩
          · rw [← hG', up_at]; simp; rfl
          · have i2 : i < W.2.2.1.1 + 1 := i2
            show G' 123 (((0 : Nat) : Int) + 131 + 3 * i).toNat = (if i = W.2.2.1.1 then p else W.2.2.1.2.1 i) ∧ G' 123 (((0 : Nat) : Int) + 131 + 3 * i + 1).toNat = (if i = W.2.2.1.1 then s else W.2.2.1.2.2.1 i) ∧ G' 123 (((0 : Nat) : Int) + 131 + 3 * i + 2).toNat = (if i = W.2.2.1.1 then m else W.2.2.1.2.2.2 i)
            rw [g' _ (by omega), g' _ (by omega), g' _ (by omega), g3, g3, g3]
            by_cases e : i = W.2.2.1.1
            · rw [if_pos e, if_pos e, if_pos e, if_neg (by omega), if_neg (by omega), if_pos (by omega), if_neg (by omega), if_pos (by omega), if_pos (by omega)]; exact ⟨rfl, rfl, rfl⟩
            · rw [if_neg e, if_neg e, if_neg e, if_neg (by omega), if_neg (by omega), if_neg (by omega), if_neg (by omega), if_neg (by omega), if_neg (by omega), if_neg (by omega), if_neg (by omega), if_neg (by omega)]
              exact h4.2 i i1 (by omega)
        refine w_ite (fun z => key 0 z.symm) (fun z => key 1 (by omega))
    · rw [if_neg d, if_pos rfl]; exact no (fun z => d z.2.1)
  · rw [if_neg c, if_pos rfl]; exact no (fun z => c z.1)
end WLDS
