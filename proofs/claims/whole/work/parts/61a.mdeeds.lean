section MDE
variable {b : Nat} {a : AS} {G : Hp} {T : TT}
theorem m_begun (w : WT T) (hw : WA T a) (hb : b ≤ 3410) (hR_G : MR b a G) (hM_G : MT T G) {n : Int} (h1 : 0 ≤ n) (h2 : n < tN T) : WP (fX12_begun 111 b n G) (fun r G' => FRM b G G' ∧ r = (eBeg T a n).1 ∧ MR b (eBeg T a n).2 G') := by
  have wr := w.rg
  unfold fX12_begun
  simp only [rf_111_17]
  refine w_bp (m_inSet w hb hM_G hR_G hw) (fun v1 hv1 => ?_)
  refine w_ite (fun c_1 => ?_) (fun c_1 => ?_)
  · skip
    refine w_bn (m_goesOut hb hR_G (hw.1) (n := n) (by omega) (by omega)) (fun _ G2 qG2 => ?_)
    obtain ⟨fG2, gG2, xG2⟩ := qG2
    have FG2 : FRM b G G2 := ⟨fun c _ y _ _ => fG2 c y, fun k _ => by rw [fG2 111 (by decide)], gG2⟩
    try rw [show iadd (iadd b (imul 15 n)) 0 = ((b + (15 * n)) + 0) by simp (disch := omega) only [iadd_id, isub_id, imul_id]]
    refine w_wr (by omega) (by omega) (fun G3 hG3 => ?_)
    try rw [show iadd (iadd b (imul 15 n)) 1 = ((b + (15 * n)) + 1) by simp (disch := omega) only [iadd_id, isub_id, imul_id]]
    refine w_wr (by omega) (by omega) (fun G4 hG4 => ?_)
    try rw [show iadd (iadd b (imul 15 n)) 2 = ((b + (15 * n)) + 2) by simp (disch := omega) only [iadd_id, isub_id, imul_id]]
    refine w_wr (by omega) (by omega) (fun G5 hG5 => ?_)
    refine w_rz (by omega) ?_
    have e : eBeg T a n = (1, dBeg a n) := by unfold eBeg; exact if_pos (by omega)
    have oo : ∀ m, isi a m = 0 := fun m => by unfold isi; rw [show a.1 = 0 by omega]; unfold bt; simp
    rw [e]
    refine ⟨FG2.tr ⟨fun c _ y _ _ => by rw [hG5, up_ne y, hG4, up_ne y, hG3, up_ne y], fun k _ => by rw [hG5, up_ne (by decide), hG4, up_ne (by decide), hG3, up_ne (by decide)], fun i x => by rw [hG5, up_at, if_neg (by omega), hG4, up_at, if_neg (by omega), hG3, up_at, if_neg (by omega)]⟩, rfl, ?_⟩
    have g5 : ∀ j : Nat, G5 123 j = if (j : Int) = b + 15 * n then 1 else if (j : Int) = b + 15 * n + 1 then 1 else if (j : Int) = b + 15 * n + 2 then n else G2 123 j := fun j => by rw [hG5, up_at, hG4, up_at, hG3, up_at]; grind
    have hl : ∀ m k, lst (dBeg a n) m k = if m = n ∧ k = 0 then n else -1 := fun m k => by
      unfold dBeg; rw [dLs_lst, dIn_lst, (hw.o (oo m)).1]; grind
    have hn0 : ∀ m, m ≠ n → llen (dBeg a n) m = 0 := fun m hm => by unfold llen; simp [hl, hm]
    have hn1 : llen (dBeg a n) n = 1 := by unfold llen; simp [hl]; omega
    have hd0 : ∀ m, llen (dOut a n) m = 0 := fun m => by unfold llen; rw [dOut_lst, (hw.o (oo m)).1]; simp
    refine MR_of (fun m x1 x2 => ?_) (fun m x1 x2 => ?_) (fun m j x1 x2 x3 x4 => ?_) (fun m x1 x2 => ?_) (fun m j x1 x2 x3 x4 => ?_) (fun j x1 x2 => ?_)
    · rw [g5, xG2.i x1 x2, dOut_isi hw.1 h1 (by omega)]
      show _ = isi (dIn a n) m
      rw [dIn_isi hw.1 h1 (by omega)]; grind
    · rw [g5, xG2.n x1 x2, hd0]
      by_cases e : m = n
      · rw [e, hn1]; grind
      · rw [hn0 m e]; grind
    · rw [g5, xG2.l x1 x2 x3 x4, hl, dOut_lst, (hw.o (oo m)).1]; grind
    · rw [g5, xG2.ah x1 x2, dOut_ahd]; unfold dBeg; rw [dLs_ahd, dIn_ahd, (hw.o (oo m)).2.1]; grind
    · rw [g5, xG2.f x1 x2 x3 x4, dOut_fng]; unfold dBeg; rw [dLs_fng, dIn_fng, (hw.o (oo m)).2.2]; grind
    · rw [g5, xG2.h x1 x2, dOut_hld]; unfold dBeg; rw [dLs_hld, dIn_hld]; grind
  · skip
    refine w_rz (by omega) ?_
    have e : eBeg T a n = (0, a) := by unfold eBeg; exact if_neg (by omega)
    rw [e]; exact ⟨FRM.rf b G, by first | rfl | omega, hR_G⟩

theorem AE_out {n : Int} (h1 : 0 ≤ n) (h2 : n < 8) (hw : WA T a) (hn : isi a n = 0) : AE (dOut a n) a := by
  have o := hw.o hn
  refine ⟨?_, fun m k => ?_, fun m => ?_, fun m k => ?_, fun k => dOut_hld n k⟩
  · show gou a n = a.1
    unfold gou
    rw [← isi_bt h1 h2, hn]; omega
  · rw [dOut_lst]; split
    · rename_i e; rw [e, o.1]
    · rfl
  · rw [dOut_ahd]; split
    · rename_i e; rw [e, o.2.1]
    · rfl
  · rw [dOut_fng]; split
    · rename_i e; rw [e, o.2.2]
    · rfl
theorem m_joined (w : WT T) (hw : WA T a) (hb : b ≤ 3410) (hR_G : MR b a G) (hM_G : MT T G) {n y : Int} (h1 : 0 ≤ n) (h2 : n < tN T) (h3 : y < tN T) : WP (fX12_joined 111 b n y G) (fun r G' => FRM b G G' ∧ r = (eJoin T a n y).1 ∧ MR b (eJoin T a n y).2 G') := by
  have wr := w.rg
  have yi := hw.inr (n := y)
  unfold fX12_joined
  simp only [rf_111_17]
  refine w_bp (m_isIn (b := b) hR_G (by omega) (by omega)) (fun v1 hv1 => ?_)
  have qv1 := hw.inr (n := n)
  refine w_jn ?_
  refine w_jn ?_
  refine w_ite (fun c_1 => ?_) (fun c_1 => ?_)
  · skip
    refine w_bp (m_isIn (b := b) hR_G (by omega) (by omega)) (fun v12 hv12 => ?_)
    have qv12 := hw.inr (n := y)
    refine w_ite (fun c_2 => ?_) (fun c_2 => ?_)
    · skip
      refine w_bd (fun v5 hv5 => ?_)
      have e5 : isi a n = 0 ∧ isi a y = 1 → v5 = skf T a y (tp T n) := fun _ => by first | (rw [hv5, eG15, hv13]) | (exfalso; omega)
      refine w_ite (fun c_3 => ?_) (fun c_3 => ?_)
      · skip
        refine w_rt ?_
        have e : eJoin T a n y = (-1, a) := by unfold eJoin; exact if_neg (by have := skf_r hw w y (tp T n); omega)
        rw [e]; exact ⟨FRM.rf b G, by first | rfl | omega, hR_G⟩
      · exfalso; omega
    · skip
      refine w_bp (m_placeOf hM_G w (by omega) (by omega)) (fun v13 hv13 => ?_)
      have qv13 := w.pl (i := n) (by omega) (by omega)
      refine w_bn (m_finds w hw hb hR_G hM_G (n := y) (p := v13) (by omega) (by omega) (by omega)) (fun v14 G15 qG15 => ?_)
      obtain ⟨fG15, gG15, eG15, tG15, pG15⟩ := qG15
      have FG15 : FRM b G G15 := FRM.of fG15 gG15
      have hR_G15 : MR b a G15 := hR_G.fr (fG15 123 (by decide) (by decide))
      have hM_G15 : MT T G15 := FG15.tt hM_G
      have sG15 := (skf_r hw w y (v13)).1
      refine w_bd (fun v5 hv5 => ?_)
      have e5 : isi a n = 0 ∧ isi a y = 1 → v5 = skf T a y (tp T n) := fun _ => by first | (rw [hv5, eG15, hv13]) | (exfalso; omega)
      refine w_ite (fun c_4 => ?_) (fun c_4 => ?_)
      · skip
        refine w_rt ?_
        have e : eJoin T a n y = (-1, a) := by unfold eJoin; exact if_neg (by have := skf_r hw w y (tp T n); omega)
        rw [e]; exact ⟨FG15, by first | rfl | omega, hR_G15⟩
      · skip
        refine w_bn (m_goesOut hb hR_G15 (hw.1) (n := n) (by omega) (by omega)) (fun _ G6 qG6 => ?_)
        obtain ⟨fG6, gG6, xG6⟩ := qG6
        have FG6 : FRM b G15 G6 := ⟨fun c _ y _ _ => fG6 c y, fun k _ => by rw [fG6 111 (by decide)], gG6⟩
        try rw [show iadd (iadd b (imul 15 n)) 0 = ((b + (15 * n)) + 0) by simp (disch := omega) only [iadd_id, isub_id, imul_id]]
        refine w_wr (by omega) (by omega) (fun G7 hG7 => ?_)
        have hM_G7 : MT T G7 := (FG6.tr (by rw [hG7]; exact FRM.wu (by omega) (by omega))).tt hM_G15
        have x7 : MR b (dIn a n) G7 := by rw [hG7, Int.add_zero]; exact MR_I (xG6.cg (AE_out h1 (by omega) hw (by omega))) hw.1 h1 (by omega)
        refine w_bn (m_lists w (hw.dIn w h1 h2) hb x7 hM_G7 (n := n) (f := v5) (by omega) (by omega) (by omega) (by omega)) (fun _ G8 q8 => ?_)
        obtain ⟨f8, g8, x8⟩ := q8
        refine w_rt ?_
        have e : eJoin T a n y = (skf T a y (tp T n), dLs (dIn a n) n (nls T a n (skf T a y (tp T n)))) := by unfold eJoin; exact if_pos (by omega)
        rw [e]
        refine ⟨(FG15.tr FG6).tr ⟨fun c x y z u => by rw [f8 c y u, hG7, up_ne y], fun k _ => by rw [f8 111 (by decide) (by decide), hG7, up_ne (by decide)], fun i x => by rw [g8 i x, hG7, up_at, if_neg (by omega)]⟩, e5 (by omega), ?_⟩
        rw [e5 (by omega)] at x8
        rw [nl_cg (T := T) (n := n) (f := skf T a y (tp T n)) (fun k => (dIn_lst (a := a) n (skf T a y (tp T n)) k).symm)]
        exact x8
  · skip
    refine w_bd (fun v5 hv5 => ?_)
    have e5 : isi a n = 0 ∧ isi a y = 1 → v5 = skf T a y (tp T n) := fun _ => by first | (rw [hv5, eG15, hv13]) | (exfalso; omega)
    refine w_ite (fun c_5 => ?_) (fun c_5 => ?_)
    · skip
      refine w_rt ?_
      have e : eJoin T a n y = (-1, a) := by unfold eJoin; exact if_neg (by have := skf_r hw w y (tp T n); omega)
      rw [e]; exact ⟨FRM.rf b G, by first | rfl | omega, hR_G⟩
    · exfalso; omega

theorem m_left (w : WT T) (hw : WA T a) (hb : b ≤ 3410) (hR_G : MR b a G) (hM_G : MT T G) {n : Int} (h1 : 0 ≤ n) (h2 : n < tN T) : WP (fX12_left 111 b n G) (fun r G' => FRM b G G' ∧ r = (eLeave a n).1 ∧ MR b (eLeave a n).2 G') := by
  have wr := w.rg
  unfold fX12_left
  refine w_bp (m_isIn (b := b) hR_G (by omega) (by omega)) (fun v1 hv1 => ?_)
  have qv1 := hw.inr (n := n)
  refine w_jn ?_
  refine w_ite (fun c_1 => ?_) (fun c_1 => ?_)
  · skip
    refine w_bd (fun v4 hv4 => ?_)
    refine w_ite (fun c_2 => ?_) (fun c_2 => ?_)
    · skip
      refine w_rz (by omega) ?_
      have e : eLeave a n = (0, a) := by unfold eLeave; exact if_neg (by omega)
      rw [e]; exact ⟨FRM.rf b G, by first | rfl | omega, hR_G⟩
    · exfalso; omega
  · skip
    refine w_bp (m_firstOf (b := b) (by omega) w hw hR_G (by omega) (by omega)) (fun v9 hv9 => ?_)
    have qv9 := hw.f4 w (n := n)
    refine w_bd (fun v4 hv4 => ?_)
    refine w_ite (fun c_3 => ?_) (fun c_3 => ?_)
    · skip
      refine w_rz (by omega) ?_
      have e : eLeave a n = (0, a) := by unfold eLeave; exact if_neg (by omega)
      rw [e]; exact ⟨FRM.rf b G, by first | rfl | omega, hR_G⟩
    · skip
      refine w_ite (fun c_4 => ?_) (fun c_4 => ?_)
      · skip
        refine w_rz (by omega) ?_
        have e : eLeave a n = (0, a) := by unfold eLeave; exact if_neg (by omega)
        rw [e]; exact ⟨FRM.rf b G, by first | rfl | omega, hR_G⟩
      · skip
        refine w_bn (m_giveAll w hw hb hM_G hR_G (f := n) (t := v4) (by omega)) (fun _ G5 qG5 => ?_)
        obtain ⟨fG5, gG5, xG5⟩ := qG5
        have FG5 : FRM b G G5 := ⟨fun c _ y _ _ => fG5 c y, fun k _ => by rw [fG5 111 (by decide)], gG5⟩
        refine w_bn (m_goesOut hb xG5 (hw.1) (n := n) (by omega) (by omega)) (fun _ G6 qG6 => ?_)
        obtain ⟨fG6, gG6, xG6⟩ := qG6
        have FG6 : FRM b G5 G6 := ⟨fun c _ y _ _ => fG6 c y, fun k _ => by rw [fG6 111 (by decide)], gG6⟩
        refine w_rz (by omega) ?_
        have e : eLeave a n = (1, dOut (dPs a n (fst4 a a.1 n)) n) := by unfold eLeave; exact if_pos (by omega)
        rw [e]
        refine ⟨FG5.tr FG6, rfl, ?_⟩
        first | (rw [hv4, hv9] at xG6; exact xG6) | (exfalso; omega)

theorem m_failed (w : WT T) (hw : WA T a) (hb : b ≤ 3410) (hR_G : MR b a G) (hM_G : MT T G) {n : Int} (h1 : 0 ≤ n) (h2 : n < tN T) : WP (fX12_failed 111 b n G) (fun r G' => FRM b G G' ∧ r = (eFail a n).1 ∧ MR b (eFail a n).2 G') := by
  have wr := w.rg
  unfold fX12_failed
  refine w_bp (m_isIn (b := b) hR_G (by omega) (by omega)) (fun v1 hv1 => ?_)
  have qv1 := hw.inr (n := n)
  refine w_ite (fun c_1 => ?_) (fun c_1 => ?_)
  · skip
    refine w_rt ?_
    have e : eFail a n = (-1, a) := by unfold eFail; exact if_neg (by omega)
    rw [e]; exact ⟨FRM.rf b G, by first | rfl | omega, hR_G⟩
  · skip
    refine w_bp (m_heldSet w hb hM_G hR_G hw) (fun v2 hv2 => ?_)
    have q2 := bits_10 (fun k => hld a k = n) (n := (tK T).toNat) (by omega)
    rw [← hv2] at q2
    have e2 : v2 = bits (fun k => hld a k = n) 10 := by rw [hv2]; exact (bits_more 10 (by omega) (fun i x y z => by have := hw.kz (k := i) (by omega); omega)).symm
    refine w_bp (m_manyOf (by omega) (by omega)) (fun v3 hv3 => ?_)
    have qv3 := pcn_r v2
    refine w_bd (fun v4 hv4 => ?_)
    refine w_bn (m_giveAll w hw hb hM_G hR_G (f := n) (t := -1) (by omega)) (fun _ G5 qG5 => ?_)
    obtain ⟨fG5, gG5, xG5⟩ := qG5
    have FG5 : FRM b G G5 := ⟨fun c _ y _ _ => fG5 c y, fun k _ => by rw [fG5 111 (by decide)], gG5⟩
    refine w_bn (m_goesOut hb xG5 (hw.1) (n := n) (by omega) (by omega)) (fun _ G6 qG6 => ?_)
    obtain ⟨fG6, gG6, xG6⟩ := qG6
    have FG6 : FRM b G5 G6 := ⟨fun c _ y _ _ => fG6 c y, fun k _ => by rw [fG6 111 (by decide)], gG6⟩
    refine w_rt ?_
    have e : eFail a n = (pcn (bits (fun k => hld a k = n) 10), dOut (dPs a n (-1)) n) := by unfold eFail; exact if_pos (by omega)
    rw [e]
    exact ⟨FG5.tr FG6, by rw [hv4, hv3, e2], xG6⟩

theorem m_handsBack (w : WT T) (hw : WA T a) (hb : b ≤ 3410) (hR_G : MR b a G) (hM_G : MT T G) {m n : Int} (h1 : 0 ≤ m) (h2 : m < tN T) (h3 : 0 ≤ n) (h4 : n < tN T) : WP (fX12_handsBack 111 b m n G) (fun _ G' => FRM b G G' ∧ MR b (dH a (rcK T a m n)) G') := by
  have wr := w.rg
  unfold fX12_handsBack
  simp only [rf_111_17, rf_111_20]
  refine w_bd (fun v1 hv1 => ?_)
  refine w_lpIH (fun (v2 : Int) (G3 : Hp) => (0 ≤ v2) ∧ (v2 ≤ tK T) ∧ (FRM b G G3) ∧ (MR b (dH a (fun k => if k < v2 then rcK T a m n k else hld a k)) G3)) (fun (v2 : Int) (G3 : Hp) => (10 - v2).toNat) (fun rc4 v2 G3 hI hrc4 => ?_) _ _ ?_ ?_
  · skip
    obtain ⟨i0, i1, f3, x3⟩ := hI
    have hM_G3 : MT T G3 := f3.tt hM_G
    have rk : rcK T a m n v2 = if tk T n ≠ 2 ∧ v2 < tK T ∧ hld a v2 = m ∧ wT T n m < wy (tC T) (tp T n) (tl T v2) then n else hld a v2 := rfl
    refine w_bp (m_keys hM_G3) (fun v5 hv5 => ?_)
    refine w_ite (fun c_1 => ?_) (fun c_1 => ?_)
    · skip
      refine w_bp (m_holderOf (b := b) x3 (by omega) (by omega) (by omega)) (fun v6 hv6 => ?_)
      have rv6 : v6 = hld a v2 := by rw [hv6, dH_hld, if_pos (by omega), if_neg (by omega)]
      refine w_jn ?_
      refine w_jn ?_
      refine w_ite (fun c_2 => ?_) (fun c_2 => ?_)
      · skip
        refine w_bp (m_kindOf hM_G3 w (by omega) (by omega)) (fun v16 hv16 => ?_)
        have qv16 := w.kd (i := n) (by omega) (by omega)
        refine w_ite (fun c_3 => ?_) (fun c_3 => ?_)
        · skip
          refine w_bd (fun v9 hv9 => ?_)
          refine w_jn ?_
          refine w_ite (fun c_4 => ?_) (fun c_4 => ?_)
          · skip
            refine w_bp (m_holderOf (b := b) x3 (by omega) (by omega) (by omega)) (fun v14 hv14 => ?_)
            have rv14 : v14 = hld a v2 := by rw [hv14, dH_hld, if_pos (by omega), if_neg (by omega)]
            try rw [show iadd (iadd b 120) v2 = ((b + 120) + v2) by simp (disch := omega) only [iadd_id, isub_id, imul_id]]
            refine w_wr (by omega) (by omega) (fun G12 hG12 => ?_)
            refine w_bd (fun v13 hv13 => ?_)
            simp (disch := omega) only [iadd_id, isub_id, imul_id] at hv13
            refine hrc4 _ _ ?_ ?_
            · try dsimp only
              refine ⟨?_, ?_, ?_, ?_⟩
              · first | omega | grind
              · first | omega | grind
              · refine f3.tr ?_; rw [hG12]; exact FRM.wu (by omega) (by omega)
              · rw [hG12, hv13]; exact (MR_H x3 (k := v2) (by omega) (by omega)).cg (AE_Hs (by rw [rk]; first | rw [if_pos (by omega)] | (rw [if_neg (by omega)]; omega)))
            · try dsimp only
              omega
          · exfalso; omega
        · skip
          refine w_bp (m_placeOf hM_G3 w (by omega) (by omega)) (fun v17 hv17 => ?_)
          have qv17 := w.pl (i := n) (by omega) (by omega)
          refine w_rdv (show rd G3 125 10 v2 = some (tl T v2) from (rd_in (by omega) (by omega)).trans (congrArg some (hM_G3.2.2.2.2.2 v2 (by omega) (by omega)))) (fun v18 hv18 => ?_)
          have qv18 := w.li (i := v2) (by omega) (by omega)
          refine w_bp (m_way hM_G3 w ⟨by omega, by omega⟩ ⟨by omega, by omega⟩) (fun v19 hv19 => ?_)
          have qv19 := wy_rng (C := tC T) (f := v17) (t := v18) (by omega) (by omega) (by omega) (by omega) (by omega)
          have e19 : v19 = wy (tC T) (tp T n) (tl T v2) := by rw [hv19, hv18, hv17]
          refine w_bp (m_wayTo hM_G3 w (by omega) (by omega) (by omega) (by omega)) (fun v20 hv20 => ?_)
          have qv20 := wT_rng w (n := n) (o := m) (by omega) (by omega) (by omega) (by omega)
          refine w_ite (fun c_5 => ?_) (fun c_5 => ?_)
          · skip
            refine w_bd (fun v9 hv9 => ?_)
            refine w_jn ?_
            refine w_ite (fun c_6 => ?_) (fun c_6 => ?_)
            · exfalso; omega
            · skip
              try rw [show iadd (iadd b 120) v2 = ((b + 120) + v2) by simp (disch := omega) only [iadd_id, isub_id, imul_id]]
              refine w_wr (by omega) (by omega) (fun G12 hG12 => ?_)
              refine w_bd (fun v13 hv13 => ?_)
              simp (disch := omega) only [iadd_id, isub_id, imul_id] at hv13
              refine hrc4 _ _ ?_ ?_
              · try dsimp only
                refine ⟨?_, ?_, ?_, ?_⟩
                · first | omega | grind
                · first | omega | grind
                · refine f3.tr ?_; rw [hG12]; exact FRM.wu (by omega) (by omega)
                · rw [hG12, hv13]; exact (MR_H x3 (k := v2) (by omega) (by omega)).cg (AE_Hs (by rw [rk]; first | rw [if_pos (by omega)] | (rw [if_neg (by omega)]; omega)))
              · try dsimp only
                omega
          · skip
            refine w_bd (fun v9 hv9 => ?_)
            refine w_jn ?_
            refine w_ite (fun c_7 => ?_) (fun c_7 => ?_)
            · skip
              refine w_bp (m_holderOf (b := b) x3 (by omega) (by omega) (by omega)) (fun v14 hv14 => ?_)
              have rv14 : v14 = hld a v2 := by rw [hv14, dH_hld, if_pos (by omega), if_neg (by omega)]
              try rw [show iadd (iadd b 120) v2 = ((b + 120) + v2) by simp (disch := omega) only [iadd_id, isub_id, imul_id]]
              refine w_wr (by omega) (by omega) (fun G12 hG12 => ?_)
              refine w_bd (fun v13 hv13 => ?_)
              simp (disch := omega) only [iadd_id, isub_id, imul_id] at hv13
              refine hrc4 _ _ ?_ ?_
              · try dsimp only
                refine ⟨?_, ?_, ?_, ?_⟩
                · first | omega | grind
                · first | omega | grind
                · refine f3.tr ?_; rw [hG12]; exact FRM.wu (by omega) (by omega)
                · rw [hG12, hv13]; exact (MR_H x3 (k := v2) (by omega) (by omega)).cg (AE_Hs (by rw [rk]; first | rw [if_pos (by omega)] | (rw [if_neg (by omega)]; omega)))
              · try dsimp only
                omega
            · exfalso; omega
      · skip
        refine w_bd (fun v9 hv9 => ?_)
        refine w_jn ?_
        refine w_ite (fun c_8 => ?_) (fun c_8 => ?_)
        · skip
          refine w_bp (m_holderOf (b := b) x3 (by omega) (by omega) (by omega)) (fun v14 hv14 => ?_)
          have rv14 : v14 = hld a v2 := by rw [hv14, dH_hld, if_pos (by omega), if_neg (by omega)]
          try rw [show iadd (iadd b 120) v2 = ((b + 120) + v2) by simp (disch := omega) only [iadd_id, isub_id, imul_id]]
          refine w_wr (by omega) (by omega) (fun G12 hG12 => ?_)
          refine w_bd (fun v13 hv13 => ?_)
          simp (disch := omega) only [iadd_id, isub_id, imul_id] at hv13
          refine hrc4 _ _ ?_ ?_
          · try dsimp only
            refine ⟨?_, ?_, ?_, ?_⟩
            · first | omega | grind
            · first | omega | grind
            · refine f3.tr ?_; rw [hG12]; exact FRM.wu (by omega) (by omega)
            · rw [hG12, hv13]; exact (MR_H x3 (k := v2) (by omega) (by omega)).cg (AE_Hs (by rw [rk]; first | rw [if_pos (by omega)] | (rw [if_neg (by omega)]; omega)))
          · try dsimp only
            omega
        · exfalso; omega
    · skip
      refine w_rt ?_
      refine ⟨f3, x3.cg ⟨rfl, fun i k => by rw [dH_lst, dH_lst], fun i => by rw [dH_ahd, dH_ahd], fun i k => by rw [dH_fng, dH_fng], fun k => ?_⟩⟩
      rw [dH_hld, dH_hld]
      have := hw.kz (k := k)
      unfold rcK; grind
  · try dsimp only
    refine ⟨?_, ?_, ?_, ?_⟩
    · first | omega | (subst_vars; first | rfl | assumption) | assumption
    · first | omega | (subst_vars; first | rfl | assumption) | assumption
    · exact FRM.rf b G
    · refine hR_G.cg (AE_H0 (fun k k1 k2 => ?_)); rw [if_neg (by omega)]
  · try dsimp only
    omega

theorem m_tidied (w : WT T) (hw : WA T a) (hb : b ≤ 3410) (hR_G : MR b a G) (hM_G : MT T G) {n : Int} (h1 : 0 ≤ n) (h2 : n < tN T) : WP (fX12_tidied 111 b n G) (fun r G' => FRM b G G' ∧ r = (eTidy T a n).1 ∧ MR b (eTidy T a n).2 G') := by
  have wr := w.rg
  unfold fX12_tidied
  simp only [rf_111_17]
  refine w_bp (m_isIn (b := b) hR_G (by omega) (by omega)) (fun v1 hv1 => ?_)
  have qv1 := hw.inr (n := n)
  refine w_jn ?_
  refine w_ite (fun c_1 => ?_) (fun c_1 => ?_)
  · skip
    refine w_bd (fun v4 hv4 => ?_)
    refine w_ite (fun c_2 => ?_) (fun c_2 => ?_)
    · skip
      refine w_rt ?_
      have e : eTidy T a n = (-1, a) := by unfold eTidy; exact if_neg (by omega)
      rw [e]; exact ⟨FRM.rf b G, by first | rfl | omega, hR_G⟩
    · exfalso; omega
  · skip
    refine w_bp (m_firstOf (b := b) (by omega) w hw hR_G (by omega) (by omega)) (fun v25 hv25 => ?_)
    have qv25 := hw.f4 w (n := n)
    refine w_bd (fun v4 hv4 => ?_)
    refine w_ite (fun c_3 => ?_) (fun c_3 => ?_)
    · skip
      refine w_rt ?_
      have e : eTidy T a n = (-1, a) := by unfold eTidy; exact if_neg (by omega)
      rw [e]; exact ⟨FRM.rf b G, by first | rfl | omega, hR_G⟩
    · skip
      refine w_bp (m_aheadOf (b := b) hR_G (by omega) (by omega) (by omega)) (fun v5 hv5 => ?_)
      have qv5 := hw.ar v4
      refine w_bd (fun v6 hv6 => ?_)
      refine w_bp (m_isIn (b := b) hR_G (by omega) (by omega)) (fun v7 hv7 => ?_)
      have qv7 := hw.inr (n := v6)
      refine w_jn ?_
      refine w_jn ?_
      refine w_ite (fun c_4 => ?_) (fun c_4 => ?_)
      · skip
        refine w_bd (fun v10 hv10 => ?_)
        have ev4 : v4 = fst4 a a.1 n := by first | (rw [hv4, hv25]) | (exfalso; omega)
        have em : mnt T a n = v10 := by unfold mnt; rw [← ev4, ← hv5, ← hv6, hv10]; first | (rw [if_pos (by omega)]) | (rw [if_neg (by omega)])
        have mr := mnt_r hw w (n := n) (by omega)
        rw [em] at mr
        refine w_bn (m_lists w hw hb hR_G hM_G (n := n) (f := v10) (by omega) (by omega) (by omega) (by omega)) (fun _ G11 q11 => ?_)
        obtain ⟨f11, g11, x11⟩ := q11
        have F11 : FRM b G G11 := ⟨fun c _ y _ u => f11 c y u, fun k _ => by rw [f11 111 (by decide) (by decide)], g11⟩
        have hM_G11 : MT T G11 := F11.tt hM_G
        have w11 : WA T (dLs a n (nls T a n v10)) := WA_nl hw w (by omega) (by omega) (by omega)
        have e : eTidy T a n = (v10, dRec T (dLs a n (nls T a n v10)) v10 n) := by unfold eTidy; rw [em]; exact if_pos (by omega)
        refine w_bp (m_aheadOf (b := b) x11 (by omega) (by omega) (by omega)) (fun v12 hv12 => ?_)
        have qv12 := w11.ar v10
        refine w_bd (fun v13 hv13 => ?_)
        refine w_ite (fun c_5 => ?_) (fun c_5 => ?_)
        · skip
          refine w_rt ?_
          rw [e]
          refine ⟨F11, rfl, ?_⟩
          show MR b (dRec T _ v10 n) G11
          unfold dRec
          first | (rw [if_pos (Or.inl (by assumption))]; exact x11) | (rw [if_pos (Or.inr (by rw [← hv12, ← hv13]; omega))]; exact x11)
        · skip
          refine w_bp (m_isIn (b := b) x11 (by omega) (by omega)) (fun v14 hv14 => ?_)
          have qv14 := w11.inr (n := v13)
          refine w_jn ?_
          refine w_ite (fun c_6 => ?_) (fun c_6 => ?_)
          · skip
            try rw [show iadd (iadd b (imul 15 v10)) 6 = ((b + (15 * v10)) + 6) by simp (disch := omega) only [iadd_id, isub_id, imul_id]]
            refine w_wr (by omega) (by omega) (fun G16 hG16 => ?_)
            have F16 : FRM b G G16 := F11.tr (by rw [hG16]; exact FRM.wu (by omega) (by omega))
            have x16 : MR b (dA (dLs a n (nls T a n v10)) v10 n) G16 := by rw [hG16]; exact MR_A x11 (by omega) (by omega)
            refine w_bn (m_handsBack w (w11.dA (n := v10) (v := n) (by show isi a v10 = 1; omega) (by omega)) hb x16 (F16.tt hM_G) (m := v10) (n := n) (by omega) (by omega) (by omega) (by omega)) (fun _ G17 q17 => ?_)
            obtain ⟨f17, x17⟩ := q17
            refine w_rt ?_
            rw [e]
            refine ⟨F16.tr f17, rfl, ?_⟩
            show MR b (dRec T _ v10 n) G17
            unfold dRec
            rw [if_neg (by rw [← hv12, ← hv13]; omega)]
            exact x17.cg (AE_Hc (fun k _ _ => by unfold rcK; rw [dA_hld]))
          · skip
            refine w_bp (m_wayTo hM_G11 w (by omega) (by omega) (by omega) (by omega)) (fun v19 hv19 => ?_)
            have qv19 := wT_rng w (n := v13) (o := n) (by omega) (by omega) (by omega) (by omega)
            refine w_bp (m_wayTo hM_G11 w (by omega) (by omega) (by omega) (by omega)) (fun v20 hv20 => ?_)
            have qv20 := wT_rng w (n := v13) (o := v10) (by omega) (by omega) (by omega) (by omega)
            refine w_ite (fun c_7 => ?_) (fun c_7 => ?_)
            · skip
              try rw [show iadd (iadd b (imul 15 v10)) 6 = ((b + (15 * v10)) + 6) by simp (disch := omega) only [iadd_id, isub_id, imul_id]]
              refine w_wr (by omega) (by omega) (fun G16 hG16 => ?_)
              have F16 : FRM b G G16 := F11.tr (by rw [hG16]; exact FRM.wu (by omega) (by omega))
              have x16 : MR b (dA (dLs a n (nls T a n v10)) v10 n) G16 := by rw [hG16]; exact MR_A x11 (by omega) (by omega)
              refine w_bn (m_handsBack w (w11.dA (n := v10) (v := n) (by show isi a v10 = 1; omega) (by omega)) hb x16 (F16.tt hM_G) (m := v10) (n := n) (by omega) (by omega) (by omega) (by omega)) (fun _ G17 q17 => ?_)
              obtain ⟨f17, x17⟩ := q17
              refine w_rt ?_
              rw [e]
              refine ⟨F16.tr f17, rfl, ?_⟩
              show MR b (dRec T _ v10 n) G17
              unfold dRec
              rw [if_neg (by rw [← hv12, ← hv13]; omega)]
              exact x17.cg (AE_Hc (fun k _ _ => by unfold rcK; rw [dA_hld]))
            · skip
              refine w_rt ?_
              rw [e]
              refine ⟨F11, rfl, ?_⟩
              show MR b (dRec T _ v10 n) G11
              unfold dRec
              first | (rw [if_pos (Or.inl (by assumption))]; exact x11) | (rw [if_pos (Or.inr (by rw [← hv12, ← hv13]; omega))]; exact x11)
      · skip
        refine w_bp (m_wayTo hM_G w (by omega) (by omega) (by omega) (by omega)) (fun v23 hv23 => ?_)
        have qv23 := wT_rng w (n := n) (o := v6) (by omega) (by omega) (by omega) (by omega)
        refine w_bp (m_wayTo hM_G w (by omega) (by omega) (by omega) (by omega)) (fun v24 hv24 => ?_)
        have qv24 := wT_rng w (n := n) (o := v4) (by omega) (by omega) (by omega) (by omega)
        refine w_ite (fun c_8 => ?_) (fun c_8 => ?_)
        · skip
          refine w_bd (fun v10 hv10 => ?_)
          have ev4 : v4 = fst4 a a.1 n := by first | (rw [hv4, hv25]) | (exfalso; omega)
          have em : mnt T a n = v10 := by unfold mnt; rw [← ev4, ← hv5, ← hv6, hv10]; first | (rw [if_pos (by omega)]) | (rw [if_neg (by omega)])
          have mr := mnt_r hw w (n := n) (by omega)
          rw [em] at mr
          refine w_bn (m_lists w hw hb hR_G hM_G (n := n) (f := v10) (by omega) (by omega) (by omega) (by omega)) (fun _ G11 q11 => ?_)
          obtain ⟨f11, g11, x11⟩ := q11
          have F11 : FRM b G G11 := ⟨fun c _ y _ u => f11 c y u, fun k _ => by rw [f11 111 (by decide) (by decide)], g11⟩
          have hM_G11 : MT T G11 := F11.tt hM_G
          have w11 : WA T (dLs a n (nls T a n v10)) := WA_nl hw w (by omega) (by omega) (by omega)
          have e : eTidy T a n = (v10, dRec T (dLs a n (nls T a n v10)) v10 n) := by unfold eTidy; rw [em]; exact if_pos (by omega)
          refine w_bp (m_aheadOf (b := b) x11 (by omega) (by omega) (by omega)) (fun v12 hv12 => ?_)
          have qv12 := w11.ar v10
          refine w_bd (fun v13 hv13 => ?_)
          refine w_ite (fun c_9 => ?_) (fun c_9 => ?_)
          · skip
            refine w_rt ?_
            rw [e]
            refine ⟨F11, rfl, ?_⟩
            show MR b (dRec T _ v10 n) G11
            unfold dRec
            first | (rw [if_pos (Or.inl (by assumption))]; exact x11) | (rw [if_pos (Or.inr (by rw [← hv12, ← hv13]; omega))]; exact x11)
          · skip
            refine w_bp (m_isIn (b := b) x11 (by omega) (by omega)) (fun v14 hv14 => ?_)
            have qv14 := w11.inr (n := v13)
            refine w_jn ?_
            refine w_ite (fun c_10 => ?_) (fun c_10 => ?_)
            · skip
              try rw [show iadd (iadd b (imul 15 v10)) 6 = ((b + (15 * v10)) + 6) by simp (disch := omega) only [iadd_id, isub_id, imul_id]]
              refine w_wr (by omega) (by omega) (fun G16 hG16 => ?_)
              have F16 : FRM b G G16 := F11.tr (by rw [hG16]; exact FRM.wu (by omega) (by omega))
              have x16 : MR b (dA (dLs a n (nls T a n v10)) v10 n) G16 := by rw [hG16]; exact MR_A x11 (by omega) (by omega)
              refine w_bn (m_handsBack w (w11.dA (n := v10) (v := n) (by show isi a v10 = 1; omega) (by omega)) hb x16 (F16.tt hM_G) (m := v10) (n := n) (by omega) (by omega) (by omega) (by omega)) (fun _ G17 q17 => ?_)
              obtain ⟨f17, x17⟩ := q17
              refine w_rt ?_
              rw [e]
              refine ⟨F16.tr f17, rfl, ?_⟩
              show MR b (dRec T _ v10 n) G17
              unfold dRec
              rw [if_neg (by rw [← hv12, ← hv13]; omega)]
              exact x17.cg (AE_Hc (fun k _ _ => by unfold rcK; rw [dA_hld]))
            · skip
              refine w_bp (m_wayTo hM_G11 w (by omega) (by omega) (by omega) (by omega)) (fun v19 hv19 => ?_)
              have qv19 := wT_rng w (n := v13) (o := n) (by omega) (by omega) (by omega) (by omega)
              refine w_bp (m_wayTo hM_G11 w (by omega) (by omega) (by omega) (by omega)) (fun v20 hv20 => ?_)
              have qv20 := wT_rng w (n := v13) (o := v10) (by omega) (by omega) (by omega) (by omega)
              refine w_ite (fun c_11 => ?_) (fun c_11 => ?_)
              · skip
                try rw [show iadd (iadd b (imul 15 v10)) 6 = ((b + (15 * v10)) + 6) by simp (disch := omega) only [iadd_id, isub_id, imul_id]]
                refine w_wr (by omega) (by omega) (fun G16 hG16 => ?_)
                have F16 : FRM b G G16 := F11.tr (by rw [hG16]; exact FRM.wu (by omega) (by omega))
                have x16 : MR b (dA (dLs a n (nls T a n v10)) v10 n) G16 := by rw [hG16]; exact MR_A x11 (by omega) (by omega)
                refine w_bn (m_handsBack w (w11.dA (n := v10) (v := n) (by show isi a v10 = 1; omega) (by omega)) hb x16 (F16.tt hM_G) (m := v10) (n := n) (by omega) (by omega) (by omega) (by omega)) (fun _ G17 q17 => ?_)
                obtain ⟨f17, x17⟩ := q17
                refine w_rt ?_
                rw [e]
                refine ⟨F16.tr f17, rfl, ?_⟩
                show MR b (dRec T _ v10 n) G17
                unfold dRec
                rw [if_neg (by rw [← hv12, ← hv13]; omega)]
                exact x17.cg (AE_Hc (fun k _ _ => by unfold rcK; rw [dA_hld]))
              · skip
                refine w_rt ?_
                rw [e]
                refine ⟨F11, rfl, ?_⟩
                show MR b (dRec T _ v10 n) G11
                unfold dRec
                first | (rw [if_pos (Or.inl (by assumption))]; exact x11) | (rw [if_pos (Or.inr (by rw [← hv12, ← hv13]; omega))]; exact x11)
        · skip
          refine w_bd (fun v10 hv10 => ?_)
          have ev4 : v4 = fst4 a a.1 n := by first | (rw [hv4, hv25]) | (exfalso; omega)
          have em : mnt T a n = v10 := by unfold mnt; rw [← ev4, ← hv5, ← hv6, hv10]; first | (rw [if_pos (by omega)]) | (rw [if_neg (by omega)])
          have mr := mnt_r hw w (n := n) (by omega)
          rw [em] at mr
          refine w_bn (m_lists w hw hb hR_G hM_G (n := n) (f := v10) (by omega) (by omega) (by omega) (by omega)) (fun _ G11 q11 => ?_)
          obtain ⟨f11, g11, x11⟩ := q11
          have F11 : FRM b G G11 := ⟨fun c _ y _ u => f11 c y u, fun k _ => by rw [f11 111 (by decide) (by decide)], g11⟩
          have hM_G11 : MT T G11 := F11.tt hM_G
          have w11 : WA T (dLs a n (nls T a n v10)) := WA_nl hw w (by omega) (by omega) (by omega)
          have e : eTidy T a n = (v10, dRec T (dLs a n (nls T a n v10)) v10 n) := by unfold eTidy; rw [em]; exact if_pos (by omega)
          refine w_bp (m_aheadOf (b := b) x11 (by omega) (by omega) (by omega)) (fun v12 hv12 => ?_)
          have qv12 := w11.ar v10
          refine w_bd (fun v13 hv13 => ?_)
          refine w_ite (fun c_12 => ?_) (fun c_12 => ?_)
          · skip
            refine w_rt ?_
            rw [e]
            refine ⟨F11, rfl, ?_⟩
            show MR b (dRec T _ v10 n) G11
            unfold dRec
            first | (rw [if_pos (Or.inl (by assumption))]; exact x11) | (rw [if_pos (Or.inr (by rw [← hv12, ← hv13]; omega))]; exact x11)
          · skip
            refine w_bp (m_isIn (b := b) x11 (by omega) (by omega)) (fun v14 hv14 => ?_)
            have qv14 := w11.inr (n := v13)
            refine w_jn ?_
            refine w_ite (fun c_13 => ?_) (fun c_13 => ?_)
            · skip
              try rw [show iadd (iadd b (imul 15 v10)) 6 = ((b + (15 * v10)) + 6) by simp (disch := omega) only [iadd_id, isub_id, imul_id]]
              refine w_wr (by omega) (by omega) (fun G16 hG16 => ?_)
              have F16 : FRM b G G16 := F11.tr (by rw [hG16]; exact FRM.wu (by omega) (by omega))
              have x16 : MR b (dA (dLs a n (nls T a n v10)) v10 n) G16 := by rw [hG16]; exact MR_A x11 (by omega) (by omega)
              refine w_bn (m_handsBack w (w11.dA (n := v10) (v := n) (by show isi a v10 = 1; omega) (by omega)) hb x16 (F16.tt hM_G) (m := v10) (n := n) (by omega) (by omega) (by omega) (by omega)) (fun _ G17 q17 => ?_)
              obtain ⟨f17, x17⟩ := q17
              refine w_rt ?_
              rw [e]
              refine ⟨F16.tr f17, rfl, ?_⟩
              show MR b (dRec T _ v10 n) G17
              unfold dRec
              rw [if_neg (by rw [← hv12, ← hv13]; omega)]
              exact x17.cg (AE_Hc (fun k _ _ => by unfold rcK; rw [dA_hld]))
            · skip
              refine w_bp (m_wayTo hM_G11 w (by omega) (by omega) (by omega) (by omega)) (fun v19 hv19 => ?_)
              have qv19 := wT_rng w (n := v13) (o := n) (by omega) (by omega) (by omega) (by omega)
              refine w_bp (m_wayTo hM_G11 w (by omega) (by omega) (by omega) (by omega)) (fun v20 hv20 => ?_)
              have qv20 := wT_rng w (n := v13) (o := v10) (by omega) (by omega) (by omega) (by omega)
              refine w_ite (fun c_14 => ?_) (fun c_14 => ?_)
              · skip
                try rw [show iadd (iadd b (imul 15 v10)) 6 = ((b + (15 * v10)) + 6) by simp (disch := omega) only [iadd_id, isub_id, imul_id]]
                refine w_wr (by omega) (by omega) (fun G16 hG16 => ?_)
                have F16 : FRM b G G16 := F11.tr (by rw [hG16]; exact FRM.wu (by omega) (by omega))
                have x16 : MR b (dA (dLs a n (nls T a n v10)) v10 n) G16 := by rw [hG16]; exact MR_A x11 (by omega) (by omega)
                refine w_bn (m_handsBack w (w11.dA (n := v10) (v := n) (by show isi a v10 = 1; omega) (by omega)) hb x16 (F16.tt hM_G) (m := v10) (n := n) (by omega) (by omega) (by omega) (by omega)) (fun _ G17 q17 => ?_)
                obtain ⟨f17, x17⟩ := q17
                refine w_rt ?_
                rw [e]
                refine ⟨F16.tr f17, rfl, ?_⟩
                show MR b (dRec T _ v10 n) G17
                unfold dRec
                rw [if_neg (by rw [← hv12, ← hv13]; omega)]
                exact x17.cg (AE_Hc (fun k _ _ => by unfold rcK; rw [dA_hld]))
              · skip
                refine w_rt ?_
                rw [e]
                refine ⟨F11, rfl, ?_⟩
                show MR b (dRec T _ v10 n) G11
                unfold dRec
                first | (rw [if_pos (Or.inl (by assumption))]; exact x11) | (rw [if_pos (Or.inr (by rw [← hv12, ← hv13]; omega))]; exact x11)

end MDE
