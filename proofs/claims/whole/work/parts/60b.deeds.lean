section DEE
variable {b : Nat} {a : AS} {G : Hp} {T : TT}
theorem x_doBegin (w : WT T) (hw : WA T a) (hA_G : XA 27 a G) (hT_G : XT T G) {n : Int} : WP (fX0_doBegin 31 n G) (fun r G' => FRD G G' ∧ r = (eBeg T a n).1 ∧ XA 27 (eBeg T a n).2 G') := by
  have wr := w.rg
  have a1 := hA_G.1
  unfold fX0_doBegin
  simp only [rf_31_0, rf_31_1]
  refine w_bp (x_isNode hT_G) (fun v1 hv1 => ?_)
  have qv1 : ((0 ≤ n ∧ n < tN T) ∧ v1 = 1) ∨ (¬ (0 ≤ n ∧ n < tN T) ∧ v1 = 0) := by rw [hv1]; exact ite01 _
  refine w_ite (fun c_1 => ?_) (fun c_1 => ?_)
  · skip
    refine w_rz (by omega) ?_
    have e : eBeg T a n = (0, a) := by unfold eBeg; exact if_neg (by omega)
    rw [e]; exact ⟨FRD.rf G, by first | rfl | decide, hA_G⟩
  · skip
    refine w_ite (fun c_2 => ?_) (fun c_2 => ?_)
    · skip
      refine w_bne (x_enter hA_G hw.1 (by omega) (by omega)) (fun _ G2 _ hG2 => ?_)
      have x2 := XA_I (n := n) hA_G
      rw [← hG2] at x2
      refine w_bne (x_setList x2 (by omega) (by omega) (by omega) (by omega)) (fun _ G3 _ hG3 => ?_)
      have x3 := XA_L (v := n) x2 (n := n) (k := 0) (by omega) (by omega) (by omega) (by omega)
      rw [← hG3] at x3
      refine w_rz (by omega) ?_
      have e : eBeg T a n = (1, dBeg a n) := by unfold eBeg; exact if_pos (by omega)
      rw [e]
      refine ⟨fun c x1 x2' x3' x4 x5 => by rw [hG3, up_ne x2', hG2, up_ne x1], rfl, x3.cg ?_⟩
      refine AE_Lc (fun k k1 k2 => ?_)
      rw [dIn_lst]
      have := (hw.o (n := n) (by unfold isi; rw [show a.1 = 0 by omega]; unfold bt; simp)).1 k
      grind
    · skip
      refine w_rz (by omega) ?_
      have e : eBeg T a n = (0, a) := by unfold eBeg; exact if_neg (by omega)
      rw [e]; exact ⟨FRD.rf G, by first | rfl | decide, hA_G⟩

theorem x_doJoin (w : WT T) (hw : WA T a) (hA_G : XA 27 a G) (hT_G : XT T G) {n y : Int} : WP (fX0_doJoin 31 n y G) (fun r G' => FRD G G' ∧ r = (if (eJoin T a n y).1 = -1 then 0 else 1) ∧ XA 27 (eJoin T a n y).2 G') := by
  have wr := w.rg
  have yi := hw.inr (n := y)
  unfold fX0_doJoin
  simp only [rf_4_5, rf_31_0, rf_31_1, rf_31_2]
  refine w_bp (x_isNode hT_G) (fun v1 hv1 => ?_)
  have qv1 : ((0 ≤ n ∧ n < tN T) ∧ v1 = 1) ∨ (¬ (0 ≤ n ∧ n < tN T) ∧ v1 = 0) := by rw [hv1]; exact ite01 _
  refine w_ite (fun c_1 => ?_) (fun c_1 => ?_)
  · skip
    refine w_rz (by omega) ?_
    have e : eJoin T a n y = (-1, a) := by unfold eJoin; exact if_neg (by omega)
    rw [e]; exact ⟨FRD.rf G, by first | rfl | decide, hA_G⟩
  · skip
    refine w_bp (x_isIn hA_G hw.1) (fun v2 hv2 => ?_)
    have qv2 := hw.inr (n := n)
    refine w_ite (fun c_2 => ?_) (fun c_2 => ?_)
    · skip
      refine w_rdv (x_place hT_G w (by omega) (by omega)) (fun v3 hv3 => ?_)
      have qv3 := w.pl (i := n) (by omega) (by omega)
      refine w_bn (x_seek2 w hw hA_G hT_G (n := y) (p := v3)) (fun v4 G5 qG5 => ?_)
      obtain ⟨fG5, syG5, snG5⟩ := qG5
      have hA_G5 : XA 27 a G5 := hA_G.fr (fG5 27 (by decide) (by decide)) (fG5 28 (by decide) (by decide))
      have hT_G5 : XT T G5 := (FRD.of fG5).tt hT_G
      refine w_ite (fun c_3 => ?_) (fun c_3 => ?_)
      · skip
        have sk0 : ¬ (isi a y = 1 ∧ skf T a y (tp T n) ≠ -1) := fun z => by
          have := syG5 (by omega)
          rw [hv3] at this; omega
        refine w_rz (by omega) ?_
        have e : eJoin T a n y = (-1, a) := by unfold eJoin; exact if_neg (by omega)
        rw [e]; exact ⟨FRD.of fG5, by first | rfl | decide, hA_G5⟩
      · skip
        have sk5 : isi a y = 1 ∧ G5 29 3 = skf T a y (tp T n) ∧ skf T a y (tp T n) ≠ -1 ∧ 0 ≤ skf T a y (tp T n) ∧ skf T a y (tp T n) < tN T := by
          have s0 : isi a y = 1 ∧ 0 ≤ v3 ∧ v3 < tC T := Classical.byContradiction (fun z => c_3 (snG5 z).1)
          have s1 := syG5 s0
          have s2 := (skf_r hw w y (tp T n)).1
          rw [hv3] at s1
          omega
        have sk := sk5
        refine w_bn (x_setListBy w hw hA_G5 hT_G5 (n := n) (f := G5 29 3) (by omega) (by omega) (by omega) (by omega)) (fun _ G6 q6 => ?_)
        obtain ⟨f6, x6⟩ := q6
        refine w_bne (x_enter x6 hw.1 (by omega) (by omega)) (fun _ G7 _ hG7 => ?_)
        have x7 := XA_I (n := n) x6
        rw [show ent (dLs a n (nls T a n (G5 29 3))) n = ent a n from rfl] at x7 hG7
        rw [← hG7] at x7
        refine w_rz (by omega) ?_
        have e : eJoin T a n y = (skf T a y (tp T n), dLs (dIn a n) n (nls T a n (skf T a y (tp T n)))) := by unfold eJoin; exact if_pos (by omega)
        rw [e]
        refine ⟨fun c x1 x2 x3 x4 x5 => by rw [hG7, up_ne x1, f6 c x2 x5, fG5 c x3 x4], by rw [if_neg (show ¬ skf T a y (tp T n) = -1 by omega)], x7.cg ?_⟩
        rw [sk.2.1]
        exact ⟨rfl, fun m k => by rw [dIn_lst, dLs_lst, dLs_lst, dIn_lst], fun m => by rw [dIn_ahd, dLs_ahd, dLs_ahd, dIn_ahd], fun m k => by rw [dIn_fng, dLs_fng, dLs_fng, dIn_fng], fun k => by rw [dIn_hld, dLs_hld, dLs_hld, dIn_hld]⟩
    · skip
      refine w_rz (by omega) ?_
      have e : eJoin T a n y = (-1, a) := by unfold eJoin; exact if_neg (by omega)
      rw [e]; exact ⟨FRD.rf G, by first | rfl | decide, hA_G⟩

theorem x_doLeave (w : WT T) (hw : WA T a) (hA_G : XA 27 a G) (hT_G : XT T G) {n : Int} : WP (fX0_doLeave 31 n G) (fun r G' => FRD G G' ∧ r = (eLeave a n).1 ∧ XA 27 (eLeave a n).2 G') := by
  have wr := w.rg
  unfold fX0_doLeave
  simp only [rf_31_1]
  refine w_bp (x_isIn hA_G hw.1) (fun v1 hv1 => ?_)
  have qv1 := hw.inr (n := n)
  refine w_ite (fun c_1 => ?_) (fun c_1 => ?_)
  · skip
    refine w_rz (by omega) ?_
    have e : eLeave a n = (0, a) := by unfold eLeave; exact if_neg (by omega)
    rw [e]; exact ⟨FRD.rf G, by first | rfl | decide, hA_G⟩
  · skip
    refine w_bp (x_first hA_G hw w) (fun v2 hv2 => ?_)
    have qv2 := hw.f4 w (n := n)
    refine w_bd (fun v3 hv3 => ?_)
    refine w_ite (fun c_2 => ?_) (fun c_2 => ?_)
    · skip
      refine w_rz (by omega) ?_
      have e : eLeave a n = (0, a) := by unfold eLeave; exact if_neg (by omega)
      rw [e]; exact ⟨FRD.rf G, by first | rfl | decide, hA_G⟩
    · skip
      refine w_ite (fun c_3 => ?_) (fun c_3 => ?_)
      · skip
        refine w_rz (by omega) ?_
        have e : eLeave a n = (0, a) := by unfold eLeave; exact if_neg (by omega)
        rw [e]; exact ⟨FRD.rf G, by first | rfl | decide, hA_G⟩
      · skip
        refine w_bn (x_passKeys hA_G (f := n) (t := v3)) (fun _ G4 qG4 => ?_)
        obtain ⟨fG4, xG4⟩ := qG4
        refine w_bn (x_goOut xG4 hw.1 (n := n) (by omega) (by omega)) (fun _ G5 qG5 => ?_)
        obtain ⟨fG5, xG5⟩ := qG5
        refine w_rz (by omega) ?_
        have e : eLeave a n = (1, dOut (dPs a n (fst4 a a.1 n)) n) := by unfold eLeave; exact if_pos (by omega)
        rw [e]
        refine ⟨fun c x1 x2 x3 x4 x5 => by rw [fG5 c x1 x2, fG4 c x2], rfl, ?_⟩
        rw [hv3, hv2] at xG5; exact xG5

theorem x_doFail (w : WT T) (hw : WA T a) (hA_G : XA 27 a G) (hT_G : XT T G) {n : Int} : WP (fX0_doFail 31 n G) (fun r G' => FRD G G' ∧ r = (eFail a n).1 ∧ XA 27 (eFail a n).2 G') := by
  have wr := w.rg
  unfold fX0_doFail
  simp only [rf_31_1]
  refine w_bp (x_isIn hA_G hw.1) (fun v1 hv1 => ?_)
  have qv1 := hw.inr (n := n)
  refine w_ite (fun c_1 => ?_) (fun c_1 => ?_)
  · skip
    refine w_rt ?_
    have e : eFail a n = (-1, a) := by unfold eFail; exact if_neg (by omega)
    rw [e]; exact ⟨FRD.rf G, by first | rfl | decide, hA_G⟩
  · skip
    refine w_bp (x_heldBy hA_G) (fun v2 hv2 => ?_)
    have q2 := bits_10 (fun k => hld a k = n) (n := 10) (by omega)
    rw [← hv2] at q2
    refine w_bp (x_popc (by omega) (by omega)) (fun v3 hv3 => ?_)
    have qv3 := pcn_r v2
    refine w_bd (fun v4 hv4 => ?_)
    refine w_bn (x_passKeys hA_G (f := n) (t := -1)) (fun _ G5 qG5 => ?_)
    obtain ⟨fG5, xG5⟩ := qG5
    refine w_bn (x_goOut xG5 hw.1 (n := n) (by omega) (by omega)) (fun _ G6 qG6 => ?_)
    obtain ⟨fG6, xG6⟩ := qG6
    refine w_rt ?_
    have e : eFail a n = (pcn (bits (fun k => hld a k = n) 10), dOut (dPs a n (-1)) n) := by unfold eFail; exact if_pos (by omega)
    rw [e]
    exact ⟨fun c x1 x2 x3 x4 x5 => by rw [fG6 c x1 x2, fG5 c x2], by rw [hv4, hv3, hv2], xG6⟩

theorem x_rectify (w : WT T) (hw : WA T a) (hA_G : XA 27 a G) (hT_G : XT T G) {m n : Int} (h1 : 0 ≤ m) (h2 : m < tN T) (h3 : 0 ≤ n) (h4 : n < tN T) (hmn : m ≠ n) : WP (fX0_rectify 31 m n G) (fun _ G' => (∀ c, c ≠ 28 → G' c = G c) ∧ XA 27 (dRec T a m n) G') := by
  have wr := w.rg
  unfold fX0_rectify
  simp only [rf_4_4, rf_4_5, rf_4_8, rf_31_0, rf_31_1]
  refine w_bp (x_aheadOf hA_G) (fun v1 hv1 => ?_)
  have qv1 := hw.ar m
  refine w_bd (fun v2 hv2 => ?_)
  refine w_bp (x_isIn hA_G hw.1) (fun v3 hv3 => ?_)
  have qv3 := hw.inr (n := v2)
  refine w_jn ?_
  refine w_ite (fun c_1 => ?_) (fun c_1 => ?_)
  · skip
    refine w_bne (x_setAhead hA_G (by omega) (by omega)) (fun _ G5 _ hG5 => ?_)
    have x5 := XA_A (v := n) hA_G (n := m) (by omega) (by omega)
    rw [← hG5] at x5
    have f5 : ∀ c, c ≠ 28 → G5 c = G c := fun c x => by rw [hG5, up_ne x]
    have hT_G5 : XT T G5 := hT_G.fr (f5 4 (by decide)) (f5 5 (by decide)) (f5 6 (by decide)) (f5 9 (by decide))
    have nr : ¬ (m = n ∨ (isi a (ahd a m) = 1 ∧ ¬ wT T (ahd a m) n < wT T (ahd a m) m)) := by rw [← hv1, ← hv2]; omega
    refine w_rdv (x_kind hT_G5 w (by omega) (by omega)) (fun v6 hv6 => ?_)
    have qv6 := w.kd (i := n) (by omega) (by omega)
    refine w_ite (fun c_2 => ?_) (fun c_2 => ?_)
    · skip
      refine w_rt ?_
      refine ⟨f5, ?_⟩
      unfold dRec; rw [if_neg nr]
      refine x5.cg (AE_H0 (fun k k1 k2 => ?_))
      unfold rcK; rw [if_neg (by omega), dA_hld]
    · skip
      refine w_rdv (x_place hT_G5 w (by omega) (by omega)) (fun v7 hv7 => ?_)
      have qv7 := w.pl (i := n) (by omega) (by omega)
      refine w_bd (fun v8 hv8 => ?_)
      refine w_rdv (x_place hT_G5 w (by omega) (by omega)) (fun v9 hv9 => ?_)
      have qv9 := w.pl (i := m) (by omega) (by omega)
      refine w_bp (x_way hT_G5 w ⟨by omega, by omega⟩ ⟨by omega, by omega⟩) (fun v10 hv10 => ?_)
      have qv10 := wy_rng (C := tC T) (f := v8) (t := v9) (by omega) (by omega) (by omega) (by omega) (by omega)
      refine w_bd (fun v11 hv11 => ?_)
      refine w_bd (fun v12 hv12 => ?_)
      refine w_lpIH (fun (v13 : Int) (G14 : Hp) => (0 ≤ v13) ∧ (v13 ≤ tK T) ∧ (∀ c, c ≠ 28 → G14 c = G c) ∧ (XA 27 (dH (dA a m n) (fun k => if k < v13 then rcK T a m n k else hld a k)) G14)) (fun (v13 : Int) (G14 : Hp) => (10 - v13).toNat) (fun rc15 v13 G14 hI hrc15 => ?_) _ _ ?_ ?_
      · skip
        obtain ⟨i0, i1, f14, x14⟩ := hI
        have hT_G14 : XT T G14 := hT_G.fr (f14 4 (by decide)) (f14 5 (by decide)) (f14 6 (by decide)) (f14 9 (by decide))
        have k3 : G14 4 3 = tK T := hT_G14.2.2.2.1
        have wn : wT T n m = v11 := by rw [hv11, hv10, hv8, hv7, hv9]; rfl
        have rk : rcK T a m n v13 = if tk T n ≠ 2 ∧ v13 < tK T ∧ hld a v13 = m ∧ wT T n m < wy (tC T) (tp T n) (tl T v13) then n else hld a v13 := rfl
        refine w_ite (fun c_3 => ?_) (fun c_3 => ?_)
        · skip
          refine w_bp (x_holderOf x14) (fun v16 hv16 => ?_)
          have e16 : v16 = hld a v13 := by rw [hv16, dH_hld, dA_hld]; grind
          refine w_jn ?_
          refine w_ite (fun c_4 => ?_) (fun c_4 => ?_)
          · skip
            refine w_rdv (x_lie hT_G14 w (by omega) (by omega)) (fun v20 hv20 => ?_)
            have qv20 := w.li (i := v13) (by omega) (by omega)
            refine w_bp (x_way hT_G14 w ⟨by omega, by omega⟩ ⟨by omega, by omega⟩) (fun v21 hv21 => ?_)
            have qv21 := wy_rng (C := tC T) (f := v8) (t := v20) (by omega) (by omega) (by omega) (by omega) (by omega)
            have e21 : v21 = wy (tC T) (tp T n) (tl T v13) := by rw [hv21, hv20, hv8, hv7]
            refine w_ite (fun c_5 => ?_) (fun c_5 => ?_)
            · skip
              refine w_bne (x_setHolder x14 (by omega) (by omega)) (fun _ G22 _ hG22 => ?_)
              have x22 := XA_H (v := n) x14 (k := v13) (by omega) (by omega)
              rw [← hG22] at x22
              refine w_bd (fun v19 hv19 => ?_)
              simp (disch := omega) only [iadd_id, isub_id, imul_id] at hv19
              refine hrc15 _ _ ?_ ?_
              · try dsimp only
                refine ⟨?_, ?_, ?_, ?_⟩
                · first | omega | grind
                · first | omega | grind
                · first | exact f14 | (intro c x; rw [hG22, up_ne x]; exact f14 c x)
                · first | (rw [hv19]; exact x22.cg (AE_Hs (by rw [rk, if_pos (by omega)]))) | (rw [hv19]; exact x14.cg (AE_Hn (by rw [rk, if_neg (by omega)])))
              · try dsimp only
                omega
            · skip
              refine w_bd (fun v19 hv19 => ?_)
              simp (disch := omega) only [iadd_id, isub_id, imul_id] at hv19
              refine hrc15 _ _ ?_ ?_
              · try dsimp only
                refine ⟨?_, ?_, ?_, ?_⟩
                · first | omega | grind
                · first | omega | grind
                · first | exact f14 | (intro c x; rw [hG22, up_ne x]; exact f14 c x)
                · first | (rw [hv19]; exact x22.cg (AE_Hs (by rw [rk, if_pos (by omega)]))) | (rw [hv19]; exact x14.cg (AE_Hn (by rw [rk, if_neg (by omega)])))
              · try dsimp only
                omega
          · skip
            refine w_bd (fun v19 hv19 => ?_)
            simp (disch := omega) only [iadd_id, isub_id, imul_id] at hv19
            refine hrc15 _ _ ?_ ?_
            · try dsimp only
              refine ⟨?_, ?_, ?_, ?_⟩
              · first | omega | grind
              · first | omega | grind
              · first | exact f14 | (intro c x; rw [hG22, up_ne x]; exact f14 c x)
              · first | (rw [hv19]; exact x22.cg (AE_Hs (by rw [rk, if_pos (by omega)]))) | (rw [hv19]; exact x14.cg (AE_Hn (by rw [rk, if_neg (by omega)])))
            · try dsimp only
              omega
        · skip
          refine w_rt ?_
          refine ⟨f14, ?_⟩
          unfold dRec; rw [if_neg nr]
          refine x14.cg ⟨rfl, fun i k => by rw [dH_lst, dH_lst], fun i => by rw [dH_ahd, dH_ahd], fun i k => by rw [dH_fng, dH_fng], fun k => ?_⟩
          rw [dH_hld, dH_hld, dA_hld]
          have := hw.kz (k := k)
          unfold rcK; grind
      · try dsimp only
        refine ⟨?_, ?_, ?_, ?_⟩
        · first | omega | (subst_vars; first | rfl | assumption) | assumption
        · first | omega | (subst_vars; first | rfl | assumption) | assumption
        · exact f5
        · refine x5.cg (AE_H0 (fun k k1 k2 => ?_)); rw [if_neg (by omega), dA_hld]
      · try dsimp only
        omega
  · skip
    refine w_bp (x_isBetween hT_G w (by omega) (by omega) (by omega) (by omega) (by omega) (by omega)) (fun v25 hv25 => ?_)
    have qv25 : ((wT T v2 n < wT T v2 m) ∧ v25 = 1) ∨ (¬ (wT T v2 n < wT T v2 m) ∧ v25 = 0) := by rw [hv25]; exact ite01 _
    refine w_ite (fun c_6 => ?_) (fun c_6 => ?_)
    · skip
      refine w_rt ?_
      refine ⟨fun _ _ => rfl, ?_⟩
      unfold dRec; rw [if_pos (by rw [← hv1, ← hv2]; right; omega)]; exact hA_G
    · skip
      refine w_bne (x_setAhead hA_G (by omega) (by omega)) (fun _ G5 _ hG5 => ?_)
      have x5 := XA_A (v := n) hA_G (n := m) (by omega) (by omega)
      rw [← hG5] at x5
      have f5 : ∀ c, c ≠ 28 → G5 c = G c := fun c x => by rw [hG5, up_ne x]
      have hT_G5 : XT T G5 := hT_G.fr (f5 4 (by decide)) (f5 5 (by decide)) (f5 6 (by decide)) (f5 9 (by decide))
      have nr : ¬ (m = n ∨ (isi a (ahd a m) = 1 ∧ ¬ wT T (ahd a m) n < wT T (ahd a m) m)) := by rw [← hv1, ← hv2]; omega
      refine w_rdv (x_kind hT_G5 w (by omega) (by omega)) (fun v6 hv6 => ?_)
      have qv6 := w.kd (i := n) (by omega) (by omega)
      refine w_ite (fun c_7 => ?_) (fun c_7 => ?_)
      · skip
        refine w_rt ?_
        refine ⟨f5, ?_⟩
        unfold dRec; rw [if_neg nr]
        refine x5.cg (AE_H0 (fun k k1 k2 => ?_))
        unfold rcK; rw [if_neg (by omega), dA_hld]
      · skip
        refine w_rdv (x_place hT_G5 w (by omega) (by omega)) (fun v7 hv7 => ?_)
        have qv7 := w.pl (i := n) (by omega) (by omega)
        refine w_bd (fun v8 hv8 => ?_)
        refine w_rdv (x_place hT_G5 w (by omega) (by omega)) (fun v9 hv9 => ?_)
        have qv9 := w.pl (i := m) (by omega) (by omega)
        refine w_bp (x_way hT_G5 w ⟨by omega, by omega⟩ ⟨by omega, by omega⟩) (fun v10 hv10 => ?_)
        have qv10 := wy_rng (C := tC T) (f := v8) (t := v9) (by omega) (by omega) (by omega) (by omega) (by omega)
        refine w_bd (fun v11 hv11 => ?_)
        refine w_bd (fun v12 hv12 => ?_)
        refine w_lpIH (fun (v13 : Int) (G14 : Hp) => (0 ≤ v13) ∧ (v13 ≤ tK T) ∧ (∀ c, c ≠ 28 → G14 c = G c) ∧ (XA 27 (dH (dA a m n) (fun k => if k < v13 then rcK T a m n k else hld a k)) G14)) (fun (v13 : Int) (G14 : Hp) => (10 - v13).toNat) (fun rc15 v13 G14 hI hrc15 => ?_) _ _ ?_ ?_
        · skip
          obtain ⟨i0, i1, f14, x14⟩ := hI
          have hT_G14 : XT T G14 := hT_G.fr (f14 4 (by decide)) (f14 5 (by decide)) (f14 6 (by decide)) (f14 9 (by decide))
          have k3 : G14 4 3 = tK T := hT_G14.2.2.2.1
          have wn : wT T n m = v11 := by rw [hv11, hv10, hv8, hv7, hv9]; rfl
          have rk : rcK T a m n v13 = if tk T n ≠ 2 ∧ v13 < tK T ∧ hld a v13 = m ∧ wT T n m < wy (tC T) (tp T n) (tl T v13) then n else hld a v13 := rfl
          refine w_ite (fun c_8 => ?_) (fun c_8 => ?_)
          · skip
            refine w_bp (x_holderOf x14) (fun v16 hv16 => ?_)
            have e16 : v16 = hld a v13 := by rw [hv16, dH_hld, dA_hld]; grind
            refine w_jn ?_
            refine w_ite (fun c_9 => ?_) (fun c_9 => ?_)
            · skip
              refine w_rdv (x_lie hT_G14 w (by omega) (by omega)) (fun v20 hv20 => ?_)
              have qv20 := w.li (i := v13) (by omega) (by omega)
              refine w_bp (x_way hT_G14 w ⟨by omega, by omega⟩ ⟨by omega, by omega⟩) (fun v21 hv21 => ?_)
              have qv21 := wy_rng (C := tC T) (f := v8) (t := v20) (by omega) (by omega) (by omega) (by omega) (by omega)
              have e21 : v21 = wy (tC T) (tp T n) (tl T v13) := by rw [hv21, hv20, hv8, hv7]
              refine w_ite (fun c_10 => ?_) (fun c_10 => ?_)
              · skip
                refine w_bne (x_setHolder x14 (by omega) (by omega)) (fun _ G22 _ hG22 => ?_)
                have x22 := XA_H (v := n) x14 (k := v13) (by omega) (by omega)
                rw [← hG22] at x22
                refine w_bd (fun v19 hv19 => ?_)
                simp (disch := omega) only [iadd_id, isub_id, imul_id] at hv19
                refine hrc15 _ _ ?_ ?_
                · try dsimp only
                  refine ⟨?_, ?_, ?_, ?_⟩
                  · first | omega | grind
                  · first | omega | grind
                  · first | exact f14 | (intro c x; rw [hG22, up_ne x]; exact f14 c x)
                  · first | (rw [hv19]; exact x22.cg (AE_Hs (by rw [rk, if_pos (by omega)]))) | (rw [hv19]; exact x14.cg (AE_Hn (by rw [rk, if_neg (by omega)])))
                · try dsimp only
                  omega
              · skip
                refine w_bd (fun v19 hv19 => ?_)
                simp (disch := omega) only [iadd_id, isub_id, imul_id] at hv19
                refine hrc15 _ _ ?_ ?_
                · try dsimp only
                  refine ⟨?_, ?_, ?_, ?_⟩
                  · first | omega | grind
                  · first | omega | grind
                  · first | exact f14 | (intro c x; rw [hG22, up_ne x]; exact f14 c x)
                  · first | (rw [hv19]; exact x22.cg (AE_Hs (by rw [rk, if_pos (by omega)]))) | (rw [hv19]; exact x14.cg (AE_Hn (by rw [rk, if_neg (by omega)])))
                · try dsimp only
                  omega
            · skip
              refine w_bd (fun v19 hv19 => ?_)
              simp (disch := omega) only [iadd_id, isub_id, imul_id] at hv19
              refine hrc15 _ _ ?_ ?_
              · try dsimp only
                refine ⟨?_, ?_, ?_, ?_⟩
                · first | omega | grind
                · first | omega | grind
                · first | exact f14 | (intro c x; rw [hG22, up_ne x]; exact f14 c x)
                · first | (rw [hv19]; exact x22.cg (AE_Hs (by rw [rk, if_pos (by omega)]))) | (rw [hv19]; exact x14.cg (AE_Hn (by rw [rk, if_neg (by omega)])))
              · try dsimp only
                omega
          · skip
            refine w_rt ?_
            refine ⟨f14, ?_⟩
            unfold dRec; rw [if_neg nr]
            refine x14.cg ⟨rfl, fun i k => by rw [dH_lst, dH_lst], fun i => by rw [dH_ahd, dH_ahd], fun i k => by rw [dH_fng, dH_fng], fun k => ?_⟩
            rw [dH_hld, dH_hld, dA_hld]
            have := hw.kz (k := k)
            unfold rcK; grind
        · try dsimp only
          refine ⟨?_, ?_, ?_, ?_⟩
          · first | omega | (subst_vars; first | rfl | assumption) | assumption
          · first | omega | (subst_vars; first | rfl | assumption) | assumption
          · exact f5
          · refine x5.cg (AE_H0 (fun k k1 k2 => ?_)); rw [if_neg (by omega), dA_hld]
        · try dsimp only
          omega

end DEE
