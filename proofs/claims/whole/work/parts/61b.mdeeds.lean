section MDE
variable {b : Nat} {a : AS} {G : Hp} {T : TT}
theorem m_fixed (w : WT T) (hw : WA T a) (hb : b ≤ 3410) (hR_G : MR b a G) (hM_G : MT T G) {n i : Int} (h2 : n < tN T) : WP (fX12_fixed 111 b n i G) (fun r G' => FRM b G G' ∧ r = (eFix T a n i).1 ∧ MR b (eFix T a n i).2 G') := by
  have wr := w.rg
  unfold fX12_fixed
  simp only [rf_111_17]
  refine w_bp (m_isIn (b := b) hR_G (by omega) (by omega)) (fun v1 hv1 => ?_)
  have qv1 := hw.inr (n := n)
  refine w_ite (fun c_1 => ?_) (fun c_1 => ?_)
  · skip
    refine w_rz (by omega) ?_
    have e : eFix T a n i = (0, a) := by unfold eFix; exact if_neg (fun z => by first | omega | (rcases c3 with y | y; omega; exact y.1 z.2.2))
    rw [e]; exact ⟨FRM.rf b G, rfl, hR_G⟩
  · skip
    refine w_bp (m_kindOf hM_G w (by omega) (by omega)) (fun v2 hv2 => ?_)
    have qv2 := w.kd (i := n) (by omega) (by omega)
    refine w_ite (fun c_2 => ?_) (fun c_2 => ?_)
    · skip
      refine w_rz (by omega) ?_
      have e : eFix T a n i = (0, a) := by unfold eFix; exact if_neg (fun z => by first | omega | (rcases c3 with y | y; omega; exact y.1 z.2.2))
      rw [e]; exact ⟨FRM.rf b G, rfl, hR_G⟩
    · skip
      refine w_bp (m_hasFinger hM_G w) (fun v3 hv3 => ?_)
      have c3 : ((0 ≤ i ∧ i < 8 ∧ 2 ^ i.toNat < tC T) ∧ v3 = 1) ∨ (¬ (0 ≤ i ∧ i < 8 ∧ 2 ^ i.toNat < tC T) ∧ v3 = 0) := by rw [hv3]; exact ite01 _
      refine w_ite (fun c_3 => ?_) (fun c_3 => ?_)
      · skip
        refine w_rz (by omega) ?_
        have e : eFix T a n i = (0, a) := by unfold eFix; exact if_neg (fun z => by first | omega | (rcases c3 with y | y; omega; exact y.1 z.2.2))
        rw [e]; exact ⟨FRM.rf b G, rfl, hR_G⟩
      · skip
        refine w_bp (m_fingerPlace hM_G w (by omega) (by omega) (by omega) (by omega) (by rcases c3 with z | z; exact z.1.2.2; omega)) (fun v4 hv4 => ?_)
        have c4 : 0 ≤ i ∧ i < 8 ∧ 2 ^ i.toNat < tC T := by rcases c3 with z | z; exact z.1; omega
        have fr4 := fp_r w (n := n) (i := i) (by omega) (by omega) (by omega) c4.2.2
        refine w_bn (m_finds w hw hb hR_G hM_G (n := n) (p := v4) (by omega) (by omega) (by omega)) (fun v5 G6 qG6 => ?_)
        obtain ⟨fG6, gG6, eG6, tG6, pG6⟩ := qG6
        have FG6 : FRM b G G6 := FRM.of fG6 gG6
        have hR_G6 : MR b a G6 := hR_G.fr (fG6 123 (by decide) (by decide))
        have hM_G6 : MT T G6 := FG6.tt hM_G
        have sG6 := (skf_r hw w n (v4)).1
        refine w_bd (fun v7 hv7 => ?_)
        try rw [show iadd (iadd (iadd b (imul 15 n)) 7) i = (((b + (15 * n)) + 7) + i) by simp (disch := omega) only [iadd_id, isub_id, imul_id]]
        refine w_wr (by omega) (by omega) (fun G8 hG8 => ?_)
        refine w_rz (by omega) ?_
        have e : eFix T a n i = (1, dF a n (fun j => if j = i then skf T a n (fp T n i) else fng a n j)) := by unfold eFix; exact if_pos ⟨by omega, by omega, c4⟩
        rw [e]
        refine ⟨FG6.tr (by rw [hG8]; exact FRM.wu (by omega) (by omega)), rfl, ?_⟩
        rw [hG8, hv7, eG6, hv4]
        exact MR_F hR_G6 (by omega) (by omega) (by omega) (by omega)

theorem m_putBy (w : WT T) (hw : WA T a) (hb : b ≤ 3410) (hR_G : MR b a G) (hM_G : MT T G) {k y : Int} (h1 : 0 ≤ k) (h2 : k < tK T) (h3 : y < tN T) : WP (fX12_putBy 111 b k y G) (fun r G' => FRM b G G' ∧ r = (ePut T a k y).1 ∧ MR b (ePut T a k y).2 G') := by
  have wr := w.rg
  have yi := hw.inr (n := y)
  unfold fX12_putBy
  simp only [rf_111_17, rf_111_20]
  refine w_bp (m_isIn (b := b) hR_G (by omega) (by omega)) (fun v1 hv1 => ?_)
  have qv1 := hw.inr (n := y)
  refine w_jn ?_
  refine w_ite (fun c_1 => ?_) (fun c_1 => ?_)
  · skip
    refine w_bd (fun v5 hv5 => ?_)
    have e5 : isi a y = 1 → v5 = skf T a y (tl T k) := fun _ => by first | (rw [hv5, eG9, hv7]) | (exfalso; omega)
    refine w_ite (fun c_2 => ?_) (fun c_2 => ?_)
    · skip
      refine w_rt ?_
      have e : ePut T a k y = (-1, a) := by unfold ePut; exact if_neg (by have := skf_r hw w y (tl T k); omega)
      rw [e]; exact ⟨FRM.rf b G, by first | rfl | omega, hR_G⟩
    · exfalso; omega
  · skip
    refine w_rdv (show rd G 125 10 k = some (tl T k) from (rd_in (by omega) (by omega)).trans (congrArg some (hM_G.2.2.2.2.2 k (by omega) (by omega)))) (fun v7 hv7 => ?_)
    have qv7 := w.li (i := k) (by omega) (by omega)
    refine w_bn (m_finds w hw hb hR_G hM_G (n := y) (p := v7) (by omega) (by omega) (by omega)) (fun v8 G9 qG9 => ?_)
    obtain ⟨fG9, gG9, eG9, tG9, pG9⟩ := qG9
    have FG9 : FRM b G G9 := FRM.of fG9 gG9
    have hR_G9 : MR b a G9 := hR_G.fr (fG9 123 (by decide) (by decide))
    have hM_G9 : MT T G9 := FG9.tt hM_G
    have sG9 := (skf_r hw w y (v7)).1
    refine w_bd (fun v5 hv5 => ?_)
    have e5 : isi a y = 1 → v5 = skf T a y (tl T k) := fun _ => by first | (rw [hv5, eG9, hv7]) | (exfalso; omega)
    refine w_ite (fun c_3 => ?_) (fun c_3 => ?_)
    · skip
      refine w_rt ?_
      have e : ePut T a k y = (-1, a) := by unfold ePut; exact if_neg (by have := skf_r hw w y (tl T k); omega)
      rw [e]; exact ⟨FG9, by first | rfl | omega, hR_G9⟩
    · skip
      try rw [show iadd (iadd b 120) k = ((b + 120) + k) by simp (disch := omega) only [iadd_id, isub_id, imul_id]]
      refine w_wr (by omega) (by omega) (fun G6 hG6 => ?_)
      refine w_rt ?_
      have e : ePut T a k y = (skf T a y (tl T k), dH a (fun j => if j = k then skf T a y (tl T k) else hld a j)) := by unfold ePut; exact if_pos (by have := e5; omega)
      rw [e]
      first | (exfalso; omega) | skip
      refine ⟨FG9.tr (by rw [hG6]; exact FRM.wu (by omega) (by omega)), e5 (by omega), ?_⟩
      rw [hG6, e5 (by omega)]
      exact MR_H hR_G9 (by omega) (by omega)

theorem m_mended (w : WT T) (hw : WA T a) (hb : b ≤ 3410) (hR_G : MR b a G) (hM_G : MT T G) {n : Int} (h2 : n < tN T) : WP (fX12_mended 111 b n G) (fun r G' => FRM b G G' ∧ r = (eMend T a n).1 ∧ MR b (eMend T a n).2 G') := by
  have wr := w.rg
  unfold fX12_mended
  refine w_bp (m_isIn (b := b) hR_G (by omega) (by omega)) (fun v1 hv1 => ?_)
  have qv1 := hw.inr (n := n)
  refine w_ite (fun c_1 => ?_) (fun c_1 => ?_)
  · skip
    refine w_rt ?_
    have e : eMend T a n = (-1, a) := by unfold eMend; exact if_neg (by omega)
    rw [e]; exact ⟨FRM.rf b G, by first | rfl | omega, hR_G⟩
  · skip
    refine w_bp (m_kindOf hM_G w (by omega) (by omega)) (fun v2 hv2 => ?_)
    have qv2 := w.kd (i := n) (by omega) (by omega)
    refine w_ite (fun c_2 => ?_) (fun c_2 => ?_)
    · skip
      refine w_rt ?_
      have e : eMend T a n = (-1, a) := by unfold eMend; exact if_neg (by omega)
      rw [e]; exact ⟨FRM.rf b G, by first | rfl | omega, hR_G⟩
    · skip
      refine w_bd (fun v3 hv3 => ?_)
      refine w_bd (fun v4 hv4 => ?_)
      refine w_lpIIH (fun (v5 : Int) (v6 : Int) (G7 : Hp) => (0 ≤ v6) ∧ (v6 ≤ 8) ∧ (FRM b G G7) ∧ (0 ≤ v5 ∧ v5 ≤ v6) ∧ (v5 = (mnS T a n v6.toNat).1) ∧ (MR b (mnS T a n v6.toNat).2 G7)) (fun (v5 : Int) (v6 : Int) (G7 : Hp) => (8 - v6).toNat) (fun rc8 v5 v6 G7 hI hrc8 => ?_) _ _ _ ?_ ?_
      · skip
        obtain ⟨i0, i1, f7, b5, e5, x7⟩ := hI
        have hM_G7 : MT T G7 := f7.tt hM_G
        have w7 := WA_mnS hw w (n := n) v6.toNat
        have ms : mnS T a n (v6 + 1).toNat = ((mnS T a n v6.toNat).1 + (if fng (eFix T (mnS T a n v6.toNat).2 n v6).2 n v6 = fng (mnS T a n v6.toNat).2 n v6 then 0 else 1), (eFix T (mnS T a n v6.toNat).2 n v6).2) := by rw [toN1 i0, mnS]; simp only [Int.toNat_of_nonneg i0]
        refine w_ite (fun c_3 => ?_) (fun c_3 => ?_)
        · skip
          refine w_bp (m_fingerOf (b := b) x7 (by omega) (by omega) (by omega) (by omega) (by omega)) (fun v9 hv9 => ?_)
          refine w_bd (fun v10 hv10 => ?_)
          refine w_bn (m_fixed w w7 hb x7 hM_G7 (n := n) (i := v6) h2) (fun v11 G12 q12 => ?_)
          obtain ⟨f12, e11, x12⟩ := q12
          have fz : v11 = 0 → fng (eFix T (mnS T a n v6.toNat).2 n v6).2 n v6 = fng (mnS T a n v6.toNat).2 n v6 := fun z => by
            rw [e11] at z
            unfold eFix at z ⊢
            split at z
            · exact absurd z (by simp)
            · rename_i q; rw [if_neg q]
          refine w_bd (fun v13 hv13 => ?_)
          refine w_jn ?_
          refine w_jn ?_
          refine w_ite (fun c_4 => ?_) (fun c_4 => ?_)
          · skip
            refine w_bd (fun v16 hv16 => ?_)
            simp (disch := omega) only [iadd_id, isub_id, imul_id] at hv16
            refine w_bd (fun v17 hv17 => ?_)
            simp (disch := omega) only [iadd_id, isub_id, imul_id] at hv17
            refine hrc8 _ _ _ ?_ ?_
            · try dsimp only
              refine ⟨?_, ?_, ?_, ?_, ?_, ?_⟩
              · first | omega | grind
              · first | omega | grind
              · exact f7.tr f12
              · first | omega | grind
              · rw [hv17, ms]; show _ = _ + _; first | (rw [if_pos (fz (by omega))]; omega) | (rw [← hv9, ← hv10, ← hv19]; first | (rw [if_pos (by omega)]; omega) | (rw [if_neg (by omega)]; omega))
              · rw [hv17, ms]; exact x12
            · try dsimp only
              omega
          · skip
            refine w_bp (m_fingerOf (b := b) x12 (by omega) (by omega) (by omega) (by omega) (by omega)) (fun v19 hv19 => ?_)
            refine w_ite (fun c_5 => ?_) (fun c_5 => ?_)
            · skip
              refine w_bd (fun v16 hv16 => ?_)
              simp (disch := omega) only [iadd_id, isub_id, imul_id] at hv16
              refine w_bd (fun v17 hv17 => ?_)
              simp (disch := omega) only [iadd_id, isub_id, imul_id] at hv17
              refine hrc8 _ _ _ ?_ ?_
              · try dsimp only
                refine ⟨?_, ?_, ?_, ?_, ?_, ?_⟩
                · first | omega | grind
                · first | omega | grind
                · exact f7.tr f12
                · first | omega | grind
                · rw [hv17, ms]; show _ = _ + _; first | (rw [if_pos (fz (by omega))]; omega) | (rw [← hv9, ← hv10, ← hv19]; first | (rw [if_pos (by omega)]; omega) | (rw [if_neg (by omega)]; omega))
                · rw [hv17, ms]; exact x12
              · try dsimp only
                omega
            · skip
              refine w_bd (fun v16 hv16 => ?_)
              simp (disch := omega) only [iadd_id, isub_id, imul_id] at hv16
              refine w_bd (fun v17 hv17 => ?_)
              simp (disch := omega) only [iadd_id, isub_id, imul_id] at hv17
              refine hrc8 _ _ _ ?_ ?_
              · try dsimp only
                refine ⟨?_, ?_, ?_, ?_, ?_, ?_⟩
                · first | omega | grind
                · first | omega | grind
                · exact f7.tr f12
                · first | omega | grind
                · rw [hv17, ms]; show _ = _ + _; first | (rw [if_pos (fz (by omega))]; omega) | (rw [← hv9, ← hv10, ← hv19]; first | (rw [if_pos (by omega)]; omega) | (rw [if_neg (by omega)]; omega))
                · rw [hv17, ms]; exact x12
              · try dsimp only
                omega
        · skip
          refine w_rt ?_
          have e : eMend T a n = mnS T a n 8 := by unfold eMend; exact if_pos (by omega)
          rw [e]
          rw [show v6.toNat = 8 by omega] at e5 x7
          exact ⟨f7, e5, x7⟩
      · try dsimp only
        refine ⟨?_, ?_, ?_, ?_, ?_, ?_⟩
        · first | omega | (subst_vars; first | rfl | assumption) | assumption
        · first | omega | (subst_vars; first | rfl | assumption) | assumption
        · exact FRM.rf b G
        · first | omega | (subst_vars; first | rfl | assumption) | assumption
        · rw [hv4, hv3]; rfl
        · rw [hv4]; exact hR_G
      · try dsimp only
        omega

theorem m_handed (w : WT T) (hw : WA T a) (hb : b ≤ 3410) (hR_G : MR b a G) (hM_G : MT T G) {n : Int} (h2 : n < tN T) : WP (fX12_handed 111 b n G) (fun r G' => FRM b G G' ∧ r = (eHand T a n).1 ∧ MR b (eHand T a n).2 G') := by
  have wr := w.rg
  unfold fX12_handed
  simp only [rf_111_17, rf_111_20]
  refine w_bp (m_isIn (b := b) hR_G (by omega) (by omega)) (fun v1 hv1 => ?_)
  have qv1 := hw.inr (n := n)
  refine w_ite (fun c_1 => ?_) (fun c_1 => ?_)
  · skip
    refine w_rt ?_
    have e : eHand T a n = (-1, a) := by unfold eHand; exact if_neg (by omega)
    rw [e]; exact ⟨FRM.rf b G, by first | rfl | omega, hR_G⟩
  · skip
    refine w_bp (m_heldSet w hb hM_G hR_G hw) (fun v2 hv2 => ?_)
    have q2 := bits_10 (fun k => hld a k = n) (n := (tK T).toNat) (by omega)
    rw [← hv2] at q2
    refine w_bd (fun v3 hv3 => ?_)
    refine w_bd (fun v4 hv4 => ?_)
    refine w_bd (fun v5 hv5 => ?_)
    refine w_lpIIH (fun (v6 : Int) (v7 : Int) (G8 : Hp) => (0 ≤ v7) ∧ (v7 ≤ tK T) ∧ (FRM b G G8) ∧ (v6 = cnt (fun k => hld a k = n ∧ skf T a n (tl T k) ≠ -1 ∧ skf T a n (tl T k) ≠ n) v7.toNat) ∧ (MR b (dH a (fun k => if k < v7 then hnK T a n k else hld a k)) G8)) (fun (v6 : Int) (v7 : Int) (G8 : Hp) => (10 - v7).toNat) (fun rc9 v6 v7 G8 hI hrc9 => ?_) _ _ _ ?_ ?_
    · skip
      obtain ⟨i0, i1, f8, b6, x8⟩ := hI
      have hM_G8 : MT T G8 := f8.tt hM_G
      have w8 : WA T (dH a (fun k => if k < v7 then hnK T a n k else hld a k)) := WA_hn hw w v7
      have bi : v7 < tK T → (iand (ishr v3 v7) 1 = 1 ↔ hld a v7 = n) := fun z => by
        rw [bit_is (by omega) (by omega) i0 (by omega), hv3, hv2, bt_bits v7.toNat (by omega), Int.toNat_of_nonneg i0]
      have cr := cnt_r (fun k => hld a k = n ∧ skf T a n (tl T k) ≠ -1 ∧ skf T a n (tl T k) ≠ n) v7.toNat
      have ct := cnt_t (p := fun k => hld a k = n ∧ skf T a n (tl T k) ≠ -1 ∧ skf T a n (tl T k) ≠ n) (i := v7) i0
      have cf := cnt_f (p := fun k => hld a k = n ∧ skf T a n (tl T k) ≠ -1 ∧ skf T a n (tl T k) ≠ n) (i := v7) i0
      have hk : hnK T a n v7 = if v7 < tK T ∧ hld a v7 = n ∧ skf T a n (tl T v7) ≠ -1 then skf T a n (tl T v7) else hld a v7 := rfl
      refine w_bp (m_keys hM_G8) (fun v10 hv10 => ?_)
      refine w_ite (fun c_2 => ?_) (fun c_2 => ?_)
      · skip
        refine w_jn ?_
        refine w_ite (fun c_3 => ?_) (fun c_3 => ?_)
        · skip
          refine w_rdv (show rd G8 125 10 v7 = some (tl T v7) from (rd_in (by omega) (by omega)).trans (congrArg some (hM_G8.2.2.2.2.2 v7 (by omega) (by omega)))) (fun v23 hv23 => ?_)
          have qv23 := w.li (i := v7) (by omega) (by omega)
          refine w_bn (m_finds w w8 hb x8 hM_G8 (n := n) (p := v23) (by omega) (by omega) (by omega)) (fun v24 G25 q25 => ?_)
          obtain ⟨f25, g25, e25, t25, p25⟩ := q25
          rw [skf_H, hv23] at e25
          have F25 : FRM b G8 G25 := FRM.of f25 g25
          have x25 : MR b (dH a (fun k => if k < v7 then hnK T a n k else hld a k)) G25 := x8.fr (f25 123 (by decide) (by decide))
          have s25 := (skf_r hw w n (tl T v7)).1
          refine w_bd (fun v14 hv14 => ?_)
          refine w_jn ?_
          refine w_ite (fun c_4 => ?_) (fun c_4 => ?_)
          · skip
            refine w_bd (fun v18 hv18 => ?_)
            simp (disch := omega) only [iadd_id, isub_id, imul_id] at hv18
            refine hrc9 _ _ _ ?_ ?_
            · try dsimp only
              refine ⟨?_, ?_, ?_, ?_, ?_⟩
              · first | omega | grind
              · first | omega | grind
              · first | exact f8 | exact f8.tr F25 | (refine (f8.tr F25).tr ?_; rw [hG19]; exact FRM.wu (by omega) (by omega)) | (exfalso; omega)
              · first | (exfalso; omega) | (rw [hv18, ct ⟨(bi (by omega)).mp (by assumption), by omega, by omega⟩]; omega) | (rw [hv18, cf (fun z => by have := (bi (by omega)).mpr z.1; omega)]; omega) | (rw [hv18, cf (fun z => by omega)]; omega)
              · first
                | (exfalso; omega)
                | (have hn := (bi (by omega)).mp (by assumption)
                   rw [hG19, hv18]; exact (MR_H x25 (k := v7) (by omega) (by omega)).cg (AE_Hs (by rw [hk, if_pos (by omega)]; omega)))
                | (have hn := (bi (by omega)).mp (by assumption)
                   rw [hv18]; exact x25.cg (AE_Hn (by rw [hk, if_neg (by omega)])))
                | (have hn : hld a v7 ≠ n := fun z => by have := (bi (by omega)).mpr z; omega
                   rw [hv18]; exact x8.cg (AE_Hn (by rw [hk, if_neg (by omega)])))
            · try dsimp only
              omega
          · skip
            try rw [show iadd (iadd b 120) v7 = ((b + 120) + v7) by simp (disch := omega) only [iadd_id, isub_id, imul_id]]
            refine w_wr (by omega) (by omega) (fun G19 hG19 => ?_)
            refine w_jn ?_
            refine w_ite (fun c_5 => ?_) (fun c_5 => ?_)
            · skip
              refine w_bd (fun v22 hv22 => ?_)
              simp (disch := omega) only [iadd_id, isub_id, imul_id] at hv22
              refine w_bd (fun v18 hv18 => ?_)
              simp (disch := omega) only [iadd_id, isub_id, imul_id] at hv18
              refine hrc9 _ _ _ ?_ ?_
              · try dsimp only
                refine ⟨?_, ?_, ?_, ?_, ?_⟩
                · first | omega | grind
                · first | omega | grind
                · first | exact f8 | exact f8.tr F25 | (refine (f8.tr F25).tr ?_; rw [hG19]; exact FRM.wu (by omega) (by omega)) | (exfalso; omega)
                · first | (exfalso; omega) | (rw [hv18, ct ⟨(bi (by omega)).mp (by assumption), by omega, by omega⟩]; omega) | (rw [hv18, cf (fun z => by have := (bi (by omega)).mpr z.1; omega)]; omega) | (rw [hv18, cf (fun z => by omega)]; omega)
                · first
                  | (exfalso; omega)
                  | (have hn := (bi (by omega)).mp (by assumption)
                     rw [hG19, hv18]; exact (MR_H x25 (k := v7) (by omega) (by omega)).cg (AE_Hs (by rw [hk, if_pos (by omega)]; omega)))
                  | (have hn := (bi (by omega)).mp (by assumption)
                     rw [hv18]; exact x25.cg (AE_Hn (by rw [hk, if_neg (by omega)])))
                  | (have hn : hld a v7 ≠ n := fun z => by have := (bi (by omega)).mpr z; omega
                     rw [hv18]; exact x8.cg (AE_Hn (by rw [hk, if_neg (by omega)])))
              · try dsimp only
                omega
            · skip
              refine w_bd (fun v22 hv22 => ?_)
              simp (disch := omega) only [iadd_id, isub_id, imul_id] at hv22
              refine w_bd (fun v18 hv18 => ?_)
              simp (disch := omega) only [iadd_id, isub_id, imul_id] at hv18
              refine hrc9 _ _ _ ?_ ?_
              · try dsimp only
                refine ⟨?_, ?_, ?_, ?_, ?_⟩
                · first | omega | grind
                · first | omega | grind
                · first | exact f8 | exact f8.tr F25 | (refine (f8.tr F25).tr ?_; rw [hG19]; exact FRM.wu (by omega) (by omega)) | (exfalso; omega)
                · first | (exfalso; omega) | (rw [hv18, ct ⟨(bi (by omega)).mp (by assumption), by omega, by omega⟩]; omega) | (rw [hv18, cf (fun z => by have := (bi (by omega)).mpr z.1; omega)]; omega) | (rw [hv18, cf (fun z => by omega)]; omega)
                · first
                  | (exfalso; omega)
                  | (have hn := (bi (by omega)).mp (by assumption)
                     rw [hG19, hv18]; exact (MR_H x25 (k := v7) (by omega) (by omega)).cg (AE_Hs (by rw [hk, if_pos (by omega)]; omega)))
                  | (have hn := (bi (by omega)).mp (by assumption)
                     rw [hv18]; exact x25.cg (AE_Hn (by rw [hk, if_neg (by omega)])))
                  | (have hn : hld a v7 ≠ n := fun z => by have := (bi (by omega)).mpr z; omega
                     rw [hv18]; exact x8.cg (AE_Hn (by rw [hk, if_neg (by omega)])))
              · try dsimp only
                omega
        · skip
          refine w_bd (fun v14 hv14 => ?_)
          refine w_jn ?_
          refine w_ite (fun c_6 => ?_) (fun c_6 => ?_)
          · skip
            refine w_bd (fun v18 hv18 => ?_)
            simp (disch := omega) only [iadd_id, isub_id, imul_id] at hv18
            refine hrc9 _ _ _ ?_ ?_
            · try dsimp only
              refine ⟨?_, ?_, ?_, ?_, ?_⟩
              · first | omega | grind
              · first | omega | grind
              · first | exact f8 | exact f8.tr F25 | (refine (f8.tr F25).tr ?_; rw [hG19]; exact FRM.wu (by omega) (by omega)) | (exfalso; omega)
              · first | (exfalso; omega) | (rw [hv18, ct ⟨(bi (by omega)).mp (by assumption), by omega, by omega⟩]; omega) | (rw [hv18, cf (fun z => by have := (bi (by omega)).mpr z.1; omega)]; omega) | (rw [hv18, cf (fun z => by omega)]; omega)
              · first
                | (exfalso; omega)
                | (have hn := (bi (by omega)).mp (by assumption)
                   rw [hG19, hv18]; exact (MR_H x25 (k := v7) (by omega) (by omega)).cg (AE_Hs (by rw [hk, if_pos (by omega)]; omega)))
                | (have hn := (bi (by omega)).mp (by assumption)
                   rw [hv18]; exact x25.cg (AE_Hn (by rw [hk, if_neg (by omega)])))
                | (have hn : hld a v7 ≠ n := fun z => by have := (bi (by omega)).mpr z; omega
                   rw [hv18]; exact x8.cg (AE_Hn (by rw [hk, if_neg (by omega)])))
            · try dsimp only
              omega
          · exfalso; omega
      · skip
        refine w_rt ?_
        have e : eHand T a n = (cnt (fun k => hld a k = n ∧ skf T a n (tl T k) ≠ -1 ∧ skf T a n (tl T k) ≠ n) (tK T).toNat, dH a (hnK T a n)) := by unfold eHand; exact if_pos (by omega)
        rw [e]
        refine ⟨f8, by rw [b6, show v7.toNat = (tK T).toNat by omega], x8.cg ⟨rfl, fun i k => by rw [dH_lst, dH_lst], fun i => by rw [dH_ahd, dH_ahd], fun i k => by rw [dH_fng, dH_fng], fun k => ?_⟩⟩
        rw [dH_hld, dH_hld]
        have := hw.kz (k := k)
        unfold hnK; grind
    · try dsimp only
      refine ⟨?_, ?_, ?_, ?_, ?_⟩
      · first | omega | (subst_vars; first | rfl | assumption) | assumption
      · first | omega | (subst_vars; first | rfl | assumption) | assumption
      · exact FRM.rf b G
      · rw [hv5, hv4]; rfl
      · refine hR_G.cg (AE_H0 (fun k k1 k2 => ?_)); rw [if_neg (by omega)]
    · try dsimp only
      omega

theorem m_acts (w : WT T) (hw : WA T a) (hb : b ≤ 3410) (hR_G : MR b a G) (hM_G : MT T G) {c x y : Int} (hc0 : 0 ≤ c) (hc8 : c ≤ 8) (hx : c ≠ 7 → 0 ≤ x ∧ x < tN T) (hk : c = 7 → 0 ≤ x ∧ x < tK T) (hy : c = 1 ∨ c = 7 → y < tN T) : WP (fX12_acts 111 b c x y G) (fun r G' => FRM b G G' ∧ r = (eDo T a c x y).1 ∧ MR b (eDo T a c x y).2 G') := by
  have gr := gFl_r hw x
  have sj := (skf_r hw w y (tp T x)).1
  have sp := (skf_r hw w y (tl T x)).1
  have fr := pcn_r (bits (fun k => hld a k = x) 10)
  have mr := mnt_r hw w (n := x)
  have hr := cnt_r (fun k => hld a k = x ∧ skf T a x (tl T k) ≠ -1 ∧ skf T a x (tl T k) ≠ x) (tK T).toNat
  unfold fX12_acts
  refine w_ite (fun c_1 => ?_) (fun c_1 => ?_)
  · skip
    refine w_bn (m_begun w hw hb hR_G hM_G (n := x) (hx (by omega)).1 (hx (by omega)).2) (fun v2 G3 qG3 => ?_)
    obtain ⟨fG3, eG3, xG3⟩ := qG3
    refine w_rz (by first | omega | (rw [eG3]; unfold eBeg; split <;> simp) | (rw [eG9]; unfold eLeave; split <;> simp) | (rw [eG21]; unfold eFix; split <;> simp)) ?_
    refine ⟨fG3, ?_⟩
    unfold eDo; simp only [show c = 0 by omega]; simp
    first
    | exact ⟨eG3, xG3⟩
    | (refine ⟨?_, xG3⟩
       have z : (eBeg T a x).1 = -1 ∨ 0 ≤ (eBeg T a x).1 := by unfold eBeg; split <;> first | (left; rfl) | (right; exact hr.1) | (simp; omega)
       rw [← eG3] at z ⊢
       first | omega | (rw [if_pos (by omega)]) | (rw [if_neg (by omega)]))
  · skip
    refine w_ite (fun c_2 => ?_) (fun c_2 => ?_)
    · skip
      refine w_bn (m_joined w hw hb hR_G hM_G (n := x) (y := y) (hx (by omega)).1 (hx (by omega)).2 (hy (by omega))) (fun v5 G6 qG6 => ?_)
      obtain ⟨fG6, eG6, xG6⟩ := qG6
      refine w_ite (fun c_3 => ?_) (fun c_3 => ?_)
      · skip
        refine w_rz (by first | omega | (rw [eG3]; unfold eBeg; split <;> simp) | (rw [eG9]; unfold eLeave; split <;> simp) | (rw [eG21]; unfold eFix; split <;> simp)) ?_
        refine ⟨fG6, ?_⟩
        unfold eDo; simp only [show c = 1 by omega]; simp
        first
        | exact ⟨eG6, xG6⟩
        | (refine ⟨?_, xG6⟩
           have z : (eJoin T a x y).1 = -1 ∨ 0 ≤ (eJoin T a x y).1 := by unfold eJoin; split <;> first | (left; rfl) | (right; exact hr.1) | (simp; omega)
           rw [← eG6] at z ⊢
           first | omega | (rw [if_pos (by omega)]) | (rw [if_neg (by omega)]))
      · skip
        refine w_rz (by first | omega | (rw [eG3]; unfold eBeg; split <;> simp) | (rw [eG9]; unfold eLeave; split <;> simp) | (rw [eG21]; unfold eFix; split <;> simp)) ?_
        refine ⟨fG6, ?_⟩
        unfold eDo; simp only [show c = 1 by omega]; simp
        first
        | exact ⟨eG6, xG6⟩
        | (refine ⟨?_, xG6⟩
           have z : (eJoin T a x y).1 = -1 ∨ 0 ≤ (eJoin T a x y).1 := by unfold eJoin; split <;> first | (left; rfl) | (right; exact hr.1) | (simp; omega)
           rw [← eG6] at z ⊢
           first | omega | (rw [if_pos (by omega)]) | (rw [if_neg (by omega)]))
    · skip
      refine w_ite (fun c_4 => ?_) (fun c_4 => ?_)
      · skip
        refine w_bn (m_left w hw hb hR_G hM_G (n := x) (hx (by omega)).1 (hx (by omega)).2) (fun v8 G9 qG9 => ?_)
        obtain ⟨fG9, eG9, xG9⟩ := qG9
        refine w_rz (by first | omega | (rw [eG3]; unfold eBeg; split <;> simp) | (rw [eG9]; unfold eLeave; split <;> simp) | (rw [eG21]; unfold eFix; split <;> simp)) ?_
        refine ⟨fG9, ?_⟩
        unfold eDo; simp only [show c = 2 by omega]; simp
        first
        | exact ⟨eG9, xG9⟩
        | (refine ⟨?_, xG9⟩
           have z : (eBeg T a x).1 = -1 ∨ 0 ≤ (eBeg T a x).1 := by unfold eBeg; split <;> first | (left; rfl) | (right; exact hr.1) | (simp; omega)
           rw [← eG9] at z ⊢
           first | omega | (rw [if_pos (by omega)]) | (rw [if_neg (by omega)]))
      · skip
        refine w_ite (fun c_5 => ?_) (fun c_5 => ?_)
        · skip
          refine w_bn (m_failed w hw hb hR_G hM_G (n := x) (hx (by omega)).1 (hx (by omega)).2) (fun v11 G12 qG12 => ?_)
          obtain ⟨fG12, eG12, xG12⟩ := qG12
          refine w_ite (fun c_6 => ?_) (fun c_6 => ?_)
          · skip
            refine w_rz (by first | omega | (rw [eG3]; unfold eBeg; split <;> simp) | (rw [eG9]; unfold eLeave; split <;> simp) | (rw [eG21]; unfold eFix; split <;> simp)) ?_
            refine ⟨fG12, ?_⟩
            unfold eDo; simp only [show c = 3 by omega]; simp
            first
            | exact ⟨eG12, xG12⟩
            | (refine ⟨?_, xG12⟩
               have z : (eFail a x).1 = -1 ∨ 0 ≤ (eFail a x).1 := by unfold eFail; split <;> first | (left; rfl) | (right; exact hr.1) | (simp; omega)
               rw [← eG12] at z ⊢
               first | omega | (rw [if_pos (by omega)]) | (rw [if_neg (by omega)]))
          · skip
            refine w_rz (by first | omega | (rw [eG3]; unfold eBeg; split <;> simp) | (rw [eG9]; unfold eLeave; split <;> simp) | (rw [eG21]; unfold eFix; split <;> simp)) ?_
            refine ⟨fG12, ?_⟩
            unfold eDo; simp only [show c = 3 by omega]; simp
            first
            | exact ⟨eG12, xG12⟩
            | (refine ⟨?_, xG12⟩
               have z : (eFail a x).1 = -1 ∨ 0 ≤ (eFail a x).1 := by unfold eFail; split <;> first | (left; rfl) | (right; exact hr.1) | (simp; omega)
               rw [← eG12] at z ⊢
               first | omega | (rw [if_pos (by omega)]) | (rw [if_neg (by omega)]))
        · skip
          refine w_ite (fun c_7 => ?_) (fun c_7 => ?_)
          · skip
            refine w_bn (m_tidied w hw hb hR_G hM_G (n := x) (hx (by omega)).1 (hx (by omega)).2) (fun v14 G15 qG15 => ?_)
            obtain ⟨fG15, eG15, xG15⟩ := qG15
            refine w_ite (fun c_8 => ?_) (fun c_8 => ?_)
            · skip
              refine w_rz (by first | omega | (rw [eG3]; unfold eBeg; split <;> simp) | (rw [eG9]; unfold eLeave; split <;> simp) | (rw [eG21]; unfold eFix; split <;> simp)) ?_
              refine ⟨fG15, ?_⟩
              unfold eDo; simp only [show c = 4 by omega]; simp
              first
              | exact ⟨eG15, xG15⟩
              | (refine ⟨?_, xG15⟩
                 have z : (eTidy T a x).1 = -1 ∨ 0 ≤ (eTidy T a x).1 := by unfold eTidy; split <;> first | (left; rfl) | (right; exact hr.1) | (simp; omega)
                 rw [← eG15] at z ⊢
                 first | omega | (rw [if_pos (by omega)]) | (rw [if_neg (by omega)]))
            · skip
              refine w_rz (by first | omega | (rw [eG3]; unfold eBeg; split <;> simp) | (rw [eG9]; unfold eLeave; split <;> simp) | (rw [eG21]; unfold eFix; split <;> simp)) ?_
              refine ⟨fG15, ?_⟩
              unfold eDo; simp only [show c = 4 by omega]; simp
              first
              | exact ⟨eG15, xG15⟩
              | (refine ⟨?_, xG15⟩
                 have z : (eTidy T a x).1 = -1 ∨ 0 ≤ (eTidy T a x).1 := by unfold eTidy; split <;> first | (left; rfl) | (right; exact hr.1) | (simp; omega)
                 rw [← eG15] at z ⊢
                 first | omega | (rw [if_pos (by omega)]) | (rw [if_neg (by omega)]))
          · skip
            refine w_ite (fun c_9 => ?_) (fun c_9 => ?_)
            · skip
              refine w_bn (m_eFlush w hw hb hR_G hM_G (n := x) (hx (by omega)).2) (fun v17 G18 qG18 => ?_)
              obtain ⟨fG18, eG18, xG18⟩ := qG18
              refine w_ite (fun c_10 => ?_) (fun c_10 => ?_)
              · skip
                refine w_rz (by first | omega | (rw [eG3]; unfold eBeg; split <;> simp) | (rw [eG9]; unfold eLeave; split <;> simp) | (rw [eG21]; unfold eFix; split <;> simp)) ?_
                refine ⟨fG18, ?_⟩
                unfold eDo; simp only [show c = 5 by omega]; simp
                first
                | exact ⟨eG18, xG18⟩
                | (refine ⟨?_, xG18⟩
                   have z : (eFlush a x).1 = -1 ∨ 0 ≤ (eFlush a x).1 := by unfold eFlush; split <;> first | (left; rfl) | (right; exact hr.1) | (simp; omega)
                   rw [← eG18] at z ⊢
                   first | omega | (rw [if_pos (by omega)]) | (rw [if_neg (by omega)]))
              · skip
                refine w_rz (by first | omega | (rw [eG3]; unfold eBeg; split <;> simp) | (rw [eG9]; unfold eLeave; split <;> simp) | (rw [eG21]; unfold eFix; split <;> simp)) ?_
                refine ⟨fG18, ?_⟩
                unfold eDo; simp only [show c = 5 by omega]; simp
                first
                | exact ⟨eG18, xG18⟩
                | (refine ⟨?_, xG18⟩
                   have z : (eFlush a x).1 = -1 ∨ 0 ≤ (eFlush a x).1 := by unfold eFlush; split <;> first | (left; rfl) | (right; exact hr.1) | (simp; omega)
                   rw [← eG18] at z ⊢
                   first | omega | (rw [if_pos (by omega)]) | (rw [if_neg (by omega)]))
            · skip
              refine w_ite (fun c_11 => ?_) (fun c_11 => ?_)
              · skip
                refine w_bn (m_fixed w hw hb hR_G hM_G (n := x) (i := y) (hx (by omega)).2) (fun v20 G21 qG21 => ?_)
                obtain ⟨fG21, eG21, xG21⟩ := qG21
                refine w_rz (by first | omega | (rw [eG3]; unfold eBeg; split <;> simp) | (rw [eG9]; unfold eLeave; split <;> simp) | (rw [eG21]; unfold eFix; split <;> simp)) ?_
                refine ⟨fG21, ?_⟩
                unfold eDo; simp only [show c = 6 by omega]; simp
                first
                | exact ⟨eG21, xG21⟩
                | (refine ⟨?_, xG21⟩
                   have z : (eBeg T a x).1 = -1 ∨ 0 ≤ (eBeg T a x).1 := by unfold eBeg; split <;> first | (left; rfl) | (right; exact hr.1) | (simp; omega)
                   rw [← eG21] at z ⊢
                   first | omega | (rw [if_pos (by omega)]) | (rw [if_neg (by omega)]))
              · skip
                refine w_ite (fun c_12 => ?_) (fun c_12 => ?_)
                · skip
                  refine w_bn (m_putBy w hw hb hR_G hM_G (k := x) (y := y) (hk (by omega)).1 (hk (by omega)).2 (hy (by omega))) (fun v23 G24 qG24 => ?_)
                  obtain ⟨fG24, eG24, xG24⟩ := qG24
                  refine w_ite (fun c_13 => ?_) (fun c_13 => ?_)
                  · skip
                    refine w_rz (by first | omega | (rw [eG3]; unfold eBeg; split <;> simp) | (rw [eG9]; unfold eLeave; split <;> simp) | (rw [eG21]; unfold eFix; split <;> simp)) ?_
                    refine ⟨fG24, ?_⟩
                    unfold eDo; simp only [show c = 7 by omega]; simp
                    first
                    | exact ⟨eG24, xG24⟩
                    | (refine ⟨?_, xG24⟩
                       have z : (ePut T a x y).1 = -1 ∨ 0 ≤ (ePut T a x y).1 := by unfold ePut; split <;> first | (left; rfl) | (right; exact hr.1) | (simp; omega)
                       rw [← eG24] at z ⊢
                       first | omega | (rw [if_pos (by omega)]) | (rw [if_neg (by omega)]))
                  · skip
                    refine w_rz (by first | omega | (rw [eG3]; unfold eBeg; split <;> simp) | (rw [eG9]; unfold eLeave; split <;> simp) | (rw [eG21]; unfold eFix; split <;> simp)) ?_
                    refine ⟨fG24, ?_⟩
                    unfold eDo; simp only [show c = 7 by omega]; simp
                    first
                    | exact ⟨eG24, xG24⟩
                    | (refine ⟨?_, xG24⟩
                       have z : (ePut T a x y).1 = -1 ∨ 0 ≤ (ePut T a x y).1 := by unfold ePut; split <;> first | (left; rfl) | (right; exact hr.1) | (simp; omega)
                       rw [← eG24] at z ⊢
                       first | omega | (rw [if_pos (by omega)]) | (rw [if_neg (by omega)]))
                · skip
                  refine w_bn (m_handed w hw hb hR_G hM_G (n := x) (hx (by omega)).2) (fun v25 G26 qG26 => ?_)
                  obtain ⟨fG26, eG26, xG26⟩ := qG26
                  refine w_ite (fun c_14 => ?_) (fun c_14 => ?_)
                  · skip
                    refine w_rz (by first | omega | (rw [eG3]; unfold eBeg; split <;> simp) | (rw [eG9]; unfold eLeave; split <;> simp) | (rw [eG21]; unfold eFix; split <;> simp)) ?_
                    refine ⟨fG26, ?_⟩
                    unfold eDo; simp only [show c = 8 by omega]; simp
                    first
                    | exact ⟨eG26, xG26⟩
                    | (refine ⟨?_, xG26⟩
                       have z : (eHand T a x).1 = -1 ∨ 0 ≤ (eHand T a x).1 := by unfold eHand; split <;> first | (left; rfl) | (right; exact hr.1) | (simp; omega)
                       rw [← eG26] at z ⊢
                       first | omega | (rw [if_pos (by omega)]) | (rw [if_neg (by omega)]))
                  · skip
                    refine w_rz (by first | omega | (rw [eG3]; unfold eBeg; split <;> simp) | (rw [eG9]; unfold eLeave; split <;> simp) | (rw [eG21]; unfold eFix; split <;> simp)) ?_
                    refine ⟨fG26, ?_⟩
                    unfold eDo; simp only [show c = 8 by omega]; simp
                    first
                    | exact ⟨eG26, xG26⟩
                    | (refine ⟨?_, xG26⟩
                       have z : (eHand T a x).1 = -1 ∨ 0 ≤ (eHand T a x).1 := by unfold eHand; split <;> first | (left; rfl) | (right; exact hr.1) | (simp; omega)
                       rw [← eG26] at z ⊢
                       first | omega | (rw [if_pos (by omega)]) | (rw [if_neg (by omega)]))

theorem m_rounds (w : WT T) (hw : WA T a) (hb : b ≤ 3410) (hR_G : MR b a G) (hM_G : MT T G) : WP (fX12_rounds 111 b G) (fun _ G' => FRM b G G' ∧ MR b (eRd T a) G') := by
  have wr := w.rg
  unfold fX12_rounds
  refine w_bd (fun v1 hv1 => ?_)
  refine w_lpIH (fun (v2 : Int) (G3 : Hp) => (0 ≤ v2) ∧ (v2 ≤ tN T) ∧ (FRM b G G3) ∧ (MR b (eRn T a v2.toNat) G3)) (fun (v2 : Int) (G3 : Hp) => (8 - v2).toNat) (fun rc4 v2 G3 hI hrc4 => ?_) _ _ ?_ ?_
  · skip
    obtain ⟨i0, i1, f3, x3⟩ := hI
    have hM_G3 : MT T G3 := f3.tt hM_G
    have w3 := WA_eRn hw w v2.toNat
    have gr := gFl_r w3 v2
    have i01 := isi_01 (eRn T a v2.toNat) v2
    have ef : (isi (eRn T a v2.toNat) v2 = 1 ∧ eFlush (eRn T a v2.toNat) v2 = (gFl (eRn T a v2.toNat) v2, dFl (eRn T a v2.toNat) v2)) ∨ (isi (eRn T a v2.toNat) v2 = 0 ∧ eFlush (eRn T a v2.toNat) v2 = (-1, eRn T a v2.toNat)) := by
      unfold eFlush
      rcases i01 with z | z
      · right; exact ⟨z, if_neg (by omega)⟩
      · left; exact ⟨z, if_pos z⟩
    refine w_bp (m_nodes hM_G3) (fun v5 hv5 => ?_)
    refine w_ite (fun c_1 => ?_) (fun c_1 => ?_)
    · skip
      refine w_bn (m_eFlush w w3 hb x3 hM_G3 (n := v2) (by omega)) (fun v6 G7 qG7 => ?_)
      obtain ⟨fG7, eG7, xG7⟩ := qG7
      refine w_bd (fun v8 hv8 => ?_)
      refine w_jn ?_
      refine w_ite (fun c_2 => ?_) (fun c_2 => ?_)
      · skip
        refine w_bd (fun v11 hv11 => ?_)
        simp (disch := omega) only [iadd_id, isub_id, imul_id] at hv11
        refine hrc4 _ _ ?_ ?_
        · try dsimp only
          refine ⟨?_, ?_, ?_, ?_⟩
          · first | omega | grind
          · first | omega | grind
          · first | exact (f3.tr fG7).tr fG13 | exact f3.tr fG7
          · rw [hv11, eRn_s i0]
            rcases ef with ⟨z, y⟩ | ⟨z, y⟩
            · first | (rw [y] at eG7; exfalso; have : v6 = gFl (eRn T a v2.toNat) v2 := eG7; omega) | (rw [if_pos z]; exact xG13)
            · first | (rw [y] at eG7 xG7; have : v6 = -1 := eG7; rw [if_neg (by omega)]; first | exact xG7 | (exfalso; omega)) 
        · try dsimp only
          omega
      · skip
        refine w_bn (m_tidied w (WA_eFlush w3 w) hb xG7 (fG7.tt hM_G3) (n := v2) (by omega) (by omega)) (fun v12 G13 qG13 => ?_)
        obtain ⟨fG13, eG13, xG13⟩ := qG13
        refine w_bd (fun v11 hv11 => ?_)
        simp (disch := omega) only [iadd_id, isub_id, imul_id] at hv11
        refine hrc4 _ _ ?_ ?_
        · try dsimp only
          refine ⟨?_, ?_, ?_, ?_⟩
          · first | omega | grind
          · first | omega | grind
          · first | exact (f3.tr fG7).tr fG13 | exact f3.tr fG7
          · rw [hv11, eRn_s i0]
            rcases ef with ⟨z, y⟩ | ⟨z, y⟩
            · first | (rw [y] at eG7; exfalso; have : v6 = gFl (eRn T a v2.toNat) v2 := eG7; omega) | (rw [if_pos z]; exact xG13)
            · first | (rw [y] at eG7 xG7; have : v6 = -1 := eG7; rw [if_neg (by omega)]; first | exact xG7 | (exfalso; omega)) 
        · try dsimp only
          omega
    · skip
      refine w_rt ?_
      refine ⟨f3, ?_⟩
      unfold eRd; rw [show (tN T).toNat = v2.toNat by omega]; exact x3
  · try dsimp only
    refine ⟨?_, ?_, ?_, ?_⟩
    · first | omega | (subst_vars; first | rfl | assumption) | assumption
    · first | omega | (subst_vars; first | rfl | assumption) | assumption
    · exact FRM.rf b G
    · rw [hv1]; exact hR_G
  · try dsimp only
    omega

end MDE
