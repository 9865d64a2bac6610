section LOO
variable {b : Nat} {a : AS} {G : Hp} {T : TT}
theorem x_ownerIn (w : WT T) (hw : WA T a) (hA_G : XA 27 a G) (hT_G : XT T G) {p : Int} (hp : 0 ≤ p ∧ p ≤ 1000) : fX2_ownerOf 33 p (G 27 1) G = some (own T a.1 p, G) := by
  rw [hA_G.1]; exact x_ownerOf w hT_G hw.iN hp
theorem m_ownerOf (w : WT T) (hN : inN T a.1) (hb : b ≤ 3410) (hR_G : MR b a G) (hM_G : MT T G) {k : Int} (h1 : 0 ≤ k) (h2 : k < tK T) : fX12_ownerOf 111 b k G = some (own T a.1 (tl T k), G) := by
  have wr := w.rg
  have := w.li h1 h2
  unfold fX12_ownerOf
  rw [rf_111_20, show rd G 125 10 k = some (tl T k) from (rd_in (by omega) (by omega)).trans (congrArg some (hM_G.2.2.2.2.2 k (by omega) (by omega))), br_s, m_metFrom w hN hb hR_G hM_G (by omega), bp_s]; rfl
theorem x_astrayKeys (w : WT T) (hw : WA T a) (hA_G : XA 27 a G) (hT_G : XT T G) : fX2_astrayKeys 33 G = some (bits (fun k => hld a k ≠ -1 ∧ hld a k ≠ own T a.1 (tl T k)) (tK T).toNat, G) := by
  have wr := w.rg
  have k3 : G 4 3 = tK T := hT_G.2.2.2.1
  unfold fX2_astrayKeys
  simp only [rf_4_8, rf_33_0, rf_33_1]
  refine WP_eq ?_
  refine w_bd (fun v1 hv1 => ?_)
  refine w_bd (fun v2 hv2 => ?_)
  refine w_lpII (fun (v3 : Int) (v4 : Int) => (0 ≤ v4) ∧ (v4 ≤ tK T) ∧ (v3 = bits (fun k => hld a k ≠ -1 ∧ hld a k ≠ own T a.1 (tl T k)) v4.toNat)) (fun (v3 : Int) (v4 : Int) => (10 - v4).toNat) (fun rc5 v3 v4 hI hrc5 => ?_) _ _ ?_ ?_
  · skip
    obtain ⟨i0, i1, e⟩ := hI
    refine w_ite (fun c_1 => ?_) (fun c_1 => ?_)
    · skip
      refine w_bp (x_holderOf hA_G) (fun v6 hv6 => ?_)
      have qv6 := hw.hr v4
      refine w_bd (fun v7 hv7 => ?_)
      refine w_jn ?_
      refine w_ite (fun c_2 => ?_) (fun c_2 => ?_)
      · skip
        refine w_bd (fun v10 hv10 => ?_)
        simp (disch := omega) only [iadd_id, isub_id, imul_id] at hv10
        refine hrc5 _ _ ?_ ?_
        · try dsimp only
          refine ⟨?_, ?_, ?_⟩
          · first | omega | grind
          · first | omega | grind
          · first
            | (rw [hv10, bits_f (p := fun k => hld a k ≠ -1 ∧ hld a k ≠ own T a.1 (tl T k)) i0 (show ¬ (hld a v4 ≠ -1 ∧ hld a v4 ≠ own T a.1 (tl T v4)) by omega)]; exact e)
            | (rw [hv10, hv13, e]; exact bits_t (p := fun k => hld a k ≠ -1 ∧ hld a k ≠ own T a.1 (tl T k)) i0 (by omega) (show hld a v4 ≠ -1 ∧ hld a v4 ≠ own T a.1 (tl T v4) by omega))
            | (rw [hv10, hv13, e]; exact bits_f0 (p := fun k => hld a k ≠ -1 ∧ hld a k ≠ own T a.1 (tl T k)) i0 (by omega) (show ¬ (hld a v4 ≠ -1 ∧ hld a v4 ≠ own T a.1 (tl T v4)) by omega))
        · try dsimp only
          omega
      · skip
        refine w_rdv (x_lie hT_G w (by omega) (by omega)) (fun v11 hv11 => ?_)
        have qv11 := w.li (i := v4) (by omega) (by omega)
        refine w_bp (x_ownerIn w hw hA_G hT_G (p := v11) (by omega)) (fun v12 hv12 => ?_)
        have ev12 : v12 = own T a.1 v11 := hv12
        rw [hv11] at ev12
        refine w_ite (fun c_3 => ?_) (fun c_3 => ?_)
        · skip
          refine w_bd (fun v10 hv10 => ?_)
          simp (disch := omega) only [iadd_id, isub_id, imul_id] at hv10
          refine hrc5 _ _ ?_ ?_
          · try dsimp only
            refine ⟨?_, ?_, ?_⟩
            · first | omega | grind
            · first | omega | grind
            · first
              | (rw [hv10, bits_f (p := fun k => hld a k ≠ -1 ∧ hld a k ≠ own T a.1 (tl T k)) i0 (show ¬ (hld a v4 ≠ -1 ∧ hld a v4 ≠ own T a.1 (tl T v4)) by omega)]; exact e)
              | (rw [hv10, hv13, e]; exact bits_t (p := fun k => hld a k ≠ -1 ∧ hld a k ≠ own T a.1 (tl T k)) i0 (by omega) (show hld a v4 ≠ -1 ∧ hld a v4 ≠ own T a.1 (tl T v4) by omega))
              | (rw [hv10, hv13, e]; exact bits_f0 (p := fun k => hld a k ≠ -1 ∧ hld a k ≠ own T a.1 (tl T k)) i0 (by omega) (show ¬ (hld a v4 ≠ -1 ∧ hld a v4 ≠ own T a.1 (tl T v4)) by omega))
          · try dsimp only
            omega
        · skip
          refine w_bd (fun v13 hv13 => ?_)
          refine w_bd (fun v10 hv10 => ?_)
          simp (disch := omega) only [iadd_id, isub_id, imul_id] at hv10
          refine hrc5 _ _ ?_ ?_
          · try dsimp only
            refine ⟨?_, ?_, ?_⟩
            · first | omega | grind
            · first | omega | grind
            · first
              | (rw [hv10, bits_f (p := fun k => hld a k ≠ -1 ∧ hld a k ≠ own T a.1 (tl T k)) i0 (show ¬ (hld a v4 ≠ -1 ∧ hld a v4 ≠ own T a.1 (tl T v4)) by omega)]; exact e)
              | (rw [hv10, hv13, e]; exact bits_t (p := fun k => hld a k ≠ -1 ∧ hld a k ≠ own T a.1 (tl T k)) i0 (by omega) (show hld a v4 ≠ -1 ∧ hld a v4 ≠ own T a.1 (tl T v4) by omega))
              | (rw [hv10, hv13, e]; exact bits_f0 (p := fun k => hld a k ≠ -1 ∧ hld a k ≠ own T a.1 (tl T k)) i0 (by omega) (show ¬ (hld a v4 ≠ -1 ∧ hld a v4 ≠ own T a.1 (tl T v4)) by omega))
          · try dsimp only
            omega
    · skip
      refine w_rt ?_
      refine ⟨?_, rfl⟩
      rw [e, show v4.toNat = (tK T).toNat by omega]
  · try dsimp only
    refine ⟨?_, ?_, ?_⟩
    · first | omega | (subst_vars; first | rfl | assumption) | assumption
    · first | omega | (subst_vars; first | rfl | assumption) | assumption
    · first | omega | (subst_vars; first | rfl | assumption) | assumption
  · try dsimp only
    omega

theorem m_astrayBy (w : WT T) (hw : WA T a) (hb : b ≤ 3410) (hR_G : MR b a G) (hM_G : MT T G) : fX12_astrayBy 111 b G = some (bits (fun k => hld a k ≠ -1 ∧ hld a k ≠ own T a.1 (tl T k)) (tK T).toNat, G) := by
  have wr := w.rg
  unfold fX12_astrayBy
  refine WP_eq ?_
  refine w_bd (fun v1 hv1 => ?_)
  refine w_bd (fun v2 hv2 => ?_)
  refine w_lpII (fun (v3 : Int) (v4 : Int) => (0 ≤ v4) ∧ (v4 ≤ tK T) ∧ (v3 = bits (fun k => hld a k ≠ -1 ∧ hld a k ≠ own T a.1 (tl T k)) v4.toNat)) (fun (v3 : Int) (v4 : Int) => (10 - v4).toNat) (fun rc5 v3 v4 hI hrc5 => ?_) _ _ ?_ ?_
  · skip
    obtain ⟨i0, i1, e⟩ := hI
    refine w_bp (m_keys hM_G) (fun v6 hv6 => ?_)
    refine w_ite (fun c_1 => ?_) (fun c_1 => ?_)
    · skip
      refine w_bp (m_holderOf (b := b) hR_G (by omega) (by omega) (by omega)) (fun v7 hv7 => ?_)
      have qv7 := hw.hr v4
      refine w_bd (fun v8 hv8 => ?_)
      refine w_jn ?_
      refine w_jn ?_
      refine w_ite (fun c_2 => ?_) (fun c_2 => ?_)
      · skip
        refine w_bd (fun v11 hv11 => ?_)
        refine w_bd (fun v12 hv12 => ?_)
        simp (disch := omega) only [iadd_id, isub_id, imul_id] at hv12
        refine hrc5 _ _ ?_ ?_
        · try dsimp only
          refine ⟨?_, ?_, ?_⟩
          · first | omega | grind
          · first | omega | grind
          · first
            | (rw [hv12, bits_f (p := fun k => hld a k ≠ -1 ∧ hld a k ≠ own T a.1 (tl T k)) i0 (show ¬ (hld a v4 ≠ -1 ∧ hld a v4 ≠ own T a.1 (tl T v4)) by omega)]; exact e)
            | (rw [hv12, hv11, e]; exact bits_t (p := fun k => hld a k ≠ -1 ∧ hld a k ≠ own T a.1 (tl T k)) i0 (by omega) (show hld a v4 ≠ -1 ∧ hld a v4 ≠ own T a.1 (tl T v4) by omega))
            | (rw [hv12, hv11, e]; exact bits_f0 (p := fun k => hld a k ≠ -1 ∧ hld a k ≠ own T a.1 (tl T k)) i0 (by omega) (show ¬ (hld a v4 ≠ -1 ∧ hld a v4 ≠ own T a.1 (tl T v4)) by omega))
        · try dsimp only
          omega
      · skip
        refine w_bp (m_ownerOf w hw.iN (b := b) (by omega) hR_G hM_G (by omega) (by omega)) (fun v14 hv14 => ?_)
        refine w_ite (fun c_3 => ?_) (fun c_3 => ?_)
        · skip
          refine w_bd (fun v11 hv11 => ?_)
          refine w_bd (fun v12 hv12 => ?_)
          simp (disch := omega) only [iadd_id, isub_id, imul_id] at hv12
          refine hrc5 _ _ ?_ ?_
          · try dsimp only
            refine ⟨?_, ?_, ?_⟩
            · first | omega | grind
            · first | omega | grind
            · first
              | (rw [hv12, bits_f (p := fun k => hld a k ≠ -1 ∧ hld a k ≠ own T a.1 (tl T k)) i0 (show ¬ (hld a v4 ≠ -1 ∧ hld a v4 ≠ own T a.1 (tl T v4)) by omega)]; exact e)
              | (rw [hv12, hv11, e]; exact bits_t (p := fun k => hld a k ≠ -1 ∧ hld a k ≠ own T a.1 (tl T k)) i0 (by omega) (show hld a v4 ≠ -1 ∧ hld a v4 ≠ own T a.1 (tl T v4) by omega))
              | (rw [hv12, hv11, e]; exact bits_f0 (p := fun k => hld a k ≠ -1 ∧ hld a k ≠ own T a.1 (tl T k)) i0 (by omega) (show ¬ (hld a v4 ≠ -1 ∧ hld a v4 ≠ own T a.1 (tl T v4)) by omega))
          · try dsimp only
            omega
        · skip
          refine w_bd (fun v11 hv11 => ?_)
          refine w_bd (fun v12 hv12 => ?_)
          simp (disch := omega) only [iadd_id, isub_id, imul_id] at hv12
          refine hrc5 _ _ ?_ ?_
          · try dsimp only
            refine ⟨?_, ?_, ?_⟩
            · first | omega | grind
            · first | omega | grind
            · first
              | (rw [hv12, bits_f (p := fun k => hld a k ≠ -1 ∧ hld a k ≠ own T a.1 (tl T k)) i0 (show ¬ (hld a v4 ≠ -1 ∧ hld a v4 ≠ own T a.1 (tl T v4)) by omega)]; exact e)
              | (rw [hv12, hv11, e]; exact bits_t (p := fun k => hld a k ≠ -1 ∧ hld a k ≠ own T a.1 (tl T k)) i0 (by omega) (show hld a v4 ≠ -1 ∧ hld a v4 ≠ own T a.1 (tl T v4) by omega))
              | (rw [hv12, hv11, e]; exact bits_f0 (p := fun k => hld a k ≠ -1 ∧ hld a k ≠ own T a.1 (tl T k)) i0 (by omega) (show ¬ (hld a v4 ≠ -1 ∧ hld a v4 ≠ own T a.1 (tl T v4)) by omega))
          · try dsimp only
            omega
    · skip
      refine w_rt ?_
      refine ⟨?_, rfl⟩
      rw [e, show v4.toNat = (tK T).toNat by omega]
  · try dsimp only
    refine ⟨?_, ?_, ?_⟩
    · first | omega | (subst_vars; first | rfl | assumption) | assumption
    · first | omega | (subst_vars; first | rfl | assumption) | assumption
    · first | omega | (subst_vars; first | rfl | assumption) | assumption
  · try dsimp only
    omega

theorem x_lostKeys (w : WT T) (hw : WA T a) (hA_G : XA 27 a G) (hT_G : XT T G) : fX2_lostKeys 33 G = some (bits (fun k => hld a k = -1) (tK T).toNat, G) := by
  have wr := w.rg
  have k3 : G 4 3 = tK T := hT_G.2.2.2.1
  unfold fX2_lostKeys
  simp only [rf_33_0, rf_33_1]
  refine WP_eq ?_
  refine w_bd (fun v1 hv1 => ?_)
  refine w_bd (fun v2 hv2 => ?_)
  refine w_lpII (fun (v3 : Int) (v4 : Int) => (0 ≤ v4) ∧ (v4 ≤ tK T) ∧ (v3 = bits (fun k => hld a k = -1) v4.toNat)) (fun (v3 : Int) (v4 : Int) => (10 - v4).toNat) (fun rc5 v3 v4 hI hrc5 => ?_) _ _ ?_ ?_
  · skip
    obtain ⟨i0, i1, e⟩ := hI
    refine w_ite (fun c_1 => ?_) (fun c_1 => ?_)
    · skip
      refine w_bp (x_holderOf hA_G) (fun v6 hv6 => ?_)
      have qv6 := hw.hr v4
      refine w_jn ?_
      refine w_ite (fun c_2 => ?_) (fun c_2 => ?_)
      · skip
        refine w_bd (fun v10 hv10 => ?_)
        refine w_bd (fun v9 hv9 => ?_)
        simp (disch := omega) only [iadd_id, isub_id, imul_id] at hv9
        refine hrc5 _ _ ?_ ?_
        · try dsimp only
          refine ⟨?_, ?_, ?_⟩
          · first | omega | grind
          · first | omega | grind
          · first
            | (rw [hv9, bits_f (p := fun k => hld a k = -1) i0 (show ¬ (hld a v4 = -1) by omega)]; exact e)
            | (rw [hv9, hv10, e]; exact bits_t (p := fun k => hld a k = -1) i0 (by omega) (show hld a v4 = -1 by omega))
            | (rw [hv9, hv10, e]; exact bits_f0 (p := fun k => hld a k = -1) i0 (by omega) (show ¬ (hld a v4 = -1) by omega))
        · try dsimp only
          omega
      · skip
        refine w_bd (fun v9 hv9 => ?_)
        simp (disch := omega) only [iadd_id, isub_id, imul_id] at hv9
        refine hrc5 _ _ ?_ ?_
        · try dsimp only
          refine ⟨?_, ?_, ?_⟩
          · first | omega | grind
          · first | omega | grind
          · first
            | (rw [hv9, bits_f (p := fun k => hld a k = -1) i0 (show ¬ (hld a v4 = -1) by omega)]; exact e)
            | (rw [hv9, hv10, e]; exact bits_t (p := fun k => hld a k = -1) i0 (by omega) (show hld a v4 = -1 by omega))
            | (rw [hv9, hv10, e]; exact bits_f0 (p := fun k => hld a k = -1) i0 (by omega) (show ¬ (hld a v4 = -1) by omega))
        · try dsimp only
          omega
    · skip
      refine w_rt ?_
      refine ⟨?_, rfl⟩
      rw [e, show v4.toNat = (tK T).toNat by omega]
  · try dsimp only
    refine ⟨?_, ?_, ?_⟩
    · first | omega | (subst_vars; first | rfl | assumption) | assumption
    · first | omega | (subst_vars; first | rfl | assumption) | assumption
    · first | omega | (subst_vars; first | rfl | assumption) | assumption
  · try dsimp only
    omega

theorem x_ownedBy (w : WT T) (hw : WA T a) (hA_G : XA 27 a G) (hT_G : XT T G) {n : Int} : fX2_ownedBy 33 n G = some (bits (fun k => own T a.1 (tl T k) = n) (tK T).toNat, G) := by
  have wr := w.rg
  have k3 : G 4 3 = tK T := hT_G.2.2.2.1
  unfold fX2_ownedBy
  simp only [rf_4_8, rf_33_0, rf_33_1]
  refine WP_eq ?_
  refine w_bd (fun v1 hv1 => ?_)
  refine w_bd (fun v2 hv2 => ?_)
  refine w_lpII (fun (v3 : Int) (v4 : Int) => (0 ≤ v4) ∧ (v4 ≤ tK T) ∧ (v3 = bits (fun k => own T a.1 (tl T k) = n) v4.toNat)) (fun (v3 : Int) (v4 : Int) => (10 - v4).toNat) (fun rc5 v3 v4 hI hrc5 => ?_) _ _ ?_ ?_
  · skip
    obtain ⟨i0, i1, e⟩ := hI
    refine w_ite (fun c_1 => ?_) (fun c_1 => ?_)
    · skip
      refine w_rdv (x_lie hT_G w (by omega) (by omega)) (fun v6 hv6 => ?_)
      have qv6 := w.li (i := v4) (by omega) (by omega)
      refine w_bp (x_ownerIn w hw hA_G hT_G (p := v6) (by omega)) (fun v7 hv7 => ?_)
      have ev7 : v7 = own T a.1 v6 := hv7
      rw [hv6] at ev7
      refine w_jn ?_
      refine w_ite (fun c_2 => ?_) (fun c_2 => ?_)
      · skip
        refine w_bd (fun v11 hv11 => ?_)
        refine w_bd (fun v10 hv10 => ?_)
        simp (disch := omega) only [iadd_id, isub_id, imul_id] at hv10
        refine hrc5 _ _ ?_ ?_
        · try dsimp only
          refine ⟨?_, ?_, ?_⟩
          · first | omega | grind
          · first | omega | grind
          · first
            | (rw [hv10, bits_f (p := fun k => own T a.1 (tl T k) = n) i0 (show ¬ (own T a.1 (tl T v4) = n) by omega)]; exact e)
            | (rw [hv10, hv11, e]; exact bits_t (p := fun k => own T a.1 (tl T k) = n) i0 (by omega) (show own T a.1 (tl T v4) = n by omega))
            | (rw [hv10, hv11, e]; exact bits_f0 (p := fun k => own T a.1 (tl T k) = n) i0 (by omega) (show ¬ (own T a.1 (tl T v4) = n) by omega))
        · try dsimp only
          omega
      · skip
        refine w_bd (fun v10 hv10 => ?_)
        simp (disch := omega) only [iadd_id, isub_id, imul_id] at hv10
        refine hrc5 _ _ ?_ ?_
        · try dsimp only
          refine ⟨?_, ?_, ?_⟩
          · first | omega | grind
          · first | omega | grind
          · first
            | (rw [hv10, bits_f (p := fun k => own T a.1 (tl T k) = n) i0 (show ¬ (own T a.1 (tl T v4) = n) by omega)]; exact e)
            | (rw [hv10, hv11, e]; exact bits_t (p := fun k => own T a.1 (tl T k) = n) i0 (by omega) (show own T a.1 (tl T v4) = n by omega))
            | (rw [hv10, hv11, e]; exact bits_f0 (p := fun k => own T a.1 (tl T k) = n) i0 (by omega) (show ¬ (own T a.1 (tl T v4) = n) by omega))
        · try dsimp only
          omega
    · skip
      refine w_rt ?_
      refine ⟨?_, rfl⟩
      rw [e, show v4.toNat = (tK T).toNat by omega]
  · try dsimp only
    refine ⟨?_, ?_, ?_⟩
    · first | omega | (subst_vars; first | rfl | assumption) | assumption
    · first | omega | (subst_vars; first | rfl | assumption) | assumption
    · first | omega | (subst_vars; first | rfl | assumption) | assumption
  · try dsimp only
    omega

theorem m_isThere (w : WT T) (hw : WA T a) (hR_G : MR 0 a G) (hM_G : MT T G) {n : Int} : fX12_isThere 111 n G = some (isi a n, G) := by
  have wr := w.rg
  have ni := hw.inr (n := n)
  unfold fX12_isThere
  rw [m_isNode hM_G, bp_s]
  by_cases c : 0 ≤ n ∧ n < tN T
  · rw [if_pos c, if_neg (by decide), show (0 : Int) = ((0 : Nat) : Int) from rfl, m_isIn hR_G (by omega) (by omega), bp_s]
    rcases isi_01 a n with q | q <;> rw [q] <;> rfl
  · rw [if_neg c, if_pos rfl, show isi a n = 0 by omega]; rfl
theorem m_load (w : WT T) (hw : WA T a) (hR_G : MR 0 a G) (hM_G : MT T G) {n : Int} : WP (fX12_load 111 n G) (fun r G' => G' = up G 111 0 0 ∧ r = (if isi a n = 1 then bits (fun k => own T a.1 (tl T k) = n) (tK T).toNat else -1)) := by
  have wr := w.rg
  unfold fX12_load
  refine w_bh (fun G1 hG1 => ?_)
  have hR_G1 : MR 0 a G1 := hR_G.fr (by rw [hG1, up_ne (by decide)])
  have hM_G1 : MT T G1 := hM_G.fr (by rw [hG1, up_ne (by decide)]) (by rw [hG1, up_ne (by decide)])
  refine w_bp (m_isThere w hw hR_G1 hM_G1) (fun v2 hv2 => ?_)
  have q2 := hw.inr (n := n)
  refine w_ite (fun c_1 => ?_) (fun c_1 => ?_)
  · skip
    refine w_rt ?_
    exact ⟨hG1, by rw [if_neg (by omega)]⟩
  · skip
    refine w_bd (fun v3 hv3 => ?_)
    refine w_bd (fun v4 hv4 => ?_)
    refine w_lpII (fun (v5 : Int) (v6 : Int) => (0 ≤ v6) ∧ (v6 ≤ tK T) ∧ (v5 = bits (fun k => own T a.1 (tl T k) = n) v6.toNat)) (fun (v5 : Int) (v6 : Int) => (10 - v6).toNat) (fun rc7 v5 v6 hI hrc7 => ?_) _ _ ?_ ?_
    · skip
      obtain ⟨i0, i1, e⟩ := hI
      refine w_bp (m_keys hM_G1) (fun v8 hv8 => ?_)
      refine w_ite (fun c_2 => ?_) (fun c_2 => ?_)
      · skip
        refine w_bp (m_ownerOf w hw.iN (b := 0) (by omega) hR_G1 hM_G1 (by omega) (by omega)) (fun v9 hv9 => ?_)
        refine w_jn ?_
        refine w_ite (fun c_3 => ?_) (fun c_3 => ?_)
        · skip
          refine w_bd (fun v12 hv12 => ?_)
          refine w_bd (fun v13 hv13 => ?_)
          simp (disch := omega) only [iadd_id, isub_id, imul_id] at hv13
          refine hrc7 _ _ ?_ ?_
          · try dsimp only
            refine ⟨?_, ?_, ?_⟩
            · first | omega | grind
            · first | omega | grind
            · first
              | (rw [hv13, bits_f (p := fun k => own T a.1 (tl T k) = n) i0 (show ¬ (own T a.1 (tl T v6) = n) by omega)]; exact e)
              | (rw [hv13, hv12, e]; exact bits_t (p := fun k => own T a.1 (tl T k) = n) i0 (by omega) (show own T a.1 (tl T v6) = n by omega))
              | (rw [hv13, hv12, e]; exact bits_f0 (p := fun k => own T a.1 (tl T k) = n) i0 (by omega) (show ¬ (own T a.1 (tl T v6) = n) by omega))
          · try dsimp only
            omega
        · skip
          refine w_bd (fun v12 hv12 => ?_)
          refine w_bd (fun v13 hv13 => ?_)
          simp (disch := omega) only [iadd_id, isub_id, imul_id] at hv13
          refine hrc7 _ _ ?_ ?_
          · try dsimp only
            refine ⟨?_, ?_, ?_⟩
            · first | omega | grind
            · first | omega | grind
            · first
              | (rw [hv13, bits_f (p := fun k => own T a.1 (tl T k) = n) i0 (show ¬ (own T a.1 (tl T v6) = n) by omega)]; exact e)
              | (rw [hv13, hv12, e]; exact bits_t (p := fun k => own T a.1 (tl T k) = n) i0 (by omega) (show own T a.1 (tl T v6) = n by omega))
              | (rw [hv13, hv12, e]; exact bits_f0 (p := fun k => own T a.1 (tl T k) = n) i0 (by omega) (show ¬ (own T a.1 (tl T v6) = n) by omega))
          · try dsimp only
            omega
      · skip
        refine w_rt ?_
        exact ⟨hG1, by rw [if_pos (by omega), e, show v6.toNat = (tK T).toNat by omega]⟩
    · try dsimp only
      refine ⟨?_, ?_, ?_⟩
      · first | omega | (subst_vars; first | rfl | assumption) | assumption
      · first | omega | (subst_vars; first | rfl | assumption) | assumption
      · first | omega | (subst_vars; first | rfl | assumption) | assumption
    · try dsimp only
      omega

theorem x_wrongFingers (w : WT T) (hw : WA T a) (hA_G : XA 27 a G) (hT_G : XT T G) {n : Int} (hn : isi a n = 1) : fX2_wrongFingers 33 n G = some (bits (fun k => 2 ^ (k).toNat < tC T ∧ fng a n k ≠ own T a.1 (fp T n k)) 8, G) := by
  have wr := w.rg
  have ni := hw.inr (n := n)
  unfold fX2_wrongFingers
  simp only [rf_33_0, rf_33_1]
  refine WP_eq ?_
  refine w_bd (fun v1 hv1 => ?_)
  refine w_bd (fun v2 hv2 => ?_)
  refine w_lpII (fun (v3 : Int) (v4 : Int) => (0 ≤ v4) ∧ (v4 ≤ 8) ∧ (v3 = bits (fun k => 2 ^ (k).toNat < tC T ∧ fng a n k ≠ own T a.1 (fp T n k)) v4.toNat)) (fun (v3 : Int) (v4 : Int) => (8 - v4).toNat) (fun rc5 v3 v4 hI hrc5 => ?_) _ _ ?_ ?_
  · skip
    obtain ⟨i0, i1, e⟩ := hI
    refine w_ite (fun c_1 => ?_) (fun c_1 => ?_)
    · skip
      refine w_bp (x_fingerPlace hT_G w (by omega) (by omega) (by omega) (by omega)) (fun v6 hv6 => ?_)
      have c6 : (2 ^ v4.toNat < tC T ∧ v6 = fp T n v4) ∨ (¬ 2 ^ v4.toNat < tC T ∧ v6 = -1) := by
        by_cases z : 2 ^ v4.toNat < tC T
        · left; rw [if_pos z] at hv6; exact ⟨z, hv6⟩
        · right; rw [if_neg z] at hv6; exact ⟨z, hv6⟩
      have fr6 := fp_r w (n := n) (i := v4) (by omega) (by omega) (by omega)
      refine w_bd (fun v7 hv7 => ?_)
      refine w_jn ?_
      refine w_ite (fun c_2 => ?_) (fun c_2 => ?_)
      · skip
        have z0 : ¬ 2 ^ v4.toNat < tC T := by
          rcases c6 with z | z
          · have := fr6 z.1; omega
          · exact z.1
        refine w_bd (fun v10 hv10 => ?_)
        simp (disch := omega) only [iadd_id, isub_id, imul_id] at hv10
        refine hrc5 _ _ ?_ ?_
        · try dsimp only
          refine ⟨?_, ?_, ?_⟩
          · first | omega | grind
          · first | omega | grind
          · first
            | (rw [hv10, bits_f (p := fun k => 2 ^ (k).toNat < tC T ∧ fng a n k ≠ own T a.1 (fp T n k)) i0 (show ¬ (2 ^ (v4).toNat < tC T ∧ fng a n v4 ≠ own T a.1 (fp T n v4)) by first | (refine ⟨by first | exact z1 | assumption, ?_⟩; omega) | (rintro ⟨y1, y2⟩; first | exact z0 y1 | omega))]; exact e)
            | (rw [hv10, hv13, e]; exact bits_t (p := fun k => 2 ^ (k).toNat < tC T ∧ fng a n k ≠ own T a.1 (fp T n k)) i0 (by omega) (show 2 ^ (v4).toNat < tC T ∧ fng a n v4 ≠ own T a.1 (fp T n v4) by first | (refine ⟨by first | exact z1 | assumption, ?_⟩; omega) | (rintro ⟨y1, y2⟩; first | exact z0 y1 | omega)))
            | (rw [hv10, hv13, e]; exact bits_f0 (p := fun k => 2 ^ (k).toNat < tC T ∧ fng a n k ≠ own T a.1 (fp T n k)) i0 (by omega) (show ¬ (2 ^ (v4).toNat < tC T ∧ fng a n v4 ≠ own T a.1 (fp T n v4)) by first | (refine ⟨by first | exact z1 | assumption, ?_⟩; omega) | (rintro ⟨y1, y2⟩; first | exact z0 y1 | omega)))
        · try dsimp only
          omega
      · skip
        have z1 : 2 ^ v4.toNat < tC T := by
          rcases c6 with z | z
          · exact z.1
          · omega
        have e7 : v7 = fp T n v4 := by omega
        have fr7 := fr6 z1
        refine w_bp (x_fingerAt hA_G) (fun v11 hv11 => ?_)
        have qv11 := hw.fr n v4
        refine w_bp (x_ownerIn w hw hA_G hT_G (p := v7) (by omega)) (fun v12 hv12 => ?_)
        have ev12 : v12 = own T a.1 v7 := hv12
        rw [e7] at ev12
        refine w_ite (fun c_3 => ?_) (fun c_3 => ?_)
        · skip
          refine w_bd (fun v10 hv10 => ?_)
          simp (disch := omega) only [iadd_id, isub_id, imul_id] at hv10
          refine hrc5 _ _ ?_ ?_
          · try dsimp only
            refine ⟨?_, ?_, ?_⟩
            · first | omega | grind
            · first | omega | grind
            · first
              | (rw [hv10, bits_f (p := fun k => 2 ^ (k).toNat < tC T ∧ fng a n k ≠ own T a.1 (fp T n k)) i0 (show ¬ (2 ^ (v4).toNat < tC T ∧ fng a n v4 ≠ own T a.1 (fp T n v4)) by first | (refine ⟨by first | exact z1 | assumption, ?_⟩; omega) | (rintro ⟨y1, y2⟩; first | exact z0 y1 | omega))]; exact e)
              | (rw [hv10, hv13, e]; exact bits_t (p := fun k => 2 ^ (k).toNat < tC T ∧ fng a n k ≠ own T a.1 (fp T n k)) i0 (by omega) (show 2 ^ (v4).toNat < tC T ∧ fng a n v4 ≠ own T a.1 (fp T n v4) by first | (refine ⟨by first | exact z1 | assumption, ?_⟩; omega) | (rintro ⟨y1, y2⟩; first | exact z0 y1 | omega)))
              | (rw [hv10, hv13, e]; exact bits_f0 (p := fun k => 2 ^ (k).toNat < tC T ∧ fng a n k ≠ own T a.1 (fp T n k)) i0 (by omega) (show ¬ (2 ^ (v4).toNat < tC T ∧ fng a n v4 ≠ own T a.1 (fp T n v4)) by first | (refine ⟨by first | exact z1 | assumption, ?_⟩; omega) | (rintro ⟨y1, y2⟩; first | exact z0 y1 | omega)))
          · try dsimp only
            omega
        · skip
          refine w_bd (fun v13 hv13 => ?_)
          refine w_bd (fun v10 hv10 => ?_)
          simp (disch := omega) only [iadd_id, isub_id, imul_id] at hv10
          refine hrc5 _ _ ?_ ?_
          · try dsimp only
            refine ⟨?_, ?_, ?_⟩
            · first | omega | grind
            · first | omega | grind
            · first
              | (rw [hv10, bits_f (p := fun k => 2 ^ (k).toNat < tC T ∧ fng a n k ≠ own T a.1 (fp T n k)) i0 (show ¬ (2 ^ (v4).toNat < tC T ∧ fng a n v4 ≠ own T a.1 (fp T n v4)) by first | (refine ⟨by first | exact z1 | assumption, ?_⟩; omega) | (rintro ⟨y1, y2⟩; first | exact z0 y1 | omega))]; exact e)
              | (rw [hv10, hv13, e]; exact bits_t (p := fun k => 2 ^ (k).toNat < tC T ∧ fng a n k ≠ own T a.1 (fp T n k)) i0 (by omega) (show 2 ^ (v4).toNat < tC T ∧ fng a n v4 ≠ own T a.1 (fp T n v4) by first | (refine ⟨by first | exact z1 | assumption, ?_⟩; omega) | (rintro ⟨y1, y2⟩; first | exact z0 y1 | omega)))
              | (rw [hv10, hv13, e]; exact bits_f0 (p := fun k => 2 ^ (k).toNat < tC T ∧ fng a n k ≠ own T a.1 (fp T n k)) i0 (by omega) (show ¬ (2 ^ (v4).toNat < tC T ∧ fng a n v4 ≠ own T a.1 (fp T n v4)) by first | (refine ⟨by first | exact z1 | assumption, ?_⟩; omega) | (rintro ⟨y1, y2⟩; first | exact z0 y1 | omega)))
          · try dsimp only
            omega
    · skip
      refine w_rt ?_
      refine ⟨?_, rfl⟩
      rw [e, show v4.toNat = 8 by omega]
  · try dsimp only
    refine ⟨?_, ?_, ?_⟩
    · first | omega | (subst_vars; first | rfl | assumption) | assumption
    · first | omega | (subst_vars; first | rfl | assumption) | assumption
    · first | omega | (subst_vars; first | rfl | assumption) | assumption
  · try dsimp only
    omega

theorem m_wrongs (w : WT T) (hw : WA T a) (hR_G : MR 0 a G) (hM_G : MT T G) {n : Int} : WP (fX12_wrongs 111 n G) (fun r G' => G' = up G 111 0 0 ∧ r = (if isi a n = 1 then bits (fun k => 2 ^ (k).toNat < tC T ∧ fng a n k ≠ own T a.1 (fp T n k)) 8 else -1)) := by
  have wr := w.rg
  unfold fX12_wrongs
  refine w_bh (fun G1 hG1 => ?_)
  have hR_G1 : MR 0 a G1 := hR_G.fr (by rw [hG1, up_ne (by decide)])
  have hM_G1 : MT T G1 := hM_G.fr (by rw [hG1, up_ne (by decide)]) (by rw [hG1, up_ne (by decide)])
  refine w_bp (m_isThere w hw hR_G1 hM_G1) (fun v2 hv2 => ?_)
  have q2 := hw.inr (n := n)
  refine w_ite (fun c_1 => ?_) (fun c_1 => ?_)
  · skip
    refine w_rt ?_
    exact ⟨hG1, by rw [if_neg (by omega)]⟩
  · skip
    refine w_bd (fun v3 hv3 => ?_)
    refine w_bd (fun v4 hv4 => ?_)
    refine w_lpII (fun (v5 : Int) (v6 : Int) => (0 ≤ v6) ∧ (v6 ≤ 8) ∧ (v5 = bits (fun k => 2 ^ (k).toNat < tC T ∧ fng a n k ≠ own T a.1 (fp T n k)) v6.toNat)) (fun (v5 : Int) (v6 : Int) => (8 - v6).toNat) (fun rc7 v5 v6 hI hrc7 => ?_) _ _ ?_ ?_
    · skip
      obtain ⟨i0, i1, e⟩ := hI
      refine w_ite (fun c_2 => ?_) (fun c_2 => ?_)
      · skip
        refine w_bp (m_hasFinger hM_G1 w) (fun v8 hv8 => ?_)
        have c8 : ((0 ≤ v6 ∧ v6 < 8 ∧ 2 ^ v6.toNat < tC T) ∧ v8 = 1) ∨ (¬ (0 ≤ v6 ∧ v6 < 8 ∧ 2 ^ v6.toNat < tC T) ∧ v8 = 0) := by rw [hv8]; exact ite01 _
        refine w_jn ?_
        refine w_jn ?_
        refine w_ite (fun c_3 => ?_) (fun c_3 => ?_)
        · skip
          have z0 : ¬ 2 ^ v6.toNat < tC T := fun z => by
            rcases c8 with y | y
            · omega
            · exact y.1 ⟨i0, by omega, z⟩
          refine w_bd (fun v11 hv11 => ?_)
          refine w_bd (fun v12 hv12 => ?_)
          simp (disch := omega) only [iadd_id, isub_id, imul_id] at hv12
          refine hrc7 _ _ ?_ ?_
          · try dsimp only
            refine ⟨?_, ?_, ?_⟩
            · first | omega | grind
            · first | omega | grind
            · first
              | (rw [hv12, bits_f (p := fun k => 2 ^ (k).toNat < tC T ∧ fng a n k ≠ own T a.1 (fp T n k)) i0 (show ¬ (2 ^ (v6).toNat < tC T ∧ fng a n v6 ≠ own T a.1 (fp T n v6)) by first | (refine ⟨by first | exact z1 | assumption, ?_⟩; omega) | (rintro ⟨y1, y2⟩; first | exact z0 y1 | omega))]; exact e)
              | (rw [hv12, hv11, e]; exact bits_t (p := fun k => 2 ^ (k).toNat < tC T ∧ fng a n k ≠ own T a.1 (fp T n k)) i0 (by omega) (show 2 ^ (v6).toNat < tC T ∧ fng a n v6 ≠ own T a.1 (fp T n v6) by first | (refine ⟨by first | exact z1 | assumption, ?_⟩; omega) | (rintro ⟨y1, y2⟩; first | exact z0 y1 | omega)))
              | (rw [hv12, hv11, e]; exact bits_f0 (p := fun k => 2 ^ (k).toNat < tC T ∧ fng a n k ≠ own T a.1 (fp T n k)) i0 (by omega) (show ¬ (2 ^ (v6).toNat < tC T ∧ fng a n v6 ≠ own T a.1 (fp T n v6)) by first | (refine ⟨by first | exact z1 | assumption, ?_⟩; omega) | (rintro ⟨y1, y2⟩; first | exact z0 y1 | omega)))
          · try dsimp only
            omega
        · skip
          have z1 : 2 ^ v6.toNat < tC T := by
            rcases c8 with y | y
            · exact y.1.2.2
            · omega
          refine w_bp (m_fingerOf (b := 0) hR_G1 (by omega) (by omega) (by omega) (by omega) (by omega)) (fun v14 hv14 => ?_)
          have qv14 := hw.fr n v6
          refine w_bp (m_fingerPlace hM_G1 w (by omega) (by omega) (by omega) (by omega) z1) (fun v15 hv15 => ?_)
          have fr7 := fp_r w (n := n) (i := v6) (by omega) (by omega) (by omega) z1
          refine w_bp (m_metFrom w hw.iN (b := 0) (by omega) hR_G1 hM_G1 (p := v15) (by omega)) (fun v16 hv16 => ?_)
          rw [hv15] at hv16
          refine w_ite (fun c_4 => ?_) (fun c_4 => ?_)
          · skip
            refine w_bd (fun v11 hv11 => ?_)
            refine w_bd (fun v12 hv12 => ?_)
            simp (disch := omega) only [iadd_id, isub_id, imul_id] at hv12
            refine hrc7 _ _ ?_ ?_
            · try dsimp only
              refine ⟨?_, ?_, ?_⟩
              · first | omega | grind
              · first | omega | grind
              · first
                | (rw [hv12, bits_f (p := fun k => 2 ^ (k).toNat < tC T ∧ fng a n k ≠ own T a.1 (fp T n k)) i0 (show ¬ (2 ^ (v6).toNat < tC T ∧ fng a n v6 ≠ own T a.1 (fp T n v6)) by first | (refine ⟨by first | exact z1 | assumption, ?_⟩; omega) | (rintro ⟨y1, y2⟩; first | exact z0 y1 | omega))]; exact e)
                | (rw [hv12, hv11, e]; exact bits_t (p := fun k => 2 ^ (k).toNat < tC T ∧ fng a n k ≠ own T a.1 (fp T n k)) i0 (by omega) (show 2 ^ (v6).toNat < tC T ∧ fng a n v6 ≠ own T a.1 (fp T n v6) by first | (refine ⟨by first | exact z1 | assumption, ?_⟩; omega) | (rintro ⟨y1, y2⟩; first | exact z0 y1 | omega)))
                | (rw [hv12, hv11, e]; exact bits_f0 (p := fun k => 2 ^ (k).toNat < tC T ∧ fng a n k ≠ own T a.1 (fp T n k)) i0 (by omega) (show ¬ (2 ^ (v6).toNat < tC T ∧ fng a n v6 ≠ own T a.1 (fp T n v6)) by first | (refine ⟨by first | exact z1 | assumption, ?_⟩; omega) | (rintro ⟨y1, y2⟩; first | exact z0 y1 | omega)))
            · try dsimp only
              omega
          · skip
            refine w_bd (fun v11 hv11 => ?_)
            refine w_bd (fun v12 hv12 => ?_)
            simp (disch := omega) only [iadd_id, isub_id, imul_id] at hv12
            refine hrc7 _ _ ?_ ?_
            · try dsimp only
              refine ⟨?_, ?_, ?_⟩
              · first | omega | grind
              · first | omega | grind
              · first
                | (rw [hv12, bits_f (p := fun k => 2 ^ (k).toNat < tC T ∧ fng a n k ≠ own T a.1 (fp T n k)) i0 (show ¬ (2 ^ (v6).toNat < tC T ∧ fng a n v6 ≠ own T a.1 (fp T n v6)) by first | (refine ⟨by first | exact z1 | assumption, ?_⟩; omega) | (rintro ⟨y1, y2⟩; first | exact z0 y1 | omega))]; exact e)
                | (rw [hv12, hv11, e]; exact bits_t (p := fun k => 2 ^ (k).toNat < tC T ∧ fng a n k ≠ own T a.1 (fp T n k)) i0 (by omega) (show 2 ^ (v6).toNat < tC T ∧ fng a n v6 ≠ own T a.1 (fp T n v6) by first | (refine ⟨by first | exact z1 | assumption, ?_⟩; omega) | (rintro ⟨y1, y2⟩; first | exact z0 y1 | omega)))
                | (rw [hv12, hv11, e]; exact bits_f0 (p := fun k => 2 ^ (k).toNat < tC T ∧ fng a n k ≠ own T a.1 (fp T n k)) i0 (by omega) (show ¬ (2 ^ (v6).toNat < tC T ∧ fng a n v6 ≠ own T a.1 (fp T n v6)) by first | (refine ⟨by first | exact z1 | assumption, ?_⟩; omega) | (rintro ⟨y1, y2⟩; first | exact z0 y1 | omega)))
            · try dsimp only
              omega
      · skip
        refine w_rt ?_
        exact ⟨hG1, by rw [if_pos (by omega), e, show v6.toNat = 8 by omega]⟩
    · try dsimp only
      refine ⟨?_, ?_, ?_⟩
      · first | omega | (subst_vars; first | rfl | assumption) | assumption
      · first | omega | (subst_vars; first | rfl | assumption) | assumption
      · first | omega | (subst_vars; first | rfl | assumption) | assumption
    · try dsimp only
      omega

end LOO
