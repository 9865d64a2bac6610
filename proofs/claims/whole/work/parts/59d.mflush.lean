section LIS
variable {b : Nat} {a : AS} {G : Hp} {T : TT}
theorem m_flushed (w : WT T) (hw : WA T a) (hb : b ≤ 3410) (hR_G : MR b a G) (hM_G : MT T G) {n : Int} (h2 : n < tN T) : WP (fX12_flushed 111 b n G) (fun r G' => FRM b G G' ∧ ((isi a n = 1 ∧ r = gFl a n ∧ MR b (dFl a n) G') ∨ (isi a n = 0 ∧ r = -1 ∧ G' = G))) := by
  have wr := w.rg
  have ll := llen_rng a n
  unfold fX12_flushed
  simp only [rf_111_17, rf_111_23]
  refine w_bp (m_isIn (b := b) hR_G (by omega) (by omega)) (fun v1 hv1 => ?_)
  have ev1 : v1 = isi a n := hv1
  have qv1 := hw.inr (n := n)
  refine w_ite (fun c_1 => ?_) (fun c_1 => ?_)
  · skip
    refine w_rt ?_
    refine ⟨FRM.rf b G, Or.inr ⟨by omega, rfl, rfl⟩⟩
  · skip
    refine w_bd (fun v2 hv2 => ?_)
    refine w_bd (fun v3 hv3 => ?_)
    refine w_bd (fun v4 hv4 => ?_)
    refine w_lpIIIH (fun (v5 : Int) (v6 : Int) (v7 : Int) (G8 : Hp) => (0 ≤ v7) ∧ (v7 ≤ llen a n) ∧ (∀ c, c ≠ 127 → G8 c = G c) ∧ (v6 = (flS a n v7.toNat).1) ∧ (v5 = (flS a n v7.toNat).2.1) ∧ (∀ k : Int, 0 ≤ k → k < v6 → G8 127 k.toNat = (flS a n v7.toNat).2.2 k)) (fun (v5 : Int) (v6 : Int) (v7 : Int) (G8 : Hp) => (4 - v7).toNat) (fun rc9 v5 v6 v7 G8 hI hrc9 => ?_) _ _ _ _ ?_ ?_
    · skip
      obtain ⟨i0, i1, f8, e6, e5, r8⟩ := hI
      have J := flS_J hw (n := n) v7.toNat
      rw [Int.toNat_of_nonneg i0] at J
      have j1 := J.1
      have j2 := J.2.1
      have j3 := J.2.2.1
      have j4 := J.2.2.2.1
      have hR_G8 : MR b a G8 := hR_G.fr (f8 123 (by decide))
      have hM_G8 : MT T G8 := hM_G.fr (f8 117 (by decide)) (f8 125 (by decide))
      have ol := llen_in (a := a) (n := n) (k := v7) i0
      refine w_bp (m_longOf (b := b) hR_G8 (by omega) (by omega) (by omega)) (fun v10 hv10 => ?_)
      have qv10 := llen_rng a n
      refine w_ite (fun c_2 => ?_) (fun c_2 => ?_)
      · skip
        refine w_bp (m_listedOf (b := b) hR_G8 (by omega) (by omega) (by omega) (by omega) (by omega)) (fun v35 hv35 => ?_)
        have qv35 := hw.lr n v7
        refine w_bd (fun v36 hv36 => ?_)
        refine w_bp (m_isIn (b := b) hR_G8 (by omega) (by omega)) (fun v37 hv37 => ?_)
        have ev37 : v37 = isi a v36 := hv37
        have qv37 := hw.inr (n := v36)
        refine w_jn ?_
        refine w_ite (fun c_3 => ?_) (fun c_3 => ?_)
        · skip
          refine w_bd (fun v43 hv43 => ?_)
          simp (disch := omega) only [iadd_id, isub_id, imul_id] at hv43
          refine w_bd (fun v42 hv42 => ?_)
          simp (disch := omega) only [iadd_id, isub_id, imul_id] at hv42
          refine hrc9 _ _ _ _ ?_ ?_
          · try dsimp only
            refine ⟨?_, ?_, ?_, ?_, ?_, ?_⟩
            · first | omega | grind
            · first | omega | grind
            · first | exact f8 | (intro c x; rw [hG44, up_ne x]; exact f8 c x)
            · rw [hv42, flS_s i0]; grind
            · rw [hv42, flS_s i0]; grind
            · intro k k1 k2
              rw [hv42, flS_s i0]
              first
              | (rw [if_neg (by rw [← hv35, ← hv36]; omega), if_neg (by omega)]; exact r8 k k1 k2)
              | (rw [if_pos (by rw [← hv35, ← hv36]; omega)]
                 show G44 127 k.toNat = if k = (flS a n v7.toNat).1 then lst a n v7 else (flS a n v7.toNat).2.2 k
                 rw [hG44, up_at, ← e6]
                 by_cases e : k = v6
                 · rw [if_pos ⟨rfl, by omega⟩, if_pos e]; omega
                 · rw [if_neg (by omega), if_neg e]; exact r8 k k1 (by omega))
          · try dsimp only
            omega
        · skip
          refine w_wr (by omega) (by omega) (fun G44 hG44 => ?_)
          refine w_bd (fun v45 hv45 => ?_)
          simp (disch := omega) only [iadd_id, isub_id, imul_id] at hv45
          refine w_bd (fun v42 hv42 => ?_)
          simp (disch := omega) only [iadd_id, isub_id, imul_id] at hv42
          refine hrc9 _ _ _ _ ?_ ?_
          · try dsimp only
            refine ⟨?_, ?_, ?_, ?_, ?_, ?_⟩
            · first | omega | grind
            · first | omega | grind
            · first | exact f8 | (intro c x; rw [hG44, up_ne x]; exact f8 c x)
            · rw [hv42, flS_s i0]; grind
            · rw [hv42, flS_s i0]; grind
            · intro k k1 k2
              rw [hv42, flS_s i0]
              first
              | (rw [if_neg (by rw [← hv35, ← hv36]; omega), if_neg (by omega)]; exact r8 k k1 k2)
              | (rw [if_pos (by rw [← hv35, ← hv36]; omega)]
                 show G44 127 k.toNat = if k = (flS a n v7.toNat).1 then lst a n v7 else (flS a n v7.toNat).2.2 k
                 rw [hG44, up_at, ← e6]
                 by_cases e : k = v6
                 · rw [if_pos ⟨rfl, by omega⟩, if_pos e]; omega
                 · rw [if_neg (by omega), if_neg e]; exact r8 k k1 (by omega))
          · try dsimp only
            omega
      · skip
        have e4' : flS a n 4 = flS a n v7.toNat := flS_out hw (by omega) (by have := llen_rng a n; omega)
        refine w_bn (m_listIs hb hR_G8 (n := n) (by omega) (by omega) (m := v6) (by omega) (by omega) (l := fl a n) (fun k k1 k2 => ⟨by unfold fl; rw [e4']; have := J.2.2.2.2.1 k k1 (by omega); omega, by unfold fl; rw [e4']; exact r8 k k1 k2⟩) (fun k k1 => by unfold fl; rw [e4']; exact J.2.2.2.2.2.1 k (Or.inr (by omega)))) (fun _ G11 q11 => ?_)
        obtain ⟨f11, g11, x11⟩ := q11
        refine w_bd (fun v12 hv12 => ?_)
        refine w_lpIIH (fun (v13 : Int) (v14 : Int) (G15 : Hp) => (0 ≤ v14) ∧ (v14 ≤ 8) ∧ (∀ c, c ≠ 123 → G15 c = G8 c) ∧ (∀ i, i < b ∨ b + 130 ≤ i → G15 123 i = G 123 i) ∧ (v13 = (flS a n 4).2.1 + cnt (fg a n) v14.toNat) ∧ (MR b (dF (dLs a n (fl a n)) n (fun k => if k < v14 then ff a n k else fng a n k)) G15)) (fun (v13 : Int) (v14 : Int) (G15 : Hp) => (8 - v14).toNat) (fun rc16 v13 v14 G15 hI hrc16 => ?_) _ _ _ ?_ ?_
        · skip
          obtain ⟨k0, k1, f15, g15, e13, x15⟩ := hI
          have k3 := cnt_r (fg a n) v14.toNat
          have J4 := flS_J hw (n := n) 4
          obtain ⟨-, -, k4, k5, -⟩ := J4
          have ct := cnt_t (p := fg a n) (i := v14) k0
          have cf := cnt_f (p := fg a n) (i := v14) k0
          have fgd : fg a n v14 ↔ fng a n v14 ≠ -1 ∧ isi a (fng a n v14) = 0 := Iff.rfl
          have ffd : ff a n v14 = if isi a (fng a n v14) = 1 then fng a n v14 else -1 := rfl
          refine w_ite (fun c_4 => ?_) (fun c_4 => ?_)
          · skip
            refine w_bp (m_fingerOf (b := b) x15 (by omega) (by omega) (by omega) (by omega) (by omega)) (fun v22 hv22 => ?_)
            have e22 : v22 = fng a n v14 := by rw [hv22, dF_fng, dLs_fng]; grind
            have q22 := hw.fr n v14
            refine w_bd (fun v23 hv23 => ?_)
            refine w_jn ?_
            refine w_jn ?_
            refine w_ite (fun c_5 => ?_) (fun c_5 => ?_)
            · skip
              refine w_bd (fun v26 hv26 => ?_)
              simp (disch := omega) only [iadd_id, isub_id, imul_id] at hv26
              refine w_bp (m_isIn (b := b) x15 (by omega) (by omega)) (fun v27 hv27 => ?_)
              have ev27 : v27 = isi a v23 := hv27
              have qv27 := hw.inr (n := v23)
              refine w_jn ?_
              refine w_ite (fun c_6 => ?_) (fun c_6 => ?_)
              · skip
                try rw [show iadd (iadd (iadd b (imul 15 n)) 7) v14 = (((b + (15 * n)) + 7) + v14) by simp (disch := omega) only [iadd_id, isub_id, imul_id]]
                refine w_wr (by omega) (by omega) (fun G30 hG30 => ?_)
                refine w_bd (fun v31 hv31 => ?_)
                simp (disch := omega) only [iadd_id, isub_id, imul_id] at hv31
                refine hrc16 _ _ _ ?_ ?_
                · try dsimp only
                  refine ⟨?_, ?_, ?_, ?_, ?_, ?_⟩
                  · first | omega | grind
                  · first | omega | grind
                  · intro c x; rw [hG30, up_ne x]; exact f15 c x
                  · intro i x; rw [hG30, up_at, if_neg (by omega)]; exact g15 i x
                  · first | (rw [hv31, cf (by rw [fgd, ← e22, ← hv23]; omega)]; omega) | (rw [hv31, ct (by rw [fgd, ← e22, ← hv23]; omega)]; omega)
                  · rw [hG30]; refine (MR_F x15 (n := n) (by omega) (by omega) k0 (by omega)).cg (AE_FF (fun k k1 k2 => ?_)); rw [dF_fng]; grind
                · try dsimp only
                  omega
              · skip
                try rw [show iadd (iadd (iadd b (imul 15 n)) 7) v14 = (((b + (15 * n)) + 7) + v14) by simp (disch := omega) only [iadd_id, isub_id, imul_id]]
                refine w_wr (by omega) (by omega) (fun G30 hG30 => ?_)
                refine w_bd (fun v31 hv31 => ?_)
                simp (disch := omega) only [iadd_id, isub_id, imul_id] at hv31
                refine hrc16 _ _ _ ?_ ?_
                · try dsimp only
                  refine ⟨?_, ?_, ?_, ?_, ?_, ?_⟩
                  · first | omega | grind
                  · first | omega | grind
                  · intro c x; rw [hG30, up_ne x]; exact f15 c x
                  · intro i x; rw [hG30, up_at, if_neg (by omega)]; exact g15 i x
                  · first | (rw [hv31, cf (by rw [fgd, ← e22, ← hv23]; omega)]; omega) | (rw [hv31, ct (by rw [fgd, ← e22, ← hv23]; omega)]; omega)
                  · rw [hG30]; refine (MR_F x15 (n := n) (by omega) (by omega) k0 (by omega)).cg (AE_FF (fun k k1 k2 => ?_)); rw [dF_fng]; grind
                · try dsimp only
                  omega
            · skip
              refine w_bp (m_isIn (b := b) x15 (by omega) (by omega)) (fun v33 hv33 => ?_)
              have ev33 : v33 = isi a v23 := hv33
              have qv33 := hw.inr (n := v23)
              refine w_ite (fun c_7 => ?_) (fun c_7 => ?_)
              · skip
                refine w_bd (fun v26 hv26 => ?_)
                simp (disch := omega) only [iadd_id, isub_id, imul_id] at hv26
                refine w_bp (m_isIn (b := b) x15 (by omega) (by omega)) (fun v27 hv27 => ?_)
                have ev27 : v27 = isi a v23 := hv27
                have qv27 := hw.inr (n := v23)
                refine w_jn ?_
                refine w_ite (fun c_8 => ?_) (fun c_8 => ?_)
                · skip
                  try rw [show iadd (iadd (iadd b (imul 15 n)) 7) v14 = (((b + (15 * n)) + 7) + v14) by simp (disch := omega) only [iadd_id, isub_id, imul_id]]
                  refine w_wr (by omega) (by omega) (fun G30 hG30 => ?_)
                  refine w_bd (fun v31 hv31 => ?_)
                  simp (disch := omega) only [iadd_id, isub_id, imul_id] at hv31
                  refine hrc16 _ _ _ ?_ ?_
                  · try dsimp only
                    refine ⟨?_, ?_, ?_, ?_, ?_, ?_⟩
                    · first | omega | grind
                    · first | omega | grind
                    · intro c x; rw [hG30, up_ne x]; exact f15 c x
                    · intro i x; rw [hG30, up_at, if_neg (by omega)]; exact g15 i x
                    · first | (rw [hv31, cf (by rw [fgd, ← e22, ← hv23]; omega)]; omega) | (rw [hv31, ct (by rw [fgd, ← e22, ← hv23]; omega)]; omega)
                    · rw [hG30]; refine (MR_F x15 (n := n) (by omega) (by omega) k0 (by omega)).cg (AE_FF (fun k k1 k2 => ?_)); rw [dF_fng]; grind
                  · try dsimp only
                    omega
                · skip
                  try rw [show iadd (iadd (iadd b (imul 15 n)) 7) v14 = (((b + (15 * n)) + 7) + v14) by simp (disch := omega) only [iadd_id, isub_id, imul_id]]
                  refine w_wr (by omega) (by omega) (fun G30 hG30 => ?_)
                  refine w_bd (fun v31 hv31 => ?_)
                  simp (disch := omega) only [iadd_id, isub_id, imul_id] at hv31
                  refine hrc16 _ _ _ ?_ ?_
                  · try dsimp only
                    refine ⟨?_, ?_, ?_, ?_, ?_, ?_⟩
                    · first | omega | grind
                    · first | omega | grind
                    · intro c x; rw [hG30, up_ne x]; exact f15 c x
                    · intro i x; rw [hG30, up_at, if_neg (by omega)]; exact g15 i x
                    · first | (rw [hv31, cf (by rw [fgd, ← e22, ← hv23]; omega)]; omega) | (rw [hv31, ct (by rw [fgd, ← e22, ← hv23]; omega)]; omega)
                    · rw [hG30]; refine (MR_F x15 (n := n) (by omega) (by omega) k0 (by omega)).cg (AE_FF (fun k k1 k2 => ?_)); rw [dF_fng]; grind
                  · try dsimp only
                    omega
              · skip
                refine w_bd (fun v26 hv26 => ?_)
                simp (disch := omega) only [iadd_id, isub_id, imul_id] at hv26
                refine w_bp (m_isIn (b := b) x15 (by omega) (by omega)) (fun v27 hv27 => ?_)
                have ev27 : v27 = isi a v23 := hv27
                have qv27 := hw.inr (n := v23)
                refine w_jn ?_
                refine w_ite (fun c_9 => ?_) (fun c_9 => ?_)
                · skip
                  try rw [show iadd (iadd (iadd b (imul 15 n)) 7) v14 = (((b + (15 * n)) + 7) + v14) by simp (disch := omega) only [iadd_id, isub_id, imul_id]]
                  refine w_wr (by omega) (by omega) (fun G30 hG30 => ?_)
                  refine w_bd (fun v31 hv31 => ?_)
                  simp (disch := omega) only [iadd_id, isub_id, imul_id] at hv31
                  refine hrc16 _ _ _ ?_ ?_
                  · try dsimp only
                    refine ⟨?_, ?_, ?_, ?_, ?_, ?_⟩
                    · first | omega | grind
                    · first | omega | grind
                    · intro c x; rw [hG30, up_ne x]; exact f15 c x
                    · intro i x; rw [hG30, up_at, if_neg (by omega)]; exact g15 i x
                    · first | (rw [hv31, cf (by rw [fgd, ← e22, ← hv23]; omega)]; omega) | (rw [hv31, ct (by rw [fgd, ← e22, ← hv23]; omega)]; omega)
                    · rw [hG30]; refine (MR_F x15 (n := n) (by omega) (by omega) k0 (by omega)).cg (AE_FF (fun k k1 k2 => ?_)); rw [dF_fng]; grind
                  · try dsimp only
                    omega
                · skip
                  try rw [show iadd (iadd (iadd b (imul 15 n)) 7) v14 = (((b + (15 * n)) + 7) + v14) by simp (disch := omega) only [iadd_id, isub_id, imul_id]]
                  refine w_wr (by omega) (by omega) (fun G30 hG30 => ?_)
                  refine w_bd (fun v31 hv31 => ?_)
                  simp (disch := omega) only [iadd_id, isub_id, imul_id] at hv31
                  refine hrc16 _ _ _ ?_ ?_
                  · try dsimp only
                    refine ⟨?_, ?_, ?_, ?_, ?_, ?_⟩
                    · first | omega | grind
                    · first | omega | grind
                    · intro c x; rw [hG30, up_ne x]; exact f15 c x
                    · intro i x; rw [hG30, up_at, if_neg (by omega)]; exact g15 i x
                    · first | (rw [hv31, cf (by rw [fgd, ← e22, ← hv23]; omega)]; omega) | (rw [hv31, ct (by rw [fgd, ← e22, ← hv23]; omega)]; omega)
                    · rw [hG30]; refine (MR_F x15 (n := n) (by omega) (by omega) k0 (by omega)).cg (AE_FF (fun k k1 k2 => ?_)); rw [dF_fng]; grind
                  · try dsimp only
                    omega
          · skip
            refine w_bp (m_aheadOf (b := b) x15 (by omega) (by omega) (by omega)) (fun v17 hv17 => ?_)
            have ev17 : v17 = ahd a n := by rw [hv17, dF_ahd, dLs_ahd]
            have qv17 := hw.ar n
            refine w_bp (m_isIn (b := b) x15 (by omega) (by omega)) (fun v18 hv18 => ?_)
            have ev18 : v18 = isi a v17 := hv18
            have qv18 := hw.inr (n := v17)
            refine w_ite (fun c_10 => ?_) (fun c_10 => ?_)
            · skip
              try rw [show iadd (iadd b (imul 15 n)) 6 = ((b + (15 * n)) + 6) by simp (disch := omega) only [iadd_id, isub_id, imul_id]]
              refine w_wr (by omega) (by omega) (fun G19 hG19 => ?_)
              refine w_rt ?_
              refine ⟨⟨fun c x y z u => by rw [hG19, up_ne y, f15 c y, f8 c u], fun k x => by rw [hG19, up_ne (by decide), f15 111 (by decide), f8 111 (by decide)], fun i x => by rw [hG19, up_at, if_neg (by omega)]; exact g15 i x⟩, Or.inl ⟨by omega, by rw [e13, show v14.toNat = 8 by omega]; rfl, ?_⟩⟩
              rw [hG19]
              unfold dFl fa
              refine (MR_A x15 (n := n) (by omega) (by omega)).cg ⟨rfl, fun m k => by rw [dA_lst, dA_lst, dF_lst, dF_lst], fun m => ?_, fun m k => ?_, fun k => by rw [dA_hld, dA_hld, dF_hld, dF_hld]⟩
              · rw [dA_ahd, dA_ahd, dF_ahd, dF_ahd]; grind
              · rw [dA_fng, dA_fng, dF_fng, dF_fng]; grind
            · skip
              refine w_bp (m_aheadOf (b := b) x15 (by omega) (by omega) (by omega)) (fun v20 hv20 => ?_)
              have ev20 : v20 = ahd a n := by rw [hv20, dF_ahd, dLs_ahd]
              have qv20 := hw.ar n
              try rw [show iadd (iadd b (imul 15 n)) 6 = ((b + (15 * n)) + 6) by simp (disch := omega) only [iadd_id, isub_id, imul_id]]
              refine w_wr (by omega) (by omega) (fun G21 hG21 => ?_)
              refine w_rt ?_
              refine ⟨⟨fun c x y z u => by rw [hG21, up_ne y, f15 c y, f8 c u], fun k x => by rw [hG21, up_ne (by decide), f15 111 (by decide), f8 111 (by decide)], fun i x => by rw [hG21, up_at, if_neg (by omega)]; exact g15 i x⟩, Or.inl ⟨by omega, by rw [e13, show v14.toNat = 8 by omega]; rfl, ?_⟩⟩
              rw [hG21]
              unfold dFl fa
              refine (MR_A x15 (n := n) (by omega) (by omega)).cg ⟨rfl, fun m k => by rw [dA_lst, dA_lst, dF_lst, dF_lst], fun m => ?_, fun m k => ?_, fun k => by rw [dA_hld, dA_hld, dF_hld, dF_hld]⟩
              · rw [dA_ahd, dA_ahd, dF_ahd, dF_ahd]; grind
              · rw [dA_fng, dA_fng, dF_fng, dF_fng]; grind
        · try dsimp only
          refine ⟨?_, ?_, ?_, ?_, ?_, ?_⟩
          · first | omega | (subst_vars; first | rfl | assumption) | assumption
          · first | omega | (subst_vars; first | rfl | assumption) | assumption
          · exact f11
          · intro i x; rw [g11 i x, f8 123 (by decide)]
          · rw [hv12, e5, ← e4']; show _ = _ + (0 : Int); omega
          · refine x11.cg (AE_F0 (fun k k1 k2 => ?_)); rw [if_neg (by omega), dLs_fng]
        · try dsimp only
          omega
    · try dsimp only
      refine ⟨?_, ?_, ?_, ?_, ?_, ?_⟩
      · first | omega | (subst_vars; first | rfl | assumption) | assumption
      · first | omega | (subst_vars; first | rfl | assumption) | assumption
      · intro c x; rfl
      · rw [hv4, hv3]; rfl
      · rw [hv4, hv2]; rfl
      · intro k k1 k2; omega
    · try dsimp only
      omega

end LIS
