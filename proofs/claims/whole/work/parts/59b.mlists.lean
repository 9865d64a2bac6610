section LIS
variable {b : Nat} {a : AS} {G : Hp} {T : TT}
theorem m_lists (w : WT T) (hw : WA T a) (hb : b ≤ 3410) (hR_G : MR b a G) (hM_G : MT T G) {n f : Int} (h1 : 0 ≤ n) (h2 : n < tN T) (h3 : 0 ≤ f) (h4 : f < tN T) : WP (fX12_lists 111 b n f G) (fun _ G' => (∀ c, c ≠ 123 → c ≠ 127 → G' c = G c) ∧ (∀ i, i < b ∨ b + 130 ≤ i → G' 123 i = G 123 i) ∧ MR b (dLs a n (nls T a n f)) G') := by
  have wr := w.rg
  have rr := room_r w n
  have ll := llen_rng a f
  have ml : rd G 117 64 1 = some (tL T) := (rd_in (by omega) (by omega)).trans (congrArg some hM_G.2.1)
  unfold fX12_lists
  simp only [rf_111_10, rf_111_23]
  refine w_bp (m_kindOf hM_G w (by omega) (by omega)) (fun v1 hv1 => ?_)
  have qv1 := w.kd (i := n) (by omega) (by omega)
  refine w_jn ?_
  refine w_ite (fun c_1 => ?_) (fun c_1 => ?_)
  · skip
    refine w_bd (fun v4 hv4 => ?_)
    have ev4 : v4 = room T n := by unfold room; first | (rw [if_pos (by omega)]; omega) | (rw [if_neg (by omega)]; omega)
    refine w_bd (fun v5 hv5 => ?_)
    refine w_wr (by omega) (by omega) (fun G6 hG6 => ?_)
    refine w_bd (fun v7 hv7 => ?_)
    refine w_lpIIH (fun (v8 : Int) (v9 : Int) (G10 : Hp) => (0 ≤ v9) ∧ (v9 ≤ llen a f) ∧ (∀ c, c ≠ 127 → G10 c = G c) ∧ (v8 = (rwS T a n f v9.toNat).1) ∧ (∀ k : Int, 0 ≤ k → k < v8 → G10 127 k.toNat = (rwS T a n f v9.toNat).2 k)) (fun (v8 : Int) (v9 : Int) (G10 : Hp) => (4 - v9).toNat) (fun rc11 v8 v9 G10 hI hrc11 => ?_) _ _ _ ?_ ?_
    · skip
      obtain ⟨i0, i1, f10, e6, e7⟩ := hI
      have J7 := rwS_J w hw (n := n) h3 h4 v9.toNat
      rw [Int.toNat_of_nonneg i0] at J7
      have j1 := J7.1
      have j2 := J7.2.1
      have j3 := J7.2.2.1
      have hR_G10 : MR b a G10 := hR_G.fr (f10 123 (by decide))
      have hM_G10 : MT T G10 := hM_G.fr (f10 117 (by decide)) (f10 125 (by decide))
      refine w_bp (m_longOf (b := b) hR_G10 (by omega) (by omega) (by omega)) (fun v12 hv12 => ?_)
      have qv12 := llen_rng a f
      refine w_ite (fun c_2 => ?_) (fun c_2 => ?_)
      · skip
        refine w_bp (m_listedOf (b := b) hR_G10 (by omega) (by omega) (by omega) (by omega) (by omega)) (fun v15 hv15 => ?_)
        have qv15 := hw.lr f v9
        refine w_bd (fun v16 hv16 => ?_)
        refine w_jn ?_
        refine w_jn ?_
        refine w_ite (fun c_3 => ?_) (fun c_3 => ?_)
        · skip
          refine w_bd (fun v19 hv19 => ?_)
          refine w_bd (fun v20 hv20 => ?_)
          refine w_lpII (fun (v21 : Int) (v22 : Int) => (0 ≤ v22) ∧ (v22 ≤ v8) ∧ ((v21 = 1 ∧ v19 = 1 ∧ ∀ j : Int, 0 ≤ j → j < v22 → (rwS T a n f v9.toNat).2 j ≠ v16) ∨ (v21 = 0 ∧ (v19 = 0 ∨ ∃ j : Int, 0 ≤ j ∧ j < v22 ∧ (rwS T a n f v9.toNat).2 j = v16)))) (fun (v21 : Int) (v22 : Int) => (4 - v22).toNat) (fun rc23 v21 v22 hI hrc23 => ?_) _ _ ?_ ?_
          · skip
            obtain ⟨k0, k1, e21⟩ := hI
            have r10 : v22 < v8 → G10 127 v22.toNat = (rwS T a n f v9.toNat).2 v22 := fun z => e7 v22 k0 z
            refine w_ite (fun c_4 => ?_) (fun c_4 => ?_)
            · skip
              refine w_jn ?_
              refine w_jn ?_
              refine w_ite (fun c_5 => ?_) (fun c_5 => ?_)
              · skip
                refine w_bd (fun v32 hv32 => ?_)
                refine w_bd (fun v33 hv33 => ?_)
                simp (disch := omega) only [iadd_id, isub_id, imul_id] at hv33
                refine hrc23 _ _ ?_ ?_
                · try dsimp only
                  refine ⟨?_, ?_, ?_⟩
                  · first | omega | grind
                  · first | omega | grind
                  · first
                    | (right; refine ⟨by omega, ?_⟩; rcases e21 with q | q
                       · exact absurd q.1 (by omega)
                       · rcases q.2 with q2 | ⟨j, j1, j2, j3⟩
                         · exact Or.inl q2
                         · exact Or.inr ⟨j, j1, by omega, j3⟩)
                    | (right; refine ⟨by omega, Or.inr ⟨v22, k0, by omega, ?_⟩⟩; rw [← r10 (by omega), ← hv35]; assumption)
                    | (left; rcases e21 with q | q
                       · refine ⟨by omega, q.2.1, fun j j1 j2 => ?_⟩
                         by_cases e : j = v22
                         · rw [e, ← r10 (by omega), ← hv35]; assumption
                         · exact q.2.2 j j1 (by omega)
                       · exact absurd q.1 (by omega))
                · try dsimp only
                  omega
              · skip
                refine w_rd (by omega) (by omega) (fun v35 hv35 => ?_)
                refine w_ite (fun c_6 => ?_) (fun c_6 => ?_)
                · skip
                  refine w_bd (fun v32 hv32 => ?_)
                  refine w_bd (fun v33 hv33 => ?_)
                  simp (disch := omega) only [iadd_id, isub_id, imul_id] at hv33
                  refine hrc23 _ _ ?_ ?_
                  · try dsimp only
                    refine ⟨?_, ?_, ?_⟩
                    · first | omega | grind
                    · first | omega | grind
                    · first
                      | (right; refine ⟨by omega, ?_⟩; rcases e21 with q | q
                         · exact absurd q.1 (by omega)
                         · rcases q.2 with q2 | ⟨j, j1, j2, j3⟩
                           · exact Or.inl q2
                           · exact Or.inr ⟨j, j1, by omega, j3⟩)
                      | (right; refine ⟨by omega, Or.inr ⟨v22, k0, by omega, ?_⟩⟩; rw [← r10 (by omega), ← hv35]; assumption)
                      | (left; rcases e21 with q | q
                         · refine ⟨by omega, q.2.1, fun j j1 j2 => ?_⟩
                           by_cases e : j = v22
                           · rw [e, ← r10 (by omega), ← hv35]; assumption
                           · exact q.2.2 j j1 (by omega)
                         · exact absurd q.1 (by omega))
                  · try dsimp only
                    omega
                · skip
                  refine w_bd (fun v32 hv32 => ?_)
                  refine w_bd (fun v33 hv33 => ?_)
                  simp (disch := omega) only [iadd_id, isub_id, imul_id] at hv33
                  refine hrc23 _ _ ?_ ?_
                  · try dsimp only
                    refine ⟨?_, ?_, ?_⟩
                    · first | omega | grind
                    · first | omega | grind
                    · first
                      | (right; refine ⟨by omega, ?_⟩; rcases e21 with q | q
                         · exact absurd q.1 (by omega)
                         · rcases q.2 with q2 | ⟨j, j1, j2, j3⟩
                           · exact Or.inl q2
                           · exact Or.inr ⟨j, j1, by omega, j3⟩)
                      | (right; refine ⟨by omega, Or.inr ⟨v22, k0, by omega, ?_⟩⟩; rw [← r10 (by omega), ← hv35]; assumption)
                      | (left; rcases e21 with q | q
                         · refine ⟨by omega, q.2.1, fun j j1 j2 => ?_⟩
                           by_cases e : j = v22
                           · rw [e, ← r10 (by omega), ← hv35]; assumption
                           · exact q.2.2 j j1 (by omega)
                         · exact absurd q.1 (by omega))
                  · try dsimp only
                    omega
            · skip
              refine w_jn ?_
              refine w_ite (fun c_7 => ?_) (fun c_7 => ?_)
              · skip
                refine w_bd (fun v27 hv27 => ?_)
                simp (disch := omega) only [iadd_id, isub_id, imul_id] at hv27
                refine hrc11 _ _ _ ?_ ?_
                · try dsimp only
                  refine ⟨?_, ?_, ?_, ?_, ?_⟩
                  · first | omega | grind
                  · first | omega | grind
                  · first | exact f10 | (intro c x; rw [hG28, up_ne x]; exact f10 c x)
                  · have ol := llen_in (a := a) (n := f) (k := v9) i0 (by omega)
                    have cnd1 : v21 = 0 → ¬ ((rwS T a n f v9.toNat).1 < room T n ∧ lst a f v9 ≠ -1 ∧ lst a f v9 ≠ n ∧ lst a f v9 ≠ f) := by
                      intro z y
                      rcases e21 with q | q
                      · exact absurd (q.1.symm.trans z) (by decide)
                      · rcases q.2 with q2 | ⟨j, j1, j2, j3⟩
                        · omega
                        · by_cases e0 : j = 0
                          · rw [e0, J7.2.2.2.2.2.1] at j3; omega
                          · obtain ⟨m, m1, m2, m3, m4⟩ := J7.2.2.2.2.2.2.1 j (by omega) (by omega)
                            rw [m3] at j3
                            exact ol (by rw [← hv15, ← hv16, ← j3]; exact hw.ds m1 m2 (by rw [j3, hv16, hv15]))
                    have cnd2 : v21 ≠ 0 → ((rwS T a n f v9.toNat).1 < room T n ∧ lst a f v9 ≠ -1 ∧ lst a f v9 ≠ n ∧ lst a f v9 ≠ f) := by
                      intro z
                      rcases e21 with q | q
                      · have q0 := q.2.2 0 (by omega) (by omega)
                        rw [J7.2.2.2.2.2.1] at q0
                        exact ⟨by omega, ol, by omega, by omega⟩
                      · exact absurd q.1 z
                    rw [hv27, rwS_s i0]; grind
                  · have ol := llen_in (a := a) (n := f) (k := v9) i0 (by omega)
                    have cnd1 : v21 = 0 → ¬ ((rwS T a n f v9.toNat).1 < room T n ∧ lst a f v9 ≠ -1 ∧ lst a f v9 ≠ n ∧ lst a f v9 ≠ f) := by
                      intro z y
                      rcases e21 with q | q
                      · exact absurd (q.1.symm.trans z) (by decide)
                      · rcases q.2 with q2 | ⟨j, j1, j2, j3⟩
                        · omega
                        · by_cases e0 : j = 0
                          · rw [e0, J7.2.2.2.2.2.1] at j3; omega
                          · obtain ⟨m, m1, m2, m3, m4⟩ := J7.2.2.2.2.2.2.1 j (by omega) (by omega)
                            rw [m3] at j3
                            exact ol (by rw [← hv15, ← hv16, ← j3]; exact hw.ds m1 m2 (by rw [j3, hv16, hv15]))
                    have cnd2 : v21 ≠ 0 → ((rwS T a n f v9.toNat).1 < room T n ∧ lst a f v9 ≠ -1 ∧ lst a f v9 ≠ n ∧ lst a f v9 ≠ f) := by
                      intro z
                      rcases e21 with q | q
                      · have q0 := q.2.2 0 (by omega) (by omega)
                        rw [J7.2.2.2.2.2.1] at q0
                        exact ⟨by omega, ol, by omega, by omega⟩
                      · exact absurd q.1 z
                    intro k k1 k2
                    rw [hv27, rwS_s i0]
                    first
                    | (rw [if_neg (cnd1 (by assumption))]; exact e7 k k1 k2)
                    | (rw [if_pos (cnd2 (by assumption))]
                       show G28 127 k.toNat = if k = (rwS T a n f v9.toNat).1 then lst a f v9 else (rwS T a n f v9.toNat).2 k
                       rw [hG28, up_at, ← e6]
                       by_cases e : k = v8
                       · rw [if_pos ⟨rfl, by omega⟩, if_pos e]; omega
                       · rw [if_neg (by omega), if_neg e]; exact e7 k k1 (by omega))
                · try dsimp only
                  omega
              · skip
                refine w_wr (by omega) (by omega) (fun G28 hG28 => ?_)
                refine w_bd (fun v29 hv29 => ?_)
                simp (disch := omega) only [iadd_id, isub_id, imul_id] at hv29
                refine w_bd (fun v27 hv27 => ?_)
                simp (disch := omega) only [iadd_id, isub_id, imul_id] at hv27
                refine hrc11 _ _ _ ?_ ?_
                · try dsimp only
                  refine ⟨?_, ?_, ?_, ?_, ?_⟩
                  · first | omega | grind
                  · first | omega | grind
                  · first | exact f10 | (intro c x; rw [hG28, up_ne x]; exact f10 c x)
                  · have ol := llen_in (a := a) (n := f) (k := v9) i0 (by omega)
                    have cnd1 : v21 = 0 → ¬ ((rwS T a n f v9.toNat).1 < room T n ∧ lst a f v9 ≠ -1 ∧ lst a f v9 ≠ n ∧ lst a f v9 ≠ f) := by
                      intro z y
                      rcases e21 with q | q
                      · exact absurd (q.1.symm.trans z) (by decide)
                      · rcases q.2 with q2 | ⟨j, j1, j2, j3⟩
                        · omega
                        · by_cases e0 : j = 0
                          · rw [e0, J7.2.2.2.2.2.1] at j3; omega
                          · obtain ⟨m, m1, m2, m3, m4⟩ := J7.2.2.2.2.2.2.1 j (by omega) (by omega)
                            rw [m3] at j3
                            exact ol (by rw [← hv15, ← hv16, ← j3]; exact hw.ds m1 m2 (by rw [j3, hv16, hv15]))
                    have cnd2 : v21 ≠ 0 → ((rwS T a n f v9.toNat).1 < room T n ∧ lst a f v9 ≠ -1 ∧ lst a f v9 ≠ n ∧ lst a f v9 ≠ f) := by
                      intro z
                      rcases e21 with q | q
                      · have q0 := q.2.2 0 (by omega) (by omega)
                        rw [J7.2.2.2.2.2.1] at q0
                        exact ⟨by omega, ol, by omega, by omega⟩
                      · exact absurd q.1 z
                    rw [hv27, rwS_s i0]; grind
                  · have ol := llen_in (a := a) (n := f) (k := v9) i0 (by omega)
                    have cnd1 : v21 = 0 → ¬ ((rwS T a n f v9.toNat).1 < room T n ∧ lst a f v9 ≠ -1 ∧ lst a f v9 ≠ n ∧ lst a f v9 ≠ f) := by
                      intro z y
                      rcases e21 with q | q
                      · exact absurd (q.1.symm.trans z) (by decide)
                      · rcases q.2 with q2 | ⟨j, j1, j2, j3⟩
                        · omega
                        · by_cases e0 : j = 0
                          · rw [e0, J7.2.2.2.2.2.1] at j3; omega
                          · obtain ⟨m, m1, m2, m3, m4⟩ := J7.2.2.2.2.2.2.1 j (by omega) (by omega)
                            rw [m3] at j3
                            exact ol (by rw [← hv15, ← hv16, ← j3]; exact hw.ds m1 m2 (by rw [j3, hv16, hv15]))
                    have cnd2 : v21 ≠ 0 → ((rwS T a n f v9.toNat).1 < room T n ∧ lst a f v9 ≠ -1 ∧ lst a f v9 ≠ n ∧ lst a f v9 ≠ f) := by
                      intro z
                      rcases e21 with q | q
                      · have q0 := q.2.2 0 (by omega) (by omega)
                        rw [J7.2.2.2.2.2.1] at q0
                        exact ⟨by omega, ol, by omega, by omega⟩
                      · exact absurd q.1 z
                    intro k k1 k2
                    rw [hv27, rwS_s i0]
                    first
                    | (rw [if_neg (cnd1 (by assumption))]; exact e7 k k1 k2)
                    | (rw [if_pos (cnd2 (by assumption))]
                       show G28 127 k.toNat = if k = (rwS T a n f v9.toNat).1 then lst a f v9 else (rwS T a n f v9.toNat).2 k
                       rw [hG28, up_at, ← e6]
                       by_cases e : k = v8
                       · rw [if_pos ⟨rfl, by omega⟩, if_pos e]; omega
                       · rw [if_neg (by omega), if_neg e]; exact e7 k k1 (by omega))
                · try dsimp only
                  omega
          · try dsimp only
            refine ⟨?_, ?_, ?_⟩
            · first | omega | (subst_vars; first | rfl | assumption) | assumption
            · first | omega | (subst_vars; first | rfl | assumption) | assumption
            · first | (left; exact ⟨by omega, by omega, fun j j1 j2 => by omega⟩) | (right; exact ⟨by omega, Or.inl (by omega)⟩)
          · try dsimp only
            omega
        · skip
          refine w_ite (fun c_8 => ?_) (fun c_8 => ?_)
          · skip
            refine w_bd (fun v19 hv19 => ?_)
            refine w_bd (fun v20 hv20 => ?_)
            refine w_lpII (fun (v21 : Int) (v22 : Int) => (0 ≤ v22) ∧ (v22 ≤ v8) ∧ ((v21 = 1 ∧ v19 = 1 ∧ ∀ j : Int, 0 ≤ j → j < v22 → (rwS T a n f v9.toNat).2 j ≠ v16) ∨ (v21 = 0 ∧ (v19 = 0 ∨ ∃ j : Int, 0 ≤ j ∧ j < v22 ∧ (rwS T a n f v9.toNat).2 j = v16)))) (fun (v21 : Int) (v22 : Int) => (4 - v22).toNat) (fun rc23 v21 v22 hI hrc23 => ?_) _ _ ?_ ?_
            · skip
              obtain ⟨k0, k1, e21⟩ := hI
              have r10 : v22 < v8 → G10 127 v22.toNat = (rwS T a n f v9.toNat).2 v22 := fun z => e7 v22 k0 z
              refine w_ite (fun c_9 => ?_) (fun c_9 => ?_)
              · skip
                refine w_jn ?_
                refine w_jn ?_
                refine w_ite (fun c_10 => ?_) (fun c_10 => ?_)
                · skip
                  refine w_bd (fun v32 hv32 => ?_)
                  refine w_bd (fun v33 hv33 => ?_)
                  simp (disch := omega) only [iadd_id, isub_id, imul_id] at hv33
                  refine hrc23 _ _ ?_ ?_
                  · try dsimp only
                    refine ⟨?_, ?_, ?_⟩
                    · first | omega | grind
                    · first | omega | grind
                    · first
                      | (right; refine ⟨by omega, ?_⟩; rcases e21 with q | q
                         · exact absurd q.1 (by omega)
                         · rcases q.2 with q2 | ⟨j, j1, j2, j3⟩
                           · exact Or.inl q2
                           · exact Or.inr ⟨j, j1, by omega, j3⟩)
                      | (right; refine ⟨by omega, Or.inr ⟨v22, k0, by omega, ?_⟩⟩; rw [← r10 (by omega), ← hv35]; assumption)
                      | (left; rcases e21 with q | q
                         · refine ⟨by omega, q.2.1, fun j j1 j2 => ?_⟩
                           by_cases e : j = v22
                           · rw [e, ← r10 (by omega), ← hv35]; assumption
                           · exact q.2.2 j j1 (by omega)
                         · exact absurd q.1 (by omega))
                  · try dsimp only
                    omega
                · skip
                  refine w_rd (by omega) (by omega) (fun v35 hv35 => ?_)
                  refine w_ite (fun c_11 => ?_) (fun c_11 => ?_)
                  · skip
                    refine w_bd (fun v32 hv32 => ?_)
                    refine w_bd (fun v33 hv33 => ?_)
                    simp (disch := omega) only [iadd_id, isub_id, imul_id] at hv33
                    refine hrc23 _ _ ?_ ?_
                    · try dsimp only
                      refine ⟨?_, ?_, ?_⟩
                      · first | omega | grind
                      · first | omega | grind
                      · first
                        | (right; refine ⟨by omega, ?_⟩; rcases e21 with q | q
                           · exact absurd q.1 (by omega)
                           · rcases q.2 with q2 | ⟨j, j1, j2, j3⟩
                             · exact Or.inl q2
                             · exact Or.inr ⟨j, j1, by omega, j3⟩)
                        | (right; refine ⟨by omega, Or.inr ⟨v22, k0, by omega, ?_⟩⟩; rw [← r10 (by omega), ← hv35]; assumption)
                        | (left; rcases e21 with q | q
                           · refine ⟨by omega, q.2.1, fun j j1 j2 => ?_⟩
                             by_cases e : j = v22
                             · rw [e, ← r10 (by omega), ← hv35]; assumption
                             · exact q.2.2 j j1 (by omega)
                           · exact absurd q.1 (by omega))
                    · try dsimp only
                      omega
                  · skip
                    refine w_bd (fun v32 hv32 => ?_)
                    refine w_bd (fun v33 hv33 => ?_)
                    simp (disch := omega) only [iadd_id, isub_id, imul_id] at hv33
                    refine hrc23 _ _ ?_ ?_
                    · try dsimp only
                      refine ⟨?_, ?_, ?_⟩
                      · first | omega | grind
                      · first | omega | grind
                      · first
                        | (right; refine ⟨by omega, ?_⟩; rcases e21 with q | q
                           · exact absurd q.1 (by omega)
                           · rcases q.2 with q2 | ⟨j, j1, j2, j3⟩
                             · exact Or.inl q2
                             · exact Or.inr ⟨j, j1, by omega, j3⟩)
                        | (right; refine ⟨by omega, Or.inr ⟨v22, k0, by omega, ?_⟩⟩; rw [← r10 (by omega), ← hv35]; assumption)
                        | (left; rcases e21 with q | q
                           · refine ⟨by omega, q.2.1, fun j j1 j2 => ?_⟩
                             by_cases e : j = v22
                             · rw [e, ← r10 (by omega), ← hv35]; assumption
                             · exact q.2.2 j j1 (by omega)
                           · exact absurd q.1 (by omega))
                    · try dsimp only
                      omega
              · skip
                refine w_jn ?_
                refine w_ite (fun c_12 => ?_) (fun c_12 => ?_)
                · skip
                  refine w_bd (fun v27 hv27 => ?_)
                  simp (disch := omega) only [iadd_id, isub_id, imul_id] at hv27
                  refine hrc11 _ _ _ ?_ ?_
                  · try dsimp only
                    refine ⟨?_, ?_, ?_, ?_, ?_⟩
                    · first | omega | grind
                    · first | omega | grind
                    · first | exact f10 | (intro c x; rw [hG28, up_ne x]; exact f10 c x)
                    · have ol := llen_in (a := a) (n := f) (k := v9) i0 (by omega)
                      have cnd1 : v21 = 0 → ¬ ((rwS T a n f v9.toNat).1 < room T n ∧ lst a f v9 ≠ -1 ∧ lst a f v9 ≠ n ∧ lst a f v9 ≠ f) := by
                        intro z y
                        rcases e21 with q | q
                        · exact absurd (q.1.symm.trans z) (by decide)
                        · rcases q.2 with q2 | ⟨j, j1, j2, j3⟩
                          · omega
                          · by_cases e0 : j = 0
                            · rw [e0, J7.2.2.2.2.2.1] at j3; omega
                            · obtain ⟨m, m1, m2, m3, m4⟩ := J7.2.2.2.2.2.2.1 j (by omega) (by omega)
                              rw [m3] at j3
                              exact ol (by rw [← hv15, ← hv16, ← j3]; exact hw.ds m1 m2 (by rw [j3, hv16, hv15]))
                      have cnd2 : v21 ≠ 0 → ((rwS T a n f v9.toNat).1 < room T n ∧ lst a f v9 ≠ -1 ∧ lst a f v9 ≠ n ∧ lst a f v9 ≠ f) := by
                        intro z
                        rcases e21 with q | q
                        · have q0 := q.2.2 0 (by omega) (by omega)
                          rw [J7.2.2.2.2.2.1] at q0
                          exact ⟨by omega, ol, by omega, by omega⟩
                        · exact absurd q.1 z
                      rw [hv27, rwS_s i0]; grind
                    · have ol := llen_in (a := a) (n := f) (k := v9) i0 (by omega)
                      have cnd1 : v21 = 0 → ¬ ((rwS T a n f v9.toNat).1 < room T n ∧ lst a f v9 ≠ -1 ∧ lst a f v9 ≠ n ∧ lst a f v9 ≠ f) := by
                        intro z y
                        rcases e21 with q | q
                        · exact absurd (q.1.symm.trans z) (by decide)
                        · rcases q.2 with q2 | ⟨j, j1, j2, j3⟩
                          · omega
                          · by_cases e0 : j = 0
                            · rw [e0, J7.2.2.2.2.2.1] at j3; omega
                            · obtain ⟨m, m1, m2, m3, m4⟩ := J7.2.2.2.2.2.2.1 j (by omega) (by omega)
                              rw [m3] at j3
                              exact ol (by rw [← hv15, ← hv16, ← j3]; exact hw.ds m1 m2 (by rw [j3, hv16, hv15]))
                      have cnd2 : v21 ≠ 0 → ((rwS T a n f v9.toNat).1 < room T n ∧ lst a f v9 ≠ -1 ∧ lst a f v9 ≠ n ∧ lst a f v9 ≠ f) := by
                        intro z
                        rcases e21 with q | q
                        · have q0 := q.2.2 0 (by omega) (by omega)
                          rw [J7.2.2.2.2.2.1] at q0
                          exact ⟨by omega, ol, by omega, by omega⟩
                        · exact absurd q.1 z
                      intro k k1 k2
                      rw [hv27, rwS_s i0]
                      first
                      | (rw [if_neg (cnd1 (by assumption))]; exact e7 k k1 k2)
                      | (rw [if_pos (cnd2 (by assumption))]
                         show G28 127 k.toNat = if k = (rwS T a n f v9.toNat).1 then lst a f v9 else (rwS T a n f v9.toNat).2 k
                         rw [hG28, up_at, ← e6]
                         by_cases e : k = v8
                         · rw [if_pos ⟨rfl, by omega⟩, if_pos e]; omega
                         · rw [if_neg (by omega), if_neg e]; exact e7 k k1 (by omega))
                  · try dsimp only
                    omega
                · skip
                  refine w_wr (by omega) (by omega) (fun G28 hG28 => ?_)
                  refine w_bd (fun v29 hv29 => ?_)
                  simp (disch := omega) only [iadd_id, isub_id, imul_id] at hv29
                  refine w_bd (fun v27 hv27 => ?_)
                  simp (disch := omega) only [iadd_id, isub_id, imul_id] at hv27
                  refine hrc11 _ _ _ ?_ ?_
                  · try dsimp only
                    refine ⟨?_, ?_, ?_, ?_, ?_⟩
                    · first | omega | grind
                    · first | omega | grind
                    · first | exact f10 | (intro c x; rw [hG28, up_ne x]; exact f10 c x)
                    · have ol := llen_in (a := a) (n := f) (k := v9) i0 (by omega)
                      have cnd1 : v21 = 0 → ¬ ((rwS T a n f v9.toNat).1 < room T n ∧ lst a f v9 ≠ -1 ∧ lst a f v9 ≠ n ∧ lst a f v9 ≠ f) := by
                        intro z y
                        rcases e21 with q | q
                        · exact absurd (q.1.symm.trans z) (by decide)
                        · rcases q.2 with q2 | ⟨j, j1, j2, j3⟩
                          · omega
                          · by_cases e0 : j = 0
                            · rw [e0, J7.2.2.2.2.2.1] at j3; omega
                            · obtain ⟨m, m1, m2, m3, m4⟩ := J7.2.2.2.2.2.2.1 j (by omega) (by omega)
                              rw [m3] at j3
                              exact ol (by rw [← hv15, ← hv16, ← j3]; exact hw.ds m1 m2 (by rw [j3, hv16, hv15]))
                      have cnd2 : v21 ≠ 0 → ((rwS T a n f v9.toNat).1 < room T n ∧ lst a f v9 ≠ -1 ∧ lst a f v9 ≠ n ∧ lst a f v9 ≠ f) := by
                        intro z
                        rcases e21 with q | q
                        · have q0 := q.2.2 0 (by omega) (by omega)
                          rw [J7.2.2.2.2.2.1] at q0
                          exact ⟨by omega, ol, by omega, by omega⟩
                        · exact absurd q.1 z
                      rw [hv27, rwS_s i0]; grind
                    · have ol := llen_in (a := a) (n := f) (k := v9) i0 (by omega)
                      have cnd1 : v21 = 0 → ¬ ((rwS T a n f v9.toNat).1 < room T n ∧ lst a f v9 ≠ -1 ∧ lst a f v9 ≠ n ∧ lst a f v9 ≠ f) := by
                        intro z y
                        rcases e21 with q | q
                        · exact absurd (q.1.symm.trans z) (by decide)
                        · rcases q.2 with q2 | ⟨j, j1, j2, j3⟩
                          · omega
                          · by_cases e0 : j = 0
                            · rw [e0, J7.2.2.2.2.2.1] at j3; omega
                            · obtain ⟨m, m1, m2, m3, m4⟩ := J7.2.2.2.2.2.2.1 j (by omega) (by omega)
                              rw [m3] at j3
                              exact ol (by rw [← hv15, ← hv16, ← j3]; exact hw.ds m1 m2 (by rw [j3, hv16, hv15]))
                      have cnd2 : v21 ≠ 0 → ((rwS T a n f v9.toNat).1 < room T n ∧ lst a f v9 ≠ -1 ∧ lst a f v9 ≠ n ∧ lst a f v9 ≠ f) := by
                        intro z
                        rcases e21 with q | q
                        · have q0 := q.2.2 0 (by omega) (by omega)
                          rw [J7.2.2.2.2.2.1] at q0
                          exact ⟨by omega, ol, by omega, by omega⟩
                        · exact absurd q.1 z
                      intro k k1 k2
                      rw [hv27, rwS_s i0]
                      first
                      | (rw [if_neg (cnd1 (by assumption))]; exact e7 k k1 k2)
                      | (rw [if_pos (cnd2 (by assumption))]
                         show G28 127 k.toNat = if k = (rwS T a n f v9.toNat).1 then lst a f v9 else (rwS T a n f v9.toNat).2 k
                         rw [hG28, up_at, ← e6]
                         by_cases e : k = v8
                         · rw [if_pos ⟨rfl, by omega⟩, if_pos e]; omega
                         · rw [if_neg (by omega), if_neg e]; exact e7 k k1 (by omega))
                  · try dsimp only
                    omega
            · try dsimp only
              refine ⟨?_, ?_, ?_⟩
              · first | omega | (subst_vars; first | rfl | assumption) | assumption
              · first | omega | (subst_vars; first | rfl | assumption) | assumption
              · first | (left; exact ⟨by omega, by omega, fun j j1 j2 => by omega⟩) | (right; exact ⟨by omega, Or.inl (by omega)⟩)
            · try dsimp only
              omega
          · skip
            refine w_bd (fun v19 hv19 => ?_)
            refine w_bd (fun v20 hv20 => ?_)
            refine w_lpII (fun (v21 : Int) (v22 : Int) => (0 ≤ v22) ∧ (v22 ≤ v8) ∧ ((v21 = 1 ∧ v19 = 1 ∧ ∀ j : Int, 0 ≤ j → j < v22 → (rwS T a n f v9.toNat).2 j ≠ v16) ∨ (v21 = 0 ∧ (v19 = 0 ∨ ∃ j : Int, 0 ≤ j ∧ j < v22 ∧ (rwS T a n f v9.toNat).2 j = v16)))) (fun (v21 : Int) (v22 : Int) => (4 - v22).toNat) (fun rc23 v21 v22 hI hrc23 => ?_) _ _ ?_ ?_
            · skip
              obtain ⟨k0, k1, e21⟩ := hI
              have r10 : v22 < v8 → G10 127 v22.toNat = (rwS T a n f v9.toNat).2 v22 := fun z => e7 v22 k0 z
              refine w_ite (fun c_13 => ?_) (fun c_13 => ?_)
              · skip
                refine w_jn ?_
                refine w_jn ?_
                refine w_ite (fun c_14 => ?_) (fun c_14 => ?_)
                · skip
                  refine w_bd (fun v32 hv32 => ?_)
                  refine w_bd (fun v33 hv33 => ?_)
                  simp (disch := omega) only [iadd_id, isub_id, imul_id] at hv33
                  refine hrc23 _ _ ?_ ?_
                  · try dsimp only
                    refine ⟨?_, ?_, ?_⟩
                    · first | omega | grind
                    · first | omega | grind
                    · first
                      | (right; refine ⟨by omega, ?_⟩; rcases e21 with q | q
                         · exact absurd q.1 (by omega)
                         · rcases q.2 with q2 | ⟨j, j1, j2, j3⟩
                           · exact Or.inl q2
                           · exact Or.inr ⟨j, j1, by omega, j3⟩)
                      | (right; refine ⟨by omega, Or.inr ⟨v22, k0, by omega, ?_⟩⟩; rw [← r10 (by omega), ← hv35]; assumption)
                      | (left; rcases e21 with q | q
                         · refine ⟨by omega, q.2.1, fun j j1 j2 => ?_⟩
                           by_cases e : j = v22
                           · rw [e, ← r10 (by omega), ← hv35]; assumption
                           · exact q.2.2 j j1 (by omega)
                         · exact absurd q.1 (by omega))
                  · try dsimp only
                    omega
                · skip
                  refine w_rd (by omega) (by omega) (fun v35 hv35 => ?_)
                  refine w_ite (fun c_15 => ?_) (fun c_15 => ?_)
                  · skip
                    refine w_bd (fun v32 hv32 => ?_)
                    refine w_bd (fun v33 hv33 => ?_)
                    simp (disch := omega) only [iadd_id, isub_id, imul_id] at hv33
                    refine hrc23 _ _ ?_ ?_
                    · try dsimp only
                      refine ⟨?_, ?_, ?_⟩
                      · first | omega | grind
                      · first | omega | grind
                      · first
                        | (right; refine ⟨by omega, ?_⟩; rcases e21 with q | q
                           · exact absurd q.1 (by omega)
                           · rcases q.2 with q2 | ⟨j, j1, j2, j3⟩
                             · exact Or.inl q2
                             · exact Or.inr ⟨j, j1, by omega, j3⟩)
                        | (right; refine ⟨by omega, Or.inr ⟨v22, k0, by omega, ?_⟩⟩; rw [← r10 (by omega), ← hv35]; assumption)
                        | (left; rcases e21 with q | q
                           · refine ⟨by omega, q.2.1, fun j j1 j2 => ?_⟩
                             by_cases e : j = v22
                             · rw [e, ← r10 (by omega), ← hv35]; assumption
                             · exact q.2.2 j j1 (by omega)
                           · exact absurd q.1 (by omega))
                    · try dsimp only
                      omega
                  · skip
                    refine w_bd (fun v32 hv32 => ?_)
                    refine w_bd (fun v33 hv33 => ?_)
                    simp (disch := omega) only [iadd_id, isub_id, imul_id] at hv33
                    refine hrc23 _ _ ?_ ?_
                    · try dsimp only
                      refine ⟨?_, ?_, ?_⟩
                      · first | omega | grind
                      · first | omega | grind
                      · first
                        | (right; refine ⟨by omega, ?_⟩; rcases e21 with q | q
                           · exact absurd q.1 (by omega)
                           · rcases q.2 with q2 | ⟨j, j1, j2, j3⟩
                             · exact Or.inl q2
                             · exact Or.inr ⟨j, j1, by omega, j3⟩)
                        | (right; refine ⟨by omega, Or.inr ⟨v22, k0, by omega, ?_⟩⟩; rw [← r10 (by omega), ← hv35]; assumption)
                        | (left; rcases e21 with q | q
                           · refine ⟨by omega, q.2.1, fun j j1 j2 => ?_⟩
                             by_cases e : j = v22
                             · rw [e, ← r10 (by omega), ← hv35]; assumption
                             · exact q.2.2 j j1 (by omega)
                           · exact absurd q.1 (by omega))
                    · try dsimp only
                      omega
              · skip
                refine w_jn ?_
                refine w_ite (fun c_16 => ?_) (fun c_16 => ?_)
                · skip
                  refine w_bd (fun v27 hv27 => ?_)
                  simp (disch := omega) only [iadd_id, isub_id, imul_id] at hv27
                  refine hrc11 _ _ _ ?_ ?_
                  · try dsimp only
                    refine ⟨?_, ?_, ?_, ?_, ?_⟩
                    · first | omega | grind
                    · first | omega | grind
                    · first | exact f10 | (intro c x; rw [hG28, up_ne x]; exact f10 c x)
                    · have ol := llen_in (a := a) (n := f) (k := v9) i0 (by omega)
                      have cnd1 : v21 = 0 → ¬ ((rwS T a n f v9.toNat).1 < room T n ∧ lst a f v9 ≠ -1 ∧ lst a f v9 ≠ n ∧ lst a f v9 ≠ f) := by
                        intro z y
                        rcases e21 with q | q
                        · exact absurd (q.1.symm.trans z) (by decide)
                        · rcases q.2 with q2 | ⟨j, j1, j2, j3⟩
                          · omega
                          · by_cases e0 : j = 0
                            · rw [e0, J7.2.2.2.2.2.1] at j3; omega
                            · obtain ⟨m, m1, m2, m3, m4⟩ := J7.2.2.2.2.2.2.1 j (by omega) (by omega)
                              rw [m3] at j3
                              exact ol (by rw [← hv15, ← hv16, ← j3]; exact hw.ds m1 m2 (by rw [j3, hv16, hv15]))
                      have cnd2 : v21 ≠ 0 → ((rwS T a n f v9.toNat).1 < room T n ∧ lst a f v9 ≠ -1 ∧ lst a f v9 ≠ n ∧ lst a f v9 ≠ f) := by
                        intro z
                        rcases e21 with q | q
                        · have q0 := q.2.2 0 (by omega) (by omega)
                          rw [J7.2.2.2.2.2.1] at q0
                          exact ⟨by omega, ol, by omega, by omega⟩
                        · exact absurd q.1 z
                      rw [hv27, rwS_s i0]; grind
                    · have ol := llen_in (a := a) (n := f) (k := v9) i0 (by omega)
                      have cnd1 : v21 = 0 → ¬ ((rwS T a n f v9.toNat).1 < room T n ∧ lst a f v9 ≠ -1 ∧ lst a f v9 ≠ n ∧ lst a f v9 ≠ f) := by
                        intro z y
                        rcases e21 with q | q
                        · exact absurd (q.1.symm.trans z) (by decide)
                        · rcases q.2 with q2 | ⟨j, j1, j2, j3⟩
                          · omega
                          · by_cases e0 : j = 0
                            · rw [e0, J7.2.2.2.2.2.1] at j3; omega
                            · obtain ⟨m, m1, m2, m3, m4⟩ := J7.2.2.2.2.2.2.1 j (by omega) (by omega)
                              rw [m3] at j3
                              exact ol (by rw [← hv15, ← hv16, ← j3]; exact hw.ds m1 m2 (by rw [j3, hv16, hv15]))
                      have cnd2 : v21 ≠ 0 → ((rwS T a n f v9.toNat).1 < room T n ∧ lst a f v9 ≠ -1 ∧ lst a f v9 ≠ n ∧ lst a f v9 ≠ f) := by
                        intro z
                        rcases e21 with q | q
                        · have q0 := q.2.2 0 (by omega) (by omega)
                          rw [J7.2.2.2.2.2.1] at q0
                          exact ⟨by omega, ol, by omega, by omega⟩
                        · exact absurd q.1 z
                      intro k k1 k2
                      rw [hv27, rwS_s i0]
                      first
                      | (rw [if_neg (cnd1 (by assumption))]; exact e7 k k1 k2)
                      | (rw [if_pos (cnd2 (by assumption))]
                         show G28 127 k.toNat = if k = (rwS T a n f v9.toNat).1 then lst a f v9 else (rwS T a n f v9.toNat).2 k
                         rw [hG28, up_at, ← e6]
                         by_cases e : k = v8
                         · rw [if_pos ⟨rfl, by omega⟩, if_pos e]; omega
                         · rw [if_neg (by omega), if_neg e]; exact e7 k k1 (by omega))
                  · try dsimp only
                    omega
                · skip
                  refine w_wr (by omega) (by omega) (fun G28 hG28 => ?_)
                  refine w_bd (fun v29 hv29 => ?_)
                  simp (disch := omega) only [iadd_id, isub_id, imul_id] at hv29
                  refine w_bd (fun v27 hv27 => ?_)
                  simp (disch := omega) only [iadd_id, isub_id, imul_id] at hv27
                  refine hrc11 _ _ _ ?_ ?_
                  · try dsimp only
                    refine ⟨?_, ?_, ?_, ?_, ?_⟩
                    · first | omega | grind
                    · first | omega | grind
                    · first | exact f10 | (intro c x; rw [hG28, up_ne x]; exact f10 c x)
                    · have ol := llen_in (a := a) (n := f) (k := v9) i0 (by omega)
                      have cnd1 : v21 = 0 → ¬ ((rwS T a n f v9.toNat).1 < room T n ∧ lst a f v9 ≠ -1 ∧ lst a f v9 ≠ n ∧ lst a f v9 ≠ f) := by
                        intro z y
                        rcases e21 with q | q
                        · exact absurd (q.1.symm.trans z) (by decide)
                        · rcases q.2 with q2 | ⟨j, j1, j2, j3⟩
                          · omega
                          · by_cases e0 : j = 0
                            · rw [e0, J7.2.2.2.2.2.1] at j3; omega
                            · obtain ⟨m, m1, m2, m3, m4⟩ := J7.2.2.2.2.2.2.1 j (by omega) (by omega)
                              rw [m3] at j3
                              exact ol (by rw [← hv15, ← hv16, ← j3]; exact hw.ds m1 m2 (by rw [j3, hv16, hv15]))
                      have cnd2 : v21 ≠ 0 → ((rwS T a n f v9.toNat).1 < room T n ∧ lst a f v9 ≠ -1 ∧ lst a f v9 ≠ n ∧ lst a f v9 ≠ f) := by
                        intro z
                        rcases e21 with q | q
                        · have q0 := q.2.2 0 (by omega) (by omega)
                          rw [J7.2.2.2.2.2.1] at q0
                          exact ⟨by omega, ol, by omega, by omega⟩
                        · exact absurd q.1 z
                      rw [hv27, rwS_s i0]; grind
                    · have ol := llen_in (a := a) (n := f) (k := v9) i0 (by omega)
                      have cnd1 : v21 = 0 → ¬ ((rwS T a n f v9.toNat).1 < room T n ∧ lst a f v9 ≠ -1 ∧ lst a f v9 ≠ n ∧ lst a f v9 ≠ f) := by
                        intro z y
                        rcases e21 with q | q
                        · exact absurd (q.1.symm.trans z) (by decide)
                        · rcases q.2 with q2 | ⟨j, j1, j2, j3⟩
                          · omega
                          · by_cases e0 : j = 0
                            · rw [e0, J7.2.2.2.2.2.1] at j3; omega
                            · obtain ⟨m, m1, m2, m3, m4⟩ := J7.2.2.2.2.2.2.1 j (by omega) (by omega)
                              rw [m3] at j3
                              exact ol (by rw [← hv15, ← hv16, ← j3]; exact hw.ds m1 m2 (by rw [j3, hv16, hv15]))
                      have cnd2 : v21 ≠ 0 → ((rwS T a n f v9.toNat).1 < room T n ∧ lst a f v9 ≠ -1 ∧ lst a f v9 ≠ n ∧ lst a f v9 ≠ f) := by
                        intro z
                        rcases e21 with q | q
                        · have q0 := q.2.2 0 (by omega) (by omega)
                          rw [J7.2.2.2.2.2.1] at q0
                          exact ⟨by omega, ol, by omega, by omega⟩
                        · exact absurd q.1 z
                      intro k k1 k2
                      rw [hv27, rwS_s i0]
                      first
                      | (rw [if_neg (cnd1 (by assumption))]; exact e7 k k1 k2)
                      | (rw [if_pos (cnd2 (by assumption))]
                         show G28 127 k.toNat = if k = (rwS T a n f v9.toNat).1 then lst a f v9 else (rwS T a n f v9.toNat).2 k
                         rw [hG28, up_at, ← e6]
                         by_cases e : k = v8
                         · rw [if_pos ⟨rfl, by omega⟩, if_pos e]; omega
                         · rw [if_neg (by omega), if_neg e]; exact e7 k k1 (by omega))
                  · try dsimp only
                    omega
            · try dsimp only
              refine ⟨?_, ?_, ?_⟩
              · first | omega | (subst_vars; first | rfl | assumption) | assumption
              · first | omega | (subst_vars; first | rfl | assumption) | assumption
              · first | (left; exact ⟨by omega, by omega, fun j j1 j2 => by omega⟩) | (right; exact ⟨by omega, Or.inl (by omega)⟩)
            · try dsimp only
              omega
      · skip
        have e4 : rwS T a n f 4 = rwS T a n f v9.toNat := rwS_out hw (by omega) (by have := llen_rng a f; omega)
        refine w_bn (m_listIs hb hR_G10 h1 (by omega) (m := v8) (by omega) (by omega) (l := nls T a n f) (fun k k1 k2 => ⟨by unfold nls; rw [e4]; have := J7.2.2.2.1 k k1 (by omega); omega, by unfold nls; rw [e4]; exact e7 k k1 k2⟩) (fun k k1 => by unfold nls; rw [e4]; exact J7.2.2.2.2.1 k (Or.inr (by omega)))) (fun _ G13 q13 => ?_)
        refine w_rt ?_
        exact ⟨fun c x y => by rw [q13.1 c x, f10 c y], fun i x => by rw [q13.2.1 i x, f10 123 (by decide)], q13.2.2⟩
    · try dsimp only
      refine ⟨?_, ?_, ?_, ?_, ?_⟩
      · first | omega | (subst_vars; first | rfl | assumption) | assumption
      · first | omega | (subst_vars; first | rfl | assumption) | assumption
      · intro c x; rw [hG6, up_ne x]
      · rw [hv7, hv5]; rfl
      · intro k k1 k2; rw [hG6, up_at, hv7]; have : k = 0 := by omega
        subst this; rfl
    · try dsimp only
      omega
  · skip
    refine w_rdv (ml) (fun v37 hv37 => ?_)
    refine w_bd (fun v4 hv4 => ?_)
    have ev4 : v4 = room T n := by unfold room; first | (rw [if_pos (by omega)]; omega) | (rw [if_neg (by omega)]; omega)
    refine w_bd (fun v5 hv5 => ?_)
    refine w_wr (by omega) (by omega) (fun G6 hG6 => ?_)
    refine w_bd (fun v7 hv7 => ?_)
    refine w_lpIIH (fun (v8 : Int) (v9 : Int) (G10 : Hp) => (0 ≤ v9) ∧ (v9 ≤ llen a f) ∧ (∀ c, c ≠ 127 → G10 c = G c) ∧ (v8 = (rwS T a n f v9.toNat).1) ∧ (∀ k : Int, 0 ≤ k → k < v8 → G10 127 k.toNat = (rwS T a n f v9.toNat).2 k)) (fun (v8 : Int) (v9 : Int) (G10 : Hp) => (4 - v9).toNat) (fun rc11 v8 v9 G10 hI hrc11 => ?_) _ _ _ ?_ ?_
    · skip
      obtain ⟨i0, i1, f10, e6, e7⟩ := hI
      have J7 := rwS_J w hw (n := n) h3 h4 v9.toNat
      rw [Int.toNat_of_nonneg i0] at J7
      have j1 := J7.1
      have j2 := J7.2.1
      have j3 := J7.2.2.1
      have hR_G10 : MR b a G10 := hR_G.fr (f10 123 (by decide))
      have hM_G10 : MT T G10 := hM_G.fr (f10 117 (by decide)) (f10 125 (by decide))
      refine w_bp (m_longOf (b := b) hR_G10 (by omega) (by omega) (by omega)) (fun v12 hv12 => ?_)
      have qv12 := llen_rng a f
      refine w_ite (fun c_17 => ?_) (fun c_17 => ?_)
      · skip
        refine w_bp (m_listedOf (b := b) hR_G10 (by omega) (by omega) (by omega) (by omega) (by omega)) (fun v15 hv15 => ?_)
        have qv15 := hw.lr f v9
        refine w_bd (fun v16 hv16 => ?_)
        refine w_jn ?_
        refine w_jn ?_
        refine w_ite (fun c_18 => ?_) (fun c_18 => ?_)
        · skip
          refine w_bd (fun v19 hv19 => ?_)
          refine w_bd (fun v20 hv20 => ?_)
          refine w_lpII (fun (v21 : Int) (v22 : Int) => (0 ≤ v22) ∧ (v22 ≤ v8) ∧ ((v21 = 1 ∧ v19 = 1 ∧ ∀ j : Int, 0 ≤ j → j < v22 → (rwS T a n f v9.toNat).2 j ≠ v16) ∨ (v21 = 0 ∧ (v19 = 0 ∨ ∃ j : Int, 0 ≤ j ∧ j < v22 ∧ (rwS T a n f v9.toNat).2 j = v16)))) (fun (v21 : Int) (v22 : Int) => (4 - v22).toNat) (fun rc23 v21 v22 hI hrc23 => ?_) _ _ ?_ ?_
          · skip
            obtain ⟨k0, k1, e21⟩ := hI
            have r10 : v22 < v8 → G10 127 v22.toNat = (rwS T a n f v9.toNat).2 v22 := fun z => e7 v22 k0 z
            refine w_ite (fun c_19 => ?_) (fun c_19 => ?_)
            · skip
              refine w_jn ?_
              refine w_jn ?_
              refine w_ite (fun c_20 => ?_) (fun c_20 => ?_)
              · skip
                refine w_bd (fun v32 hv32 => ?_)
                refine w_bd (fun v33 hv33 => ?_)
                simp (disch := omega) only [iadd_id, isub_id, imul_id] at hv33
                refine hrc23 _ _ ?_ ?_
                · try dsimp only
                  refine ⟨?_, ?_, ?_⟩
                  · first | omega | grind
                  · first | omega | grind
                  · first
                    | (right; refine ⟨by omega, ?_⟩; rcases e21 with q | q
                       · exact absurd q.1 (by omega)
                       · rcases q.2 with q2 | ⟨j, j1, j2, j3⟩
                         · exact Or.inl q2
                         · exact Or.inr ⟨j, j1, by omega, j3⟩)
                    | (right; refine ⟨by omega, Or.inr ⟨v22, k0, by omega, ?_⟩⟩; rw [← r10 (by omega), ← hv35]; assumption)
                    | (left; rcases e21 with q | q
                       · refine ⟨by omega, q.2.1, fun j j1 j2 => ?_⟩
                         by_cases e : j = v22
                         · rw [e, ← r10 (by omega), ← hv35]; assumption
                         · exact q.2.2 j j1 (by omega)
                       · exact absurd q.1 (by omega))
                · try dsimp only
                  omega
              · skip
                refine w_rd (by omega) (by omega) (fun v35 hv35 => ?_)
                refine w_ite (fun c_21 => ?_) (fun c_21 => ?_)
                · skip
                  refine w_bd (fun v32 hv32 => ?_)
                  refine w_bd (fun v33 hv33 => ?_)
                  simp (disch := omega) only [iadd_id, isub_id, imul_id] at hv33
                  refine hrc23 _ _ ?_ ?_
                  · try dsimp only
                    refine ⟨?_, ?_, ?_⟩
                    · first | omega | grind
                    · first | omega | grind
                    · first
                      | (right; refine ⟨by omega, ?_⟩; rcases e21 with q | q
                         · exact absurd q.1 (by omega)
                         · rcases q.2 with q2 | ⟨j, j1, j2, j3⟩
                           · exact Or.inl q2
                           · exact Or.inr ⟨j, j1, by omega, j3⟩)
                      | (right; refine ⟨by omega, Or.inr ⟨v22, k0, by omega, ?_⟩⟩; rw [← r10 (by omega), ← hv35]; assumption)
                      | (left; rcases e21 with q | q
                         · refine ⟨by omega, q.2.1, fun j j1 j2 => ?_⟩
                           by_cases e : j = v22
                           · rw [e, ← r10 (by omega), ← hv35]; assumption
                           · exact q.2.2 j j1 (by omega)
                         · exact absurd q.1 (by omega))
                  · try dsimp only
                    omega
                · skip
                  refine w_bd (fun v32 hv32 => ?_)
                  refine w_bd (fun v33 hv33 => ?_)
                  simp (disch := omega) only [iadd_id, isub_id, imul_id] at hv33
                  refine hrc23 _ _ ?_ ?_
                  · try dsimp only
                    refine ⟨?_, ?_, ?_⟩
                    · first | omega | grind
                    · first | omega | grind
                    · first
                      | (right; refine ⟨by omega, ?_⟩; rcases e21 with q | q
                         · exact absurd q.1 (by omega)
                         · rcases q.2 with q2 | ⟨j, j1, j2, j3⟩
                           · exact Or.inl q2
                           · exact Or.inr ⟨j, j1, by omega, j3⟩)
                      | (right; refine ⟨by omega, Or.inr ⟨v22, k0, by omega, ?_⟩⟩; rw [← r10 (by omega), ← hv35]; assumption)
                      | (left; rcases e21 with q | q
                         · refine ⟨by omega, q.2.1, fun j j1 j2 => ?_⟩
                           by_cases e : j = v22
                           · rw [e, ← r10 (by omega), ← hv35]; assumption
                           · exact q.2.2 j j1 (by omega)
                         · exact absurd q.1 (by omega))
                  · try dsimp only
                    omega
            · skip
              refine w_jn ?_
              refine w_ite (fun c_22 => ?_) (fun c_22 => ?_)
              · skip
                refine w_bd (fun v27 hv27 => ?_)
                simp (disch := omega) only [iadd_id, isub_id, imul_id] at hv27
                refine hrc11 _ _ _ ?_ ?_
                · try dsimp only
                  refine ⟨?_, ?_, ?_, ?_, ?_⟩
                  · first | omega | grind
                  · first | omega | grind
                  · first | exact f10 | (intro c x; rw [hG28, up_ne x]; exact f10 c x)
                  · have ol := llen_in (a := a) (n := f) (k := v9) i0 (by omega)
                    have cnd1 : v21 = 0 → ¬ ((rwS T a n f v9.toNat).1 < room T n ∧ lst a f v9 ≠ -1 ∧ lst a f v9 ≠ n ∧ lst a f v9 ≠ f) := by
                      intro z y
                      rcases e21 with q | q
                      · exact absurd (q.1.symm.trans z) (by decide)
                      · rcases q.2 with q2 | ⟨j, j1, j2, j3⟩
                        · omega
                        · by_cases e0 : j = 0
                          · rw [e0, J7.2.2.2.2.2.1] at j3; omega
                          · obtain ⟨m, m1, m2, m3, m4⟩ := J7.2.2.2.2.2.2.1 j (by omega) (by omega)
                            rw [m3] at j3
                            exact ol (by rw [← hv15, ← hv16, ← j3]; exact hw.ds m1 m2 (by rw [j3, hv16, hv15]))
                    have cnd2 : v21 ≠ 0 → ((rwS T a n f v9.toNat).1 < room T n ∧ lst a f v9 ≠ -1 ∧ lst a f v9 ≠ n ∧ lst a f v9 ≠ f) := by
                      intro z
                      rcases e21 with q | q
                      · have q0 := q.2.2 0 (by omega) (by omega)
                        rw [J7.2.2.2.2.2.1] at q0
                        exact ⟨by omega, ol, by omega, by omega⟩
                      · exact absurd q.1 z
                    rw [hv27, rwS_s i0]; grind
                  · have ol := llen_in (a := a) (n := f) (k := v9) i0 (by omega)
                    have cnd1 : v21 = 0 → ¬ ((rwS T a n f v9.toNat).1 < room T n ∧ lst a f v9 ≠ -1 ∧ lst a f v9 ≠ n ∧ lst a f v9 ≠ f) := by
                      intro z y
                      rcases e21 with q | q
                      · exact absurd (q.1.symm.trans z) (by decide)
                      · rcases q.2 with q2 | ⟨j, j1, j2, j3⟩
                        · omega
                        · by_cases e0 : j = 0
                          · rw [e0, J7.2.2.2.2.2.1] at j3; omega
                          · obtain ⟨m, m1, m2, m3, m4⟩ := J7.2.2.2.2.2.2.1 j (by omega) (by omega)
                            rw [m3] at j3
                            exact ol (by rw [← hv15, ← hv16, ← j3]; exact hw.ds m1 m2 (by rw [j3, hv16, hv15]))
                    have cnd2 : v21 ≠ 0 → ((rwS T a n f v9.toNat).1 < room T n ∧ lst a f v9 ≠ -1 ∧ lst a f v9 ≠ n ∧ lst a f v9 ≠ f) := by
                      intro z
                      rcases e21 with q | q
                      · have q0 := q.2.2 0 (by omega) (by omega)
                        rw [J7.2.2.2.2.2.1] at q0
                        exact ⟨by omega, ol, by omega, by omega⟩
                      · exact absurd q.1 z
                    intro k k1 k2
                    rw [hv27, rwS_s i0]
                    first
                    | (rw [if_neg (cnd1 (by assumption))]; exact e7 k k1 k2)
                    | (rw [if_pos (cnd2 (by assumption))]
                       show G28 127 k.toNat = if k = (rwS T a n f v9.toNat).1 then lst a f v9 else (rwS T a n f v9.toNat).2 k
                       rw [hG28, up_at, ← e6]
                       by_cases e : k = v8
                       · rw [if_pos ⟨rfl, by omega⟩, if_pos e]; omega
                       · rw [if_neg (by omega), if_neg e]; exact e7 k k1 (by omega))
                · try dsimp only
                  omega
              · skip
                refine w_wr (by omega) (by omega) (fun G28 hG28 => ?_)
                refine w_bd (fun v29 hv29 => ?_)
                simp (disch := omega) only [iadd_id, isub_id, imul_id] at hv29
                refine w_bd (fun v27 hv27 => ?_)
                simp (disch := omega) only [iadd_id, isub_id, imul_id] at hv27
                refine hrc11 _ _ _ ?_ ?_
                · try dsimp only
                  refine ⟨?_, ?_, ?_, ?_, ?_⟩
                  · first | omega | grind
                  · first | omega | grind
                  · first | exact f10 | (intro c x; rw [hG28, up_ne x]; exact f10 c x)
                  · have ol := llen_in (a := a) (n := f) (k := v9) i0 (by omega)
                    have cnd1 : v21 = 0 → ¬ ((rwS T a n f v9.toNat).1 < room T n ∧ lst a f v9 ≠ -1 ∧ lst a f v9 ≠ n ∧ lst a f v9 ≠ f) := by
                      intro z y
                      rcases e21 with q | q
                      · exact absurd (q.1.symm.trans z) (by decide)
                      · rcases q.2 with q2 | ⟨j, j1, j2, j3⟩
                        · omega
                        · by_cases e0 : j = 0
                          · rw [e0, J7.2.2.2.2.2.1] at j3; omega
                          · obtain ⟨m, m1, m2, m3, m4⟩ := J7.2.2.2.2.2.2.1 j (by omega) (by omega)
                            rw [m3] at j3
                            exact ol (by rw [← hv15, ← hv16, ← j3]; exact hw.ds m1 m2 (by rw [j3, hv16, hv15]))
                    have cnd2 : v21 ≠ 0 → ((rwS T a n f v9.toNat).1 < room T n ∧ lst a f v9 ≠ -1 ∧ lst a f v9 ≠ n ∧ lst a f v9 ≠ f) := by
                      intro z
                      rcases e21 with q | q
                      · have q0 := q.2.2 0 (by omega) (by omega)
                        rw [J7.2.2.2.2.2.1] at q0
                        exact ⟨by omega, ol, by omega, by omega⟩
                      · exact absurd q.1 z
                    rw [hv27, rwS_s i0]; grind
                  · have ol := llen_in (a := a) (n := f) (k := v9) i0 (by omega)
                    have cnd1 : v21 = 0 → ¬ ((rwS T a n f v9.toNat).1 < room T n ∧ lst a f v9 ≠ -1 ∧ lst a f v9 ≠ n ∧ lst a f v9 ≠ f) := by
                      intro z y
                      rcases e21 with q | q
                      · exact absurd (q.1.symm.trans z) (by decide)
                      · rcases q.2 with q2 | ⟨j, j1, j2, j3⟩
                        · omega
                        · by_cases e0 : j = 0
                          · rw [e0, J7.2.2.2.2.2.1] at j3; omega
                          · obtain ⟨m, m1, m2, m3, m4⟩ := J7.2.2.2.2.2.2.1 j (by omega) (by omega)
                            rw [m3] at j3
                            exact ol (by rw [← hv15, ← hv16, ← j3]; exact hw.ds m1 m2 (by rw [j3, hv16, hv15]))
                    have cnd2 : v21 ≠ 0 → ((rwS T a n f v9.toNat).1 < room T n ∧ lst a f v9 ≠ -1 ∧ lst a f v9 ≠ n ∧ lst a f v9 ≠ f) := by
                      intro z
                      rcases e21 with q | q
                      · have q0 := q.2.2 0 (by omega) (by omega)
                        rw [J7.2.2.2.2.2.1] at q0
                        exact ⟨by omega, ol, by omega, by omega⟩
                      · exact absurd q.1 z
                    intro k k1 k2
                    rw [hv27, rwS_s i0]
                    first
                    | (rw [if_neg (cnd1 (by assumption))]; exact e7 k k1 k2)
                    | (rw [if_pos (cnd2 (by assumption))]
                       show G28 127 k.toNat = if k = (rwS T a n f v9.toNat).1 then lst a f v9 else (rwS T a n f v9.toNat).2 k
                       rw [hG28, up_at, ← e6]
                       by_cases e : k = v8
                       · rw [if_pos ⟨rfl, by omega⟩, if_pos e]; omega
                       · rw [if_neg (by omega), if_neg e]; exact e7 k k1 (by omega))
                · try dsimp only
                  omega
          · try dsimp only
            refine ⟨?_, ?_, ?_⟩
            · first | omega | (subst_vars; first | rfl | assumption) | assumption
            · first | omega | (subst_vars; first | rfl | assumption) | assumption
            · first | (left; exact ⟨by omega, by omega, fun j j1 j2 => by omega⟩) | (right; exact ⟨by omega, Or.inl (by omega)⟩)
          · try dsimp only
            omega
        · skip
          refine w_ite (fun c_23 => ?_) (fun c_23 => ?_)
          · skip
            refine w_bd (fun v19 hv19 => ?_)
            refine w_bd (fun v20 hv20 => ?_)
            refine w_lpII (fun (v21 : Int) (v22 : Int) => (0 ≤ v22) ∧ (v22 ≤ v8) ∧ ((v21 = 1 ∧ v19 = 1 ∧ ∀ j : Int, 0 ≤ j → j < v22 → (rwS T a n f v9.toNat).2 j ≠ v16) ∨ (v21 = 0 ∧ (v19 = 0 ∨ ∃ j : Int, 0 ≤ j ∧ j < v22 ∧ (rwS T a n f v9.toNat).2 j = v16)))) (fun (v21 : Int) (v22 : Int) => (4 - v22).toNat) (fun rc23 v21 v22 hI hrc23 => ?_) _ _ ?_ ?_
            · skip
              obtain ⟨k0, k1, e21⟩ := hI
              have r10 : v22 < v8 → G10 127 v22.toNat = (rwS T a n f v9.toNat).2 v22 := fun z => e7 v22 k0 z
              refine w_ite (fun c_24 => ?_) (fun c_24 => ?_)
              · skip
                refine w_jn ?_
                refine w_jn ?_
                refine w_ite (fun c_25 => ?_) (fun c_25 => ?_)
                · skip
                  refine w_bd (fun v32 hv32 => ?_)
                  refine w_bd (fun v33 hv33 => ?_)
                  simp (disch := omega) only [iadd_id, isub_id, imul_id] at hv33
                  refine hrc23 _ _ ?_ ?_
                  · try dsimp only
                    refine ⟨?_, ?_, ?_⟩
                    · first | omega | grind
                    · first | omega | grind
                    · first
                      | (right; refine ⟨by omega, ?_⟩; rcases e21 with q | q
                         · exact absurd q.1 (by omega)
                         · rcases q.2 with q2 | ⟨j, j1, j2, j3⟩
                           · exact Or.inl q2
                           · exact Or.inr ⟨j, j1, by omega, j3⟩)
                      | (right; refine ⟨by omega, Or.inr ⟨v22, k0, by omega, ?_⟩⟩; rw [← r10 (by omega), ← hv35]; assumption)
                      | (left; rcases e21 with q | q
                         · refine ⟨by omega, q.2.1, fun j j1 j2 => ?_⟩
                           by_cases e : j = v22
                           · rw [e, ← r10 (by omega), ← hv35]; assumption
                           · exact q.2.2 j j1 (by omega)
                         · exact absurd q.1 (by omega))
                  · try dsimp only
                    omega
                · skip
                  refine w_rd (by omega) (by omega) (fun v35 hv35 => ?_)
                  refine w_ite (fun c_26 => ?_) (fun c_26 => ?_)
                  · skip
                    refine w_bd (fun v32 hv32 => ?_)
                    refine w_bd (fun v33 hv33 => ?_)
                    simp (disch := omega) only [iadd_id, isub_id, imul_id] at hv33
                    refine hrc23 _ _ ?_ ?_
                    · try dsimp only
                      refine ⟨?_, ?_, ?_⟩
                      · first | omega | grind
                      · first | omega | grind
                      · first
                        | (right; refine ⟨by omega, ?_⟩; rcases e21 with q | q
                           · exact absurd q.1 (by omega)
                           · rcases q.2 with q2 | ⟨j, j1, j2, j3⟩
                             · exact Or.inl q2
                             · exact Or.inr ⟨j, j1, by omega, j3⟩)
                        | (right; refine ⟨by omega, Or.inr ⟨v22, k0, by omega, ?_⟩⟩; rw [← r10 (by omega), ← hv35]; assumption)
                        | (left; rcases e21 with q | q
                           · refine ⟨by omega, q.2.1, fun j j1 j2 => ?_⟩
                             by_cases e : j = v22
                             · rw [e, ← r10 (by omega), ← hv35]; assumption
                             · exact q.2.2 j j1 (by omega)
                           · exact absurd q.1 (by omega))
                    · try dsimp only
                      omega
                  · skip
                    refine w_bd (fun v32 hv32 => ?_)
                    refine w_bd (fun v33 hv33 => ?_)
                    simp (disch := omega) only [iadd_id, isub_id, imul_id] at hv33
                    refine hrc23 _ _ ?_ ?_
                    · try dsimp only
                      refine ⟨?_, ?_, ?_⟩
                      · first | omega | grind
                      · first | omega | grind
                      · first
                        | (right; refine ⟨by omega, ?_⟩; rcases e21 with q | q
                           · exact absurd q.1 (by omega)
                           · rcases q.2 with q2 | ⟨j, j1, j2, j3⟩
                             · exact Or.inl q2
                             · exact Or.inr ⟨j, j1, by omega, j3⟩)
                        | (right; refine ⟨by omega, Or.inr ⟨v22, k0, by omega, ?_⟩⟩; rw [← r10 (by omega), ← hv35]; assumption)
                        | (left; rcases e21 with q | q
                           · refine ⟨by omega, q.2.1, fun j j1 j2 => ?_⟩
                             by_cases e : j = v22
                             · rw [e, ← r10 (by omega), ← hv35]; assumption
                             · exact q.2.2 j j1 (by omega)
                           · exact absurd q.1 (by omega))
                    · try dsimp only
                      omega
              · skip
                refine w_jn ?_
                refine w_ite (fun c_27 => ?_) (fun c_27 => ?_)
                · skip
                  refine w_bd (fun v27 hv27 => ?_)
                  simp (disch := omega) only [iadd_id, isub_id, imul_id] at hv27
                  refine hrc11 _ _ _ ?_ ?_
                  · try dsimp only
                    refine ⟨?_, ?_, ?_, ?_, ?_⟩
                    · first | omega | grind
                    · first | omega | grind
                    · first | exact f10 | (intro c x; rw [hG28, up_ne x]; exact f10 c x)
                    · have ol := llen_in (a := a) (n := f) (k := v9) i0 (by omega)
                      have cnd1 : v21 = 0 → ¬ ((rwS T a n f v9.toNat).1 < room T n ∧ lst a f v9 ≠ -1 ∧ lst a f v9 ≠ n ∧ lst a f v9 ≠ f) := by
                        intro z y
                        rcases e21 with q | q
                        · exact absurd (q.1.symm.trans z) (by decide)
                        · rcases q.2 with q2 | ⟨j, j1, j2, j3⟩
                          · omega
                          · by_cases e0 : j = 0
                            · rw [e0, J7.2.2.2.2.2.1] at j3; omega
                            · obtain ⟨m, m1, m2, m3, m4⟩ := J7.2.2.2.2.2.2.1 j (by omega) (by omega)
                              rw [m3] at j3
                              exact ol (by rw [← hv15, ← hv16, ← j3]; exact hw.ds m1 m2 (by rw [j3, hv16, hv15]))
                      have cnd2 : v21 ≠ 0 → ((rwS T a n f v9.toNat).1 < room T n ∧ lst a f v9 ≠ -1 ∧ lst a f v9 ≠ n ∧ lst a f v9 ≠ f) := by
                        intro z
                        rcases e21 with q | q
                        · have q0 := q.2.2 0 (by omega) (by omega)
                          rw [J7.2.2.2.2.2.1] at q0
                          exact ⟨by omega, ol, by omega, by omega⟩
                        · exact absurd q.1 z
                      rw [hv27, rwS_s i0]; grind
                    · have ol := llen_in (a := a) (n := f) (k := v9) i0 (by omega)
                      have cnd1 : v21 = 0 → ¬ ((rwS T a n f v9.toNat).1 < room T n ∧ lst a f v9 ≠ -1 ∧ lst a f v9 ≠ n ∧ lst a f v9 ≠ f) := by
                        intro z y
                        rcases e21 with q | q
                        · exact absurd (q.1.symm.trans z) (by decide)
                        · rcases q.2 with q2 | ⟨j, j1, j2, j3⟩
                          · omega
                          · by_cases e0 : j = 0
                            · rw [e0, J7.2.2.2.2.2.1] at j3; omega
                            · obtain ⟨m, m1, m2, m3, m4⟩ := J7.2.2.2.2.2.2.1 j (by omega) (by omega)
                              rw [m3] at j3
                              exact ol (by rw [← hv15, ← hv16, ← j3]; exact hw.ds m1 m2 (by rw [j3, hv16, hv15]))
                      have cnd2 : v21 ≠ 0 → ((rwS T a n f v9.toNat).1 < room T n ∧ lst a f v9 ≠ -1 ∧ lst a f v9 ≠ n ∧ lst a f v9 ≠ f) := by
                        intro z
                        rcases e21 with q | q
                        · have q0 := q.2.2 0 (by omega) (by omega)
                          rw [J7.2.2.2.2.2.1] at q0
                          exact ⟨by omega, ol, by omega, by omega⟩
                        · exact absurd q.1 z
                      intro k k1 k2
                      rw [hv27, rwS_s i0]
                      first
                      | (rw [if_neg (cnd1 (by assumption))]; exact e7 k k1 k2)
                      | (rw [if_pos (cnd2 (by assumption))]
                         show G28 127 k.toNat = if k = (rwS T a n f v9.toNat).1 then lst a f v9 else (rwS T a n f v9.toNat).2 k
                         rw [hG28, up_at, ← e6]
                         by_cases e : k = v8
                         · rw [if_pos ⟨rfl, by omega⟩, if_pos e]; omega
                         · rw [if_neg (by omega), if_neg e]; exact e7 k k1 (by omega))
                  · try dsimp only
                    omega
                · skip
                  refine w_wr (by omega) (by omega) (fun G28 hG28 => ?_)
                  refine w_bd (fun v29 hv29 => ?_)
                  simp (disch := omega) only [iadd_id, isub_id, imul_id] at hv29
                  refine w_bd (fun v27 hv27 => ?_)
                  simp (disch := omega) only [iadd_id, isub_id, imul_id] at hv27
                  refine hrc11 _ _ _ ?_ ?_
                  · try dsimp only
                    refine ⟨?_, ?_, ?_, ?_, ?_⟩
                    · first | omega | grind
                    · first | omega | grind
                    · first | exact f10 | (intro c x; rw [hG28, up_ne x]; exact f10 c x)
                    · have ol := llen_in (a := a) (n := f) (k := v9) i0 (by omega)
                      have cnd1 : v21 = 0 → ¬ ((rwS T a n f v9.toNat).1 < room T n ∧ lst a f v9 ≠ -1 ∧ lst a f v9 ≠ n ∧ lst a f v9 ≠ f) := by
                        intro z y
                        rcases e21 with q | q
                        · exact absurd (q.1.symm.trans z) (by decide)
                        · rcases q.2 with q2 | ⟨j, j1, j2, j3⟩
                          · omega
                          · by_cases e0 : j = 0
                            · rw [e0, J7.2.2.2.2.2.1] at j3; omega
                            · obtain ⟨m, m1, m2, m3, m4⟩ := J7.2.2.2.2.2.2.1 j (by omega) (by omega)
                              rw [m3] at j3
                              exact ol (by rw [← hv15, ← hv16, ← j3]; exact hw.ds m1 m2 (by rw [j3, hv16, hv15]))
                      have cnd2 : v21 ≠ 0 → ((rwS T a n f v9.toNat).1 < room T n ∧ lst a f v9 ≠ -1 ∧ lst a f v9 ≠ n ∧ lst a f v9 ≠ f) := by
                        intro z
                        rcases e21 with q | q
                        · have q0 := q.2.2 0 (by omega) (by omega)
                          rw [J7.2.2.2.2.2.1] at q0
                          exact ⟨by omega, ol, by omega, by omega⟩
                        · exact absurd q.1 z
                      rw [hv27, rwS_s i0]; grind
                    · have ol := llen_in (a := a) (n := f) (k := v9) i0 (by omega)
                      have cnd1 : v21 = 0 → ¬ ((rwS T a n f v9.toNat).1 < room T n ∧ lst a f v9 ≠ -1 ∧ lst a f v9 ≠ n ∧ lst a f v9 ≠ f) := by
                        intro z y
                        rcases e21 with q | q
                        · exact absurd (q.1.symm.trans z) (by decide)
                        · rcases q.2 with q2 | ⟨j, j1, j2, j3⟩
                          · omega
                          · by_cases e0 : j = 0
                            · rw [e0, J7.2.2.2.2.2.1] at j3; omega
                            · obtain ⟨m, m1, m2, m3, m4⟩ := J7.2.2.2.2.2.2.1 j (by omega) (by omega)
                              rw [m3] at j3
                              exact ol (by rw [← hv15, ← hv16, ← j3]; exact hw.ds m1 m2 (by rw [j3, hv16, hv15]))
                      have cnd2 : v21 ≠ 0 → ((rwS T a n f v9.toNat).1 < room T n ∧ lst a f v9 ≠ -1 ∧ lst a f v9 ≠ n ∧ lst a f v9 ≠ f) := by
                        intro z
                        rcases e21 with q | q
                        · have q0 := q.2.2 0 (by omega) (by omega)
                          rw [J7.2.2.2.2.2.1] at q0
                          exact ⟨by omega, ol, by omega, by omega⟩
                        · exact absurd q.1 z
                      intro k k1 k2
                      rw [hv27, rwS_s i0]
                      first
                      | (rw [if_neg (cnd1 (by assumption))]; exact e7 k k1 k2)
                      | (rw [if_pos (cnd2 (by assumption))]
                         show G28 127 k.toNat = if k = (rwS T a n f v9.toNat).1 then lst a f v9 else (rwS T a n f v9.toNat).2 k
                         rw [hG28, up_at, ← e6]
                         by_cases e : k = v8
                         · rw [if_pos ⟨rfl, by omega⟩, if_pos e]; omega
                         · rw [if_neg (by omega), if_neg e]; exact e7 k k1 (by omega))
                  · try dsimp only
                    omega
            · try dsimp only
              refine ⟨?_, ?_, ?_⟩
              · first | omega | (subst_vars; first | rfl | assumption) | assumption
              · first | omega | (subst_vars; first | rfl | assumption) | assumption
              · first | (left; exact ⟨by omega, by omega, fun j j1 j2 => by omega⟩) | (right; exact ⟨by omega, Or.inl (by omega)⟩)
            · try dsimp only
              omega
          · skip
            refine w_bd (fun v19 hv19 => ?_)
            refine w_bd (fun v20 hv20 => ?_)
            refine w_lpII (fun (v21 : Int) (v22 : Int) => (0 ≤ v22) ∧ (v22 ≤ v8) ∧ ((v21 = 1 ∧ v19 = 1 ∧ ∀ j : Int, 0 ≤ j → j < v22 → (rwS T a n f v9.toNat).2 j ≠ v16) ∨ (v21 = 0 ∧ (v19 = 0 ∨ ∃ j : Int, 0 ≤ j ∧ j < v22 ∧ (rwS T a n f v9.toNat).2 j = v16)))) (fun (v21 : Int) (v22 : Int) => (4 - v22).toNat) (fun rc23 v21 v22 hI hrc23 => ?_) _ _ ?_ ?_
            · skip
              obtain ⟨k0, k1, e21⟩ := hI
              have r10 : v22 < v8 → G10 127 v22.toNat = (rwS T a n f v9.toNat).2 v22 := fun z => e7 v22 k0 z
              refine w_ite (fun c_28 => ?_) (fun c_28 => ?_)
              · skip
                refine w_jn ?_
                refine w_jn ?_
                refine w_ite (fun c_29 => ?_) (fun c_29 => ?_)
                · skip
                  refine w_bd (fun v32 hv32 => ?_)
                  refine w_bd (fun v33 hv33 => ?_)
                  simp (disch := omega) only [iadd_id, isub_id, imul_id] at hv33
                  refine hrc23 _ _ ?_ ?_
                  · try dsimp only
                    refine ⟨?_, ?_, ?_⟩
                    · first | omega | grind
                    · first | omega | grind
                    · first
                      | (right; refine ⟨by omega, ?_⟩; rcases e21 with q | q
                         · exact absurd q.1 (by omega)
                         · rcases q.2 with q2 | ⟨j, j1, j2, j3⟩
                           · exact Or.inl q2
                           · exact Or.inr ⟨j, j1, by omega, j3⟩)
                      | (right; refine ⟨by omega, Or.inr ⟨v22, k0, by omega, ?_⟩⟩; rw [← r10 (by omega), ← hv35]; assumption)
                      | (left; rcases e21 with q | q
                         · refine ⟨by omega, q.2.1, fun j j1 j2 => ?_⟩
                           by_cases e : j = v22
                           · rw [e, ← r10 (by omega), ← hv35]; assumption
                           · exact q.2.2 j j1 (by omega)
                         · exact absurd q.1 (by omega))
                  · try dsimp only
                    omega
                · skip
                  refine w_rd (by omega) (by omega) (fun v35 hv35 => ?_)
                  refine w_ite (fun c_30 => ?_) (fun c_30 => ?_)
                  · skip
                    refine w_bd (fun v32 hv32 => ?_)
                    refine w_bd (fun v33 hv33 => ?_)
                    simp (disch := omega) only [iadd_id, isub_id, imul_id] at hv33
                    refine hrc23 _ _ ?_ ?_
                    · try dsimp only
                      refine ⟨?_, ?_, ?_⟩
                      · first | omega | grind
                      · first | omega | grind
                      · first
                        | (right; refine ⟨by omega, ?_⟩; rcases e21 with q | q
                           · exact absurd q.1 (by omega)
                           · rcases q.2 with q2 | ⟨j, j1, j2, j3⟩
                             · exact Or.inl q2
                             · exact Or.inr ⟨j, j1, by omega, j3⟩)
                        | (right; refine ⟨by omega, Or.inr ⟨v22, k0, by omega, ?_⟩⟩; rw [← r10 (by omega), ← hv35]; assumption)
                        | (left; rcases e21 with q | q
                           · refine ⟨by omega, q.2.1, fun j j1 j2 => ?_⟩
                             by_cases e : j = v22
                             · rw [e, ← r10 (by omega), ← hv35]; assumption
                             · exact q.2.2 j j1 (by omega)
                           · exact absurd q.1 (by omega))
                    · try dsimp only
                      omega
                  · skip
                    refine w_bd (fun v32 hv32 => ?_)
                    refine w_bd (fun v33 hv33 => ?_)
                    simp (disch := omega) only [iadd_id, isub_id, imul_id] at hv33
                    refine hrc23 _ _ ?_ ?_
                    · try dsimp only
                      refine ⟨?_, ?_, ?_⟩
                      · first | omega | grind
                      · first | omega | grind
                      · first
                        | (right; refine ⟨by omega, ?_⟩; rcases e21 with q | q
                           · exact absurd q.1 (by omega)
                           · rcases q.2 with q2 | ⟨j, j1, j2, j3⟩
                             · exact Or.inl q2
                             · exact Or.inr ⟨j, j1, by omega, j3⟩)
                        | (right; refine ⟨by omega, Or.inr ⟨v22, k0, by omega, ?_⟩⟩; rw [← r10 (by omega), ← hv35]; assumption)
                        | (left; rcases e21 with q | q
                           · refine ⟨by omega, q.2.1, fun j j1 j2 => ?_⟩
                             by_cases e : j = v22
                             · rw [e, ← r10 (by omega), ← hv35]; assumption
                             · exact q.2.2 j j1 (by omega)
                           · exact absurd q.1 (by omega))
                    · try dsimp only
                      omega
              · skip
                refine w_jn ?_
                refine w_ite (fun c_31 => ?_) (fun c_31 => ?_)
                · skip
                  refine w_bd (fun v27 hv27 => ?_)
                  simp (disch := omega) only [iadd_id, isub_id, imul_id] at hv27
                  refine hrc11 _ _ _ ?_ ?_
                  · try dsimp only
                    refine ⟨?_, ?_, ?_, ?_, ?_⟩
                    · first | omega | grind
                    · first | omega | grind
                    · first | exact f10 | (intro c x; rw [hG28, up_ne x]; exact f10 c x)
                    · have ol := llen_in (a := a) (n := f) (k := v9) i0 (by omega)
                      have cnd1 : v21 = 0 → ¬ ((rwS T a n f v9.toNat).1 < room T n ∧ lst a f v9 ≠ -1 ∧ lst a f v9 ≠ n ∧ lst a f v9 ≠ f) := by
                        intro z y
                        rcases e21 with q | q
                        · exact absurd (q.1.symm.trans z) (by decide)
                        · rcases q.2 with q2 | ⟨j, j1, j2, j3⟩
                          · omega
                          · by_cases e0 : j = 0
                            · rw [e0, J7.2.2.2.2.2.1] at j3; omega
                            · obtain ⟨m, m1, m2, m3, m4⟩ := J7.2.2.2.2.2.2.1 j (by omega) (by omega)
                              rw [m3] at j3
                              exact ol (by rw [← hv15, ← hv16, ← j3]; exact hw.ds m1 m2 (by rw [j3, hv16, hv15]))
                      have cnd2 : v21 ≠ 0 → ((rwS T a n f v9.toNat).1 < room T n ∧ lst a f v9 ≠ -1 ∧ lst a f v9 ≠ n ∧ lst a f v9 ≠ f) := by
                        intro z
                        rcases e21 with q | q
                        · have q0 := q.2.2 0 (by omega) (by omega)
                          rw [J7.2.2.2.2.2.1] at q0
                          exact ⟨by omega, ol, by omega, by omega⟩
                        · exact absurd q.1 z
                      rw [hv27, rwS_s i0]; grind
                    · have ol := llen_in (a := a) (n := f) (k := v9) i0 (by omega)
                      have cnd1 : v21 = 0 → ¬ ((rwS T a n f v9.toNat).1 < room T n ∧ lst a f v9 ≠ -1 ∧ lst a f v9 ≠ n ∧ lst a f v9 ≠ f) := by
                        intro z y
                        rcases e21 with q | q
                        · exact absurd (q.1.symm.trans z) (by decide)
                        · rcases q.2 with q2 | ⟨j, j1, j2, j3⟩
                          · omega
                          · by_cases e0 : j = 0
                            · rw [e0, J7.2.2.2.2.2.1] at j3; omega
                            · obtain ⟨m, m1, m2, m3, m4⟩ := J7.2.2.2.2.2.2.1 j (by omega) (by omega)
                              rw [m3] at j3
                              exact ol (by rw [← hv15, ← hv16, ← j3]; exact hw.ds m1 m2 (by rw [j3, hv16, hv15]))
                      have cnd2 : v21 ≠ 0 → ((rwS T a n f v9.toNat).1 < room T n ∧ lst a f v9 ≠ -1 ∧ lst a f v9 ≠ n ∧ lst a f v9 ≠ f) := by
                        intro z
                        rcases e21 with q | q
                        · have q0 := q.2.2 0 (by omega) (by omega)
                          rw [J7.2.2.2.2.2.1] at q0
                          exact ⟨by omega, ol, by omega, by omega⟩
                        · exact absurd q.1 z
                      intro k k1 k2
                      rw [hv27, rwS_s i0]
                      first
                      | (rw [if_neg (cnd1 (by assumption))]; exact e7 k k1 k2)
                      | (rw [if_pos (cnd2 (by assumption))]
                         show G28 127 k.toNat = if k = (rwS T a n f v9.toNat).1 then lst a f v9 else (rwS T a n f v9.toNat).2 k
                         rw [hG28, up_at, ← e6]
                         by_cases e : k = v8
                         · rw [if_pos ⟨rfl, by omega⟩, if_pos e]; omega
                         · rw [if_neg (by omega), if_neg e]; exact e7 k k1 (by omega))
                  · try dsimp only
                    omega
                · skip
                  refine w_wr (by omega) (by omega) (fun G28 hG28 => ?_)
                  refine w_bd (fun v29 hv29 => ?_)
                  simp (disch := omega) only [iadd_id, isub_id, imul_id] at hv29
                  refine w_bd (fun v27 hv27 => ?_)
                  simp (disch := omega) only [iadd_id, isub_id, imul_id] at hv27
                  refine hrc11 _ _ _ ?_ ?_
                  · try dsimp only
                    refine ⟨?_, ?_, ?_, ?_, ?_⟩
                    · first | omega | grind
                    · first | omega | grind
                    · first | exact f10 | (intro c x; rw [hG28, up_ne x]; exact f10 c x)
                    · have ol := llen_in (a := a) (n := f) (k := v9) i0 (by omega)
                      have cnd1 : v21 = 0 → ¬ ((rwS T a n f v9.toNat).1 < room T n ∧ lst a f v9 ≠ -1 ∧ lst a f v9 ≠ n ∧ lst a f v9 ≠ f) := by
                        intro z y
                        rcases e21 with q | q
                        · exact absurd (q.1.symm.trans z) (by decide)
                        · rcases q.2 with q2 | ⟨j, j1, j2, j3⟩
                          · omega
                          · by_cases e0 : j = 0
                            · rw [e0, J7.2.2.2.2.2.1] at j3; omega
                            · obtain ⟨m, m1, m2, m3, m4⟩ := J7.2.2.2.2.2.2.1 j (by omega) (by omega)
                              rw [m3] at j3
                              exact ol (by rw [← hv15, ← hv16, ← j3]; exact hw.ds m1 m2 (by rw [j3, hv16, hv15]))
                      have cnd2 : v21 ≠ 0 → ((rwS T a n f v9.toNat).1 < room T n ∧ lst a f v9 ≠ -1 ∧ lst a f v9 ≠ n ∧ lst a f v9 ≠ f) := by
                        intro z
                        rcases e21 with q | q
                        · have q0 := q.2.2 0 (by omega) (by omega)
                          rw [J7.2.2.2.2.2.1] at q0
                          exact ⟨by omega, ol, by omega, by omega⟩
                        · exact absurd q.1 z
                      rw [hv27, rwS_s i0]; grind
                    · have ol := llen_in (a := a) (n := f) (k := v9) i0 (by omega)
                      have cnd1 : v21 = 0 → ¬ ((rwS T a n f v9.toNat).1 < room T n ∧ lst a f v9 ≠ -1 ∧ lst a f v9 ≠ n ∧ lst a f v9 ≠ f) := by
                        intro z y
                        rcases e21 with q | q
                        · exact absurd (q.1.symm.trans z) (by decide)
                        · rcases q.2 with q2 | ⟨j, j1, j2, j3⟩
                          · omega
                          · by_cases e0 : j = 0
                            · rw [e0, J7.2.2.2.2.2.1] at j3; omega
                            · obtain ⟨m, m1, m2, m3, m4⟩ := J7.2.2.2.2.2.2.1 j (by omega) (by omega)
                              rw [m3] at j3
                              exact ol (by rw [← hv15, ← hv16, ← j3]; exact hw.ds m1 m2 (by rw [j3, hv16, hv15]))
                      have cnd2 : v21 ≠ 0 → ((rwS T a n f v9.toNat).1 < room T n ∧ lst a f v9 ≠ -1 ∧ lst a f v9 ≠ n ∧ lst a f v9 ≠ f) := by
                        intro z
                        rcases e21 with q | q
                        · have q0 := q.2.2 0 (by omega) (by omega)
                          rw [J7.2.2.2.2.2.1] at q0
                          exact ⟨by omega, ol, by omega, by omega⟩
                        · exact absurd q.1 z
                      intro k k1 k2
                      rw [hv27, rwS_s i0]
                      first
                      | (rw [if_neg (cnd1 (by assumption))]; exact e7 k k1 k2)
                      | (rw [if_pos (cnd2 (by assumption))]
                         show G28 127 k.toNat = if k = (rwS T a n f v9.toNat).1 then lst a f v9 else (rwS T a n f v9.toNat).2 k
                         rw [hG28, up_at, ← e6]
                         by_cases e : k = v8
                         · rw [if_pos ⟨rfl, by omega⟩, if_pos e]; omega
                         · rw [if_neg (by omega), if_neg e]; exact e7 k k1 (by omega))
                  · try dsimp only
                    omega
            · try dsimp only
              refine ⟨?_, ?_, ?_⟩
              · first | omega | (subst_vars; first | rfl | assumption) | assumption
              · first | omega | (subst_vars; first | rfl | assumption) | assumption
              · first | (left; exact ⟨by omega, by omega, fun j j1 j2 => by omega⟩) | (right; exact ⟨by omega, Or.inl (by omega)⟩)
            · try dsimp only
              omega
      · skip
        have e4 : rwS T a n f 4 = rwS T a n f v9.toNat := rwS_out hw (by omega) (by have := llen_rng a f; omega)
        refine w_bn (m_listIs hb hR_G10 h1 (by omega) (m := v8) (by omega) (by omega) (l := nls T a n f) (fun k k1 k2 => ⟨by unfold nls; rw [e4]; have := J7.2.2.2.1 k k1 (by omega); omega, by unfold nls; rw [e4]; exact e7 k k1 k2⟩) (fun k k1 => by unfold nls; rw [e4]; exact J7.2.2.2.2.1 k (Or.inr (by omega)))) (fun _ G13 q13 => ?_)
        refine w_rt ?_
        exact ⟨fun c x y => by rw [q13.1 c x, f10 c y], fun i x => by rw [q13.2.1 i x, f10 123 (by decide)], q13.2.2⟩
    · try dsimp only
      refine ⟨?_, ?_, ?_, ?_, ?_⟩
      · first | omega | (subst_vars; first | rfl | assumption) | assumption
      · first | omega | (subst_vars; first | rfl | assumption) | assumption
      · intro c x; rw [hG6, up_ne x]
      · rw [hv7, hv5]; rfl
      · intro k k1 k2; rw [hG6, up_at, hv7]; have : k = 0 := by omega
        subst this; rfl
    · try dsimp only
      omega

end LIS
