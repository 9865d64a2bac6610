section LOO
variable {b : Nat} {a : AS} {G : Hp} {T : TT}
theorem way_tot {x y : Int} : ∃ r, fX8_way 4 x y G = some (r, G) := by
  unfold fX8_way; rw [bd_s]; split
  · exact ⟨_, rfl⟩
  · exact ⟨_, rfl⟩
theorem x_isBetw (h : XT T G) (w : WT T) {n f t : Int} (h1 : 0 ≤ n) (h2 : n < 8) (h3 : 0 ≤ f) (h4 : f < 8) (h5 : 0 ≤ t) (h6 : t < 8) : WP (fX8_isBetween 4 n f t G) (fun r G' => G' = G ∧ (r = 0 ∨ r = 1) ∧ (n < tN T ∧ f < tN T ∧ t < tN T → (r = 1 ↔ wT T f n < wT T f t))) := by
  by_cases c : n < tN T ∧ f < tN T ∧ t < tN T
  · refine WP_of (x_isBetween h w h1 c.1 h3 c.2.1 h5 c.2.2) ⟨rfl, ?_, fun _ => ?_⟩
    · split <;> simp
    · split <;> simp [*]
  · unfold fX8_isBetween
    rw [rf_4_5, rd_in h3 (by omega), br_s, rd_in h1 (by omega), br_s, rd_in h5 (by omega)]
    obtain ⟨r1, e1⟩ := way_tot (G := G) (x := G 6 f.toNat) (y := G 6 n.toNat)
    obtain ⟨r2, e2⟩ := way_tot (G := G) (x := G 6 f.toNat) (y := G 6 t.toNat)
    rw [e1, bp_s, br_s, br_s, e2, bp_s]
    refine w_ite (fun _ => ?_) (fun _ => ?_)
    · exact w_rz (Or.inr rfl) ⟨rfl, Or.inr rfl, fun z => absurd z c⟩
    · exact w_rz (Or.inl rfl) ⟨rfl, Or.inl rfl, fun z => absurd z c⟩
theorem tp_ne (w : WT T) {n m : Int} (h1 : 0 ≤ n) (h2 : n < tN T) (h3 : 0 ≤ m) (h4 : m < tN T) (h : n ≠ m) : tp T n ≠ tp T m := fun z => h (w.2.2.2.2.2.1 n m h1 h2 h3 h4 z)
theorem btw (w : WT T) {p o n : Int} (h1 : 0 ≤ p) (h2 : p < tN T) (h3 : 0 ≤ o) (h4 : o < tN T) (h5 : 0 ≤ n) (h6 : n < tN T) (x : p ≠ o) (y : o ≠ n) (z : p ≠ n) : wT T p o < wT T p n ↔ wT T o n < wT T p n := by
  have := w.pl h1 h2
  have := w.pl h3 h4
  have := w.pl h5 h6
  have := tp_ne w h1 h2 h3 h4 x
  have := tp_ne w h3 h4 h5 h6 y
  have := tp_ne w h1 h2 h5 h6 z
  unfold wT wy
  split <;> split <;> split <;> omega
theorem onw_w (w : WT T) {n o : Int} (h1 : 0 ≤ n) (h2 : n < tN T) (h3 : 0 ≤ o) (h4 : o < tN T) : onw T (tp T n + 1) o = wT T n o - 1 := by
  have := w.pl h1 h2
  have := w.pl h3 h4
  unfold onw wT wy
  split <;> split <;> omega
theorem wT_self (w : WT T) {n : Int} : wT T n n = tC T := by unfold wT wy; rw [if_neg (by omega)]; omega
theorem x_previousOf (w : WT T) (hw : WA T a) (hA_G : XA 27 a G) (hT_G : XT T G) {n : Int} (h1 : 0 ≤ n) (h2 : n < 8) : WP (fX2_previousOf 33 n G) (fun r G' => G' = G ∧ (isi a n = 1 → (r = -1 ∧ prv T a n = n) ∨ (r ≠ -1 ∧ r ≠ n ∧ r = prv T a n))) := by
  have wr := w.rg
  unfold fX2_previousOf
  simp only [rf_33_0, rf_33_1]
  refine w_bd (fun v1 hv1 => ?_)
  refine w_bd (fun v2 hv2 => ?_)
  refine w_lpII (fun (v3 : Int) (v4 : Int) => (0 ≤ v4) ∧ (v4 ≤ 8) ∧ ((v3 = -1 ∧ ∀ o : Int, 0 ≤ o → o < v4 → o ≠ n → isi a o = 0) ∨ (0 ≤ v3 ∧ v3 < tN T ∧ v3 ≠ n ∧ v3 < v4 ∧ isi a v3 = 1 ∧ (isi a n = 1 → ∀ o : Int, 0 ≤ o → o < v4 → o ≠ n → isi a o = 1 → wT T v3 n ≤ wT T o n)))) (fun (v3 : Int) (v4 : Int) => (8 - v4).toNat) (fun rc5 v3 v4 hI hrc5 => ?_) _ _ ?_ ?_
  · skip
    obtain ⟨i0, i1, e⟩ := hI
    refine w_ite (fun c_1 => ?_) (fun c_1 => ?_)
    · skip
      refine w_jn ?_
      refine w_jn ?_
      refine w_ite (fun c_2 => ?_) (fun c_2 => ?_)
      · skip
        refine w_bd (fun v8 hv8 => ?_)
        refine w_jn ?_
        refine w_ite (fun c_3 => ?_) (fun c_3 => ?_)
        · skip
          refine w_bd (fun v11 hv11 => ?_)
          simp (disch := omega) only [iadd_id, isub_id, imul_id] at hv11
          refine hrc5 _ _ ?_ ?_
          · try dsimp only
            refine ⟨?_, ?_, ?_⟩
            · first | omega | grind
            · first | omega | grind
            · rw [hv11]
              first
              | (right; rw [hv13]; refine ⟨by omega, by omega, by omega, by omega, by omega, fun hn o x y z t => ?_⟩
                 by_cases u : o = v4
                 · rw [u]; exact Int.le_refl _
                 · first
                   | (have e3 := e.resolve_right (fun z => by omega); have := e3.2 o x (by omega) z; omega)
                   | (have := e3.2.2.2.2.2 hn o x (by omega) z t; have := (q14b hn).mp (by omega); omega))
              | (rcases e with e | e
                 · first
                   | (exfalso; omega)
                   | (left; refine ⟨e.1, fun o x y z => ?_⟩
                      by_cases u : o = v4
                      · rw [u]; omega
                      · exact e.2 o x (by omega) z)
                 · right; refine ⟨by omega, by omega, by omega, by omega, by omega, fun hn o x y z t => ?_⟩
                   by_cases u : o = v4
                   · first
                     | (exfalso; rw [u] at t z; omega)
                     | (have q := q14b hn; rw [u]; omega)
                   · exact e.2.2.2.2.2 hn o x (by omega) z t)
          · try dsimp only
            omega
        · exfalso; omega
      · skip
        refine w_bp (x_isIn hA_G hw.1) (fun v16 hv16 => ?_)
        have qv16 := hw.inr (n := v4)
        refine w_ite (fun c_4 => ?_) (fun c_4 => ?_)
        · skip
          refine w_bd (fun v8 hv8 => ?_)
          refine w_jn ?_
          refine w_ite (fun c_5 => ?_) (fun c_5 => ?_)
          · skip
            refine w_bd (fun v11 hv11 => ?_)
            simp (disch := omega) only [iadd_id, isub_id, imul_id] at hv11
            refine hrc5 _ _ ?_ ?_
            · try dsimp only
              refine ⟨?_, ?_, ?_⟩
              · first | omega | grind
              · first | omega | grind
              · rw [hv11]
                first
                | (right; rw [hv13]; refine ⟨by omega, by omega, by omega, by omega, by omega, fun hn o x y z t => ?_⟩
                   by_cases u : o = v4
                   · rw [u]; exact Int.le_refl _
                   · first
                     | (have e3 := e.resolve_right (fun z => by omega); have := e3.2 o x (by omega) z; omega)
                     | (have := e3.2.2.2.2.2 hn o x (by omega) z t; have := (q14b hn).mp (by omega); omega))
                | (rcases e with e | e
                   · first
                     | (exfalso; omega)
                     | (left; refine ⟨e.1, fun o x y z => ?_⟩
                        by_cases u : o = v4
                        · rw [u]; omega
                        · exact e.2 o x (by omega) z)
                   · right; refine ⟨by omega, by omega, by omega, by omega, by omega, fun hn o x y z t => ?_⟩
                     by_cases u : o = v4
                     · first
                       | (exfalso; rw [u] at t z; omega)
                       | (have q := q14b hn; rw [u]; omega)
                     · exact e.2.2.2.2.2 hn o x (by omega) z t)
            · try dsimp only
              omega
          · exfalso; omega
        · skip
          refine w_bd (fun v8 hv8 => ?_)
          refine w_jn ?_
          refine w_ite (fun c_6 => ?_) (fun c_6 => ?_)
          · exfalso; omega
          · skip
            refine w_jn ?_
            refine w_ite (fun c_7 => ?_) (fun c_7 => ?_)
            · skip
              refine w_bd (fun v13 hv13 => ?_)
              refine w_bd (fun v11 hv11 => ?_)
              simp (disch := omega) only [iadd_id, isub_id, imul_id] at hv11
              refine hrc5 _ _ ?_ ?_
              · try dsimp only
                refine ⟨?_, ?_, ?_⟩
                · first | omega | grind
                · first | omega | grind
                · rw [hv11]
                  first
                  | (right; rw [hv13]; refine ⟨by omega, by omega, by omega, by omega, by omega, fun hn o x y z t => ?_⟩
                     by_cases u : o = v4
                     · rw [u]; exact Int.le_refl _
                     · first
                       | (have e3 := e.resolve_right (fun z => by omega); have := e3.2 o x (by omega) z; omega)
                       | (have := e3.2.2.2.2.2 hn o x (by omega) z t; have := (q14b hn).mp (by omega); omega))
                  | (rcases e with e | e
                     · first
                       | (exfalso; omega)
                       | (left; refine ⟨e.1, fun o x y z => ?_⟩
                          by_cases u : o = v4
                          · rw [u]; omega
                          · exact e.2 o x (by omega) z)
                     · right; refine ⟨by omega, by omega, by omega, by omega, by omega, fun hn o x y z t => ?_⟩
                       by_cases u : o = v4
                       · first
                         | (exfalso; rw [u] at t z; omega)
                         | (have q := q14b hn; rw [u]; omega)
                       · exact e.2.2.2.2.2 hn o x (by omega) z t)
              · try dsimp only
                omega
            · skip
              have e3 := e.resolve_left (fun z => by omega)
              refine w_bpq (x_isBetw hT_G w (n := v4) (f := v3) (t := n) (by omega) (by omega) (by omega) (by omega) h1 h2) (fun v14 g14 q14 => ?_)
              have q14a := q14.2.1
              have q14b : isi a n = 1 → (v14 = 1 ↔ wT T v4 n < wT T v3 n) := fun z => by
                have := hw.inr (n := n)
                rw [q14.2.2 ⟨by omega, by omega, by omega⟩]
                exact btw w (by omega) (by omega) (by omega) (by omega) h1 (by omega) (fun y => by rw [y] at e3; exact absurd e3.2.2.2.1 (by omega)) (by omega) (by omega)
              refine w_ite (fun c_8 => ?_) (fun c_8 => ?_)
              · skip
                refine w_bd (fun v11 hv11 => ?_)
                simp (disch := omega) only [iadd_id, isub_id, imul_id] at hv11
                refine hrc5 _ _ ?_ ?_
                · try dsimp only
                  refine ⟨?_, ?_, ?_⟩
                  · first | omega | grind
                  · first | omega | grind
                  · rw [hv11]
                    first
                    | (right; rw [hv13]; refine ⟨by omega, by omega, by omega, by omega, by omega, fun hn o x y z t => ?_⟩
                       by_cases u : o = v4
                       · rw [u]; exact Int.le_refl _
                       · first
                         | (have e3 := e.resolve_right (fun z => by omega); have := e3.2 o x (by omega) z; omega)
                         | (have := e3.2.2.2.2.2 hn o x (by omega) z t; have := (q14b hn).mp (by omega); omega))
                    | (rcases e with e | e
                       · first
                         | (exfalso; omega)
                         | (left; refine ⟨e.1, fun o x y z => ?_⟩
                            by_cases u : o = v4
                            · rw [u]; omega
                            · exact e.2 o x (by omega) z)
                       · right; refine ⟨by omega, by omega, by omega, by omega, by omega, fun hn o x y z t => ?_⟩
                         by_cases u : o = v4
                         · first
                           | (exfalso; rw [u] at t z; omega)
                           | (have q := q14b hn; rw [u]; omega)
                         · exact e.2.2.2.2.2 hn o x (by omega) z t)
                · try dsimp only
                  omega
              · skip
                refine w_bd (fun v13 hv13 => ?_)
                refine w_bd (fun v11 hv11 => ?_)
                simp (disch := omega) only [iadd_id, isub_id, imul_id] at hv11
                refine hrc5 _ _ ?_ ?_
                · try dsimp only
                  refine ⟨?_, ?_, ?_⟩
                  · first | omega | grind
                  · first | omega | grind
                  · rw [hv11]
                    first
                    | (right; rw [hv13]; refine ⟨by omega, by omega, by omega, by omega, by omega, fun hn o x y z t => ?_⟩
                       by_cases u : o = v4
                       · rw [u]; exact Int.le_refl _
                       · first
                         | (have e3 := e.resolve_right (fun z => by omega); have := e3.2 o x (by omega) z; omega)
                         | (have := e3.2.2.2.2.2 hn o x (by omega) z t; have := (q14b hn).mp (by omega); omega))
                    | (rcases e with e | e
                       · first
                         | (exfalso; omega)
                         | (left; refine ⟨e.1, fun o x y z => ?_⟩
                            by_cases u : o = v4
                            · rw [u]; omega
                            · exact e.2 o x (by omega) z)
                       · right; refine ⟨by omega, by omega, by omega, by omega, by omega, fun hn o x y z t => ?_⟩
                         by_cases u : o = v4
                         · first
                           | (exfalso; rw [u] at t z; omega)
                           | (have q := q14b hn; rw [u]; omega)
                         · exact e.2.2.2.2.2 hn o x (by omega) z t)
                · try dsimp only
                  omega
    · skip
      refine w_rt ?_
      refine ⟨rfl, fun hn => ?_⟩
      have ni := hw.inr (n := n)
      have ib : ∀ n : Int, 0 ≤ n → n < 8 → (bt a.1 n.toNat = 1 ↔ isi a n = 1) := fun n h1 h2 => by rw [isi_bt h1 h2]
      have sf := wT_self w (n := n)
      rcases e with e | e
      · left; refine ⟨e.1, (prv_is w hw (by omega) (by omega) (Or.inr ⟨h1, h2, (ib n h1 h2).mpr hn, fun m x y z => ?_⟩)).symm⟩
        by_cases u : m = n
        · rw [u]; exact Int.le_refl _
        · have := e.2 m x (by omega) u
          rw [ib m x y] at z; omega
      · right; refine ⟨by omega, e.2.2.1, prv_is w hw (by omega) (by omega) (Or.inr ⟨e.1, by omega, (ib v3 e.1 (by omega)).mpr e.2.2.2.2.1, fun m x y z => ?_⟩)⟩
        rw [ib m x y] at z
        by_cases u : m = n
        · have := wT_rng w (n := v3) (o := n) e.1 e.2.1 (by omega) (by omega)
          have p1 := w.pl e.1 e.2.1
          have p2 := w.pl (i := n) (by omega) (by omega)
          show wT T v3 n ≤ wT T m n
          rw [u, sf]; unfold wT wy; split <;> omega
        · exact e.2.2.2.2.2 hn m x (by omega) u z
  · try dsimp only
    refine ⟨?_, ?_, ?_⟩
    · first | omega | (subst_vars; first | rfl | assumption) | assumption
    · first | omega | (subst_vars; first | rfl | assumption) | assumption
    · left; exact ⟨hv1, fun o x y => by omega⟩
  · try dsimp only
    omega

theorem x_nextOf (w : WT T) (hw : WA T a) (hA_G : XA 27 a G) (hT_G : XT T G) {n : Int} (hn : isi a n = 1) : WP (fX2_nextOf 33 n G) (fun r G' => G' = G ∧ ((r = -1 ∧ own T a.1 (tp T n + 1) = n) ∨ (0 ≤ r ∧ r = own T a.1 (tp T n + 1)))) := by
  have wr := w.rg
  have ni := hw.inr (n := n)
  unfold fX2_nextOf
  simp only [rf_33_0, rf_33_1]
  refine w_bd (fun v1 hv1 => ?_)
  refine w_bd (fun v2 hv2 => ?_)
  refine w_lpII (fun (v3 : Int) (v4 : Int) => (0 ≤ v4) ∧ (v4 ≤ 8) ∧ ((v3 = -1 ∧ ∀ o : Int, 0 ≤ o → o < v4 → o ≠ n → isi a o = 0) ∨ (0 ≤ v3 ∧ v3 < tN T ∧ v3 ≠ n ∧ isi a v3 = 1 ∧ ∀ o : Int, 0 ≤ o → o < v4 → o ≠ n → isi a o = 1 → wT T n v3 ≤ wT T n o))) (fun (v3 : Int) (v4 : Int) => (8 - v4).toNat) (fun rc5 v3 v4 hI hrc5 => ?_) _ _ ?_ ?_
  · skip
    obtain ⟨i0, i1, e⟩ := hI
    refine w_ite (fun c_1 => ?_) (fun c_1 => ?_)
    · skip
      refine w_jn ?_
      refine w_jn ?_
      refine w_ite (fun c_2 => ?_) (fun c_2 => ?_)
      · skip
        refine w_bd (fun v8 hv8 => ?_)
        refine w_jn ?_
        refine w_ite (fun c_3 => ?_) (fun c_3 => ?_)
        · skip
          refine w_bd (fun v11 hv11 => ?_)
          simp (disch := omega) only [iadd_id, isub_id, imul_id] at hv11
          refine hrc5 _ _ ?_ ?_
          · try dsimp only
            refine ⟨?_, ?_, ?_⟩
            · first | omega | grind
            · first | omega | grind
            · rw [hv11]
              first
              | (right; rw [hv13]; refine ⟨by omega, by omega, by omega, by omega, fun o x y z t => ?_⟩
                 by_cases u : o = v4
                 · rw [u]; exact Int.le_refl _
                 · first
                   | (have e3 := e.resolve_right (fun z => by omega); have := e3.2 o x (by omega) z; omega)
                   | (have := e3.2.2.2.2 o x (by omega) z t; omega))
              | (rcases e with e | e
                 · first
                   | (exfalso; omega)
                   | (left; refine ⟨e.1, fun o x y z => ?_⟩
                      by_cases u : o = v4
                      · rw [u]; omega
                      · exact e.2 o x (by omega) z)
                 · right; refine ⟨by omega, by omega, by omega, by omega, fun o x y z t => ?_⟩
                   by_cases u : o = v4
                   · first
                     | (exfalso; rw [u] at t z; omega)
                     | (rw [u]; omega)
                   · exact e.2.2.2.2 o x (by omega) z t)
          · try dsimp only
            omega
        · exfalso; omega
      · skip
        refine w_bp (x_isIn hA_G hw.1) (fun v16 hv16 => ?_)
        have qv16 := hw.inr (n := v4)
        refine w_ite (fun c_4 => ?_) (fun c_4 => ?_)
        · skip
          refine w_bd (fun v8 hv8 => ?_)
          refine w_jn ?_
          refine w_ite (fun c_5 => ?_) (fun c_5 => ?_)
          · skip
            refine w_bd (fun v11 hv11 => ?_)
            simp (disch := omega) only [iadd_id, isub_id, imul_id] at hv11
            refine hrc5 _ _ ?_ ?_
            · try dsimp only
              refine ⟨?_, ?_, ?_⟩
              · first | omega | grind
              · first | omega | grind
              · rw [hv11]
                first
                | (right; rw [hv13]; refine ⟨by omega, by omega, by omega, by omega, fun o x y z t => ?_⟩
                   by_cases u : o = v4
                   · rw [u]; exact Int.le_refl _
                   · first
                     | (have e3 := e.resolve_right (fun z => by omega); have := e3.2 o x (by omega) z; omega)
                     | (have := e3.2.2.2.2 o x (by omega) z t; omega))
                | (rcases e with e | e
                   · first
                     | (exfalso; omega)
                     | (left; refine ⟨e.1, fun o x y z => ?_⟩
                        by_cases u : o = v4
                        · rw [u]; omega
                        · exact e.2 o x (by omega) z)
                   · right; refine ⟨by omega, by omega, by omega, by omega, fun o x y z t => ?_⟩
                     by_cases u : o = v4
                     · first
                       | (exfalso; rw [u] at t z; omega)
                       | (rw [u]; omega)
                     · exact e.2.2.2.2 o x (by omega) z t)
            · try dsimp only
              omega
          · exfalso; omega
        · skip
          refine w_bd (fun v8 hv8 => ?_)
          refine w_jn ?_
          refine w_ite (fun c_6 => ?_) (fun c_6 => ?_)
          · exfalso; omega
          · skip
            refine w_jn ?_
            refine w_ite (fun c_7 => ?_) (fun c_7 => ?_)
            · skip
              refine w_bd (fun v13 hv13 => ?_)
              refine w_bd (fun v11 hv11 => ?_)
              simp (disch := omega) only [iadd_id, isub_id, imul_id] at hv11
              refine hrc5 _ _ ?_ ?_
              · try dsimp only
                refine ⟨?_, ?_, ?_⟩
                · first | omega | grind
                · first | omega | grind
                · rw [hv11]
                  first
                  | (right; rw [hv13]; refine ⟨by omega, by omega, by omega, by omega, fun o x y z t => ?_⟩
                     by_cases u : o = v4
                     · rw [u]; exact Int.le_refl _
                     · first
                       | (have e3 := e.resolve_right (fun z => by omega); have := e3.2 o x (by omega) z; omega)
                       | (have := e3.2.2.2.2 o x (by omega) z t; omega))
                  | (rcases e with e | e
                     · first
                       | (exfalso; omega)
                       | (left; refine ⟨e.1, fun o x y z => ?_⟩
                          by_cases u : o = v4
                          · rw [u]; omega
                          · exact e.2 o x (by omega) z)
                     · right; refine ⟨by omega, by omega, by omega, by omega, fun o x y z t => ?_⟩
                       by_cases u : o = v4
                       · first
                         | (exfalso; rw [u] at t z; omega)
                         | (rw [u]; omega)
                       · exact e.2.2.2.2 o x (by omega) z t)
              · try dsimp only
                omega
            · skip
              have e3 := e.resolve_left (fun z => by omega)
              refine w_bp (x_isBetween hT_G w (n := v4) (f := n) (t := v3) (by omega) (by omega) (by omega) (by omega) (by omega) (by omega)) (fun v14 hv14 => ?_)
              have q14 : (wT T n v4 < wT T n v3 ∧ v14 = 1) ∨ (¬ (wT T n v4 < wT T n v3) ∧ v14 = 0) := by rw [hv14]; exact ite01 _
              refine w_ite (fun c_8 => ?_) (fun c_8 => ?_)
              · skip
                refine w_bd (fun v11 hv11 => ?_)
                simp (disch := omega) only [iadd_id, isub_id, imul_id] at hv11
                refine hrc5 _ _ ?_ ?_
                · try dsimp only
                  refine ⟨?_, ?_, ?_⟩
                  · first | omega | grind
                  · first | omega | grind
                  · rw [hv11]
                    first
                    | (right; rw [hv13]; refine ⟨by omega, by omega, by omega, by omega, fun o x y z t => ?_⟩
                       by_cases u : o = v4
                       · rw [u]; exact Int.le_refl _
                       · first
                         | (have e3 := e.resolve_right (fun z => by omega); have := e3.2 o x (by omega) z; omega)
                         | (have := e3.2.2.2.2 o x (by omega) z t; omega))
                    | (rcases e with e | e
                       · first
                         | (exfalso; omega)
                         | (left; refine ⟨e.1, fun o x y z => ?_⟩
                            by_cases u : o = v4
                            · rw [u]; omega
                            · exact e.2 o x (by omega) z)
                       · right; refine ⟨by omega, by omega, by omega, by omega, fun o x y z t => ?_⟩
                         by_cases u : o = v4
                         · first
                           | (exfalso; rw [u] at t z; omega)
                           | (rw [u]; omega)
                         · exact e.2.2.2.2 o x (by omega) z t)
                · try dsimp only
                  omega
              · skip
                refine w_bd (fun v13 hv13 => ?_)
                refine w_bd (fun v11 hv11 => ?_)
                simp (disch := omega) only [iadd_id, isub_id, imul_id] at hv11
                refine hrc5 _ _ ?_ ?_
                · try dsimp only
                  refine ⟨?_, ?_, ?_⟩
                  · first | omega | grind
                  · first | omega | grind
                  · rw [hv11]
                    first
                    | (right; rw [hv13]; refine ⟨by omega, by omega, by omega, by omega, fun o x y z t => ?_⟩
                       by_cases u : o = v4
                       · rw [u]; exact Int.le_refl _
                       · first
                         | (have e3 := e.resolve_right (fun z => by omega); have := e3.2 o x (by omega) z; omega)
                         | (have := e3.2.2.2.2 o x (by omega) z t; omega))
                    | (rcases e with e | e
                       · first
                         | (exfalso; omega)
                         | (left; refine ⟨e.1, fun o x y z => ?_⟩
                            by_cases u : o = v4
                            · rw [u]; omega
                            · exact e.2 o x (by omega) z)
                       · right; refine ⟨by omega, by omega, by omega, by omega, fun o x y z t => ?_⟩
                         by_cases u : o = v4
                         · first
                           | (exfalso; rw [u] at t z; omega)
                           | (rw [u]; omega)
                         · exact e.2.2.2.2 o x (by omega) z t)
                · try dsimp only
                  omega
    · skip
      refine w_rt ?_
      refine ⟨rfl, ?_⟩
      have ib : ∀ n : Int, 0 ≤ n → n < 8 → (bt a.1 n.toNat = 1 ↔ isi a n = 1) := fun n h1 h2 => by rw [isi_bt h1 h2]
      have np := hw.tpC w hn
      have sf := wT_self w (n := n)
      rcases e with e | e
      · left; refine ⟨e.1, (own_is w hw.iN (by omega) (by omega) (Or.inr ⟨by omega, by omega, (ib n (by omega) (by omega)).mpr hn, fun m x y z => ?_⟩)).symm⟩
        by_cases u : m = n
        · rw [u]; exact Int.le_refl _
        · have := e.2 m x (by omega) u
          rw [ib m x y] at z; omega
      · right; refine ⟨e.1, own_is w hw.iN (by omega) (by omega) (Or.inr ⟨e.1, by omega, (ib v3 e.1 (by omega)).mpr e.2.2.2.1, fun m x y z => ?_⟩)⟩
        rw [ib m x y] at z
        have mN := hw.inr (n := m)
        rw [onw_w w (by omega) (by omega) e.1 e.2.1, onw_w w (by omega) (by omega) x (by omega)]
        by_cases u : m = n
        · have p1 := w.pl e.1 e.2.1
          rw [u, sf]; unfold wT wy; split <;> omega
        · have := e.2.2.2.2 m x (by omega) u z
          omega
  · try dsimp only
    refine ⟨?_, ?_, ?_⟩
    · first | omega | (subst_vars; first | rfl | assumption) | assumption
    · first | omega | (subst_vars; first | rfl | assumption) | assumption
    · left; exact ⟨hv1, fun o x y => by omega⟩
  · try dsimp only
    omega

theorem x_amissNodes (w : WT T) (hw : WA T a) (hA_G : XA 27 a G) (hT_G : XT T G) : fX2_amissNodes 33 G = some (bits (fun k => isi a k = 1 ∧ fst4 a a.1 k ≠ own T a.1 (tp T k + 1)) 8, G) := by
  have wr := w.rg
  unfold fX2_amissNodes
  simp only [rf_33_1]
  refine WP_eq ?_
  refine w_bd (fun v1 hv1 => ?_)
  refine w_bd (fun v2 hv2 => ?_)
  refine w_lpII (fun (v3 : Int) (v4 : Int) => (0 ≤ v4) ∧ (v4 ≤ 8) ∧ (v3 = bits (fun k => isi a k = 1 ∧ fst4 a a.1 k ≠ own T a.1 (tp T k + 1)) v4.toNat)) (fun (v3 : Int) (v4 : Int) => (8 - v4).toNat) (fun rc5 v3 v4 hI hrc5 => ?_) _ _ ?_ ?_
  · skip
    obtain ⟨i0, i1, e⟩ := hI
    refine w_ite (fun c_1 => ?_) (fun c_1 => ?_)
    · skip
      refine w_bp (x_isIn hA_G hw.1) (fun v6 hv6 => ?_)
      have qv6 := hw.inr (n := v4)
      refine w_jn ?_
      refine w_ite (fun c_2 => ?_) (fun c_2 => ?_)
      · skip
        refine w_bd (fun v9 hv9 => ?_)
        simp (disch := omega) only [iadd_id, isub_id, imul_id] at hv9
        refine hrc5 _ _ ?_ ?_
        · try dsimp only
          refine ⟨?_, ?_, ?_⟩
          · first | omega | grind
          · first | omega | grind
          · first
            | (rw [hv9, bits_f (p := fun k => isi a k = 1 ∧ fst4 a a.1 k ≠ own T a.1 (tp T k + 1)) i0 (show ¬ (isi a v4 = 1 ∧ fst4 a a.1 v4 ≠ own T a.1 (tp T v4 + 1)) by omega)]; exact e)
            | (rw [hv9, hv18, e]; exact bits_t (p := fun k => isi a k = 1 ∧ fst4 a a.1 k ≠ own T a.1 (tp T k + 1)) i0 (by omega) (show isi a v4 = 1 ∧ fst4 a a.1 v4 ≠ own T a.1 (tp T v4 + 1) by omega))
            | (rw [hv9, hv18, e]; exact bits_f0 (p := fun k => isi a k = 1 ∧ fst4 a a.1 k ≠ own T a.1 (tp T k + 1)) i0 (by omega) (show ¬ (isi a v4 = 1 ∧ fst4 a a.1 v4 ≠ own T a.1 (tp T v4 + 1)) by omega))
        · try dsimp only
          omega
      · skip
        refine w_bpq (x_nextOf w hw hA_G hT_G (n := v4) (by omega)) (fun v10 g10 q10 => ?_)
        replace q10 := q10.2
        refine w_bd (fun v11 hv11 => ?_)
        refine w_jn ?_
        refine w_ite (fun c_3 => ?_) (fun c_3 => ?_)
        · skip
          refine w_bd (fun v14 hv14 => ?_)
          have e14 : v14 = own T a.1 (tp T v4 + 1) := by omega
          refine w_bp (x_first hA_G hw w) (fun v15 hv15 => ?_)
          have qv15 := hw.f4 w (n := v4)
          refine w_jn ?_
          refine w_ite (fun c_4 => ?_) (fun c_4 => ?_)
          · skip
            refine w_bd (fun v18 hv18 => ?_)
            refine w_bd (fun v9 hv9 => ?_)
            simp (disch := omega) only [iadd_id, isub_id, imul_id] at hv9
            refine hrc5 _ _ ?_ ?_
            · try dsimp only
              refine ⟨?_, ?_, ?_⟩
              · first | omega | grind
              · first | omega | grind
              · first
                | (rw [hv9, bits_f (p := fun k => isi a k = 1 ∧ fst4 a a.1 k ≠ own T a.1 (tp T k + 1)) i0 (show ¬ (isi a v4 = 1 ∧ fst4 a a.1 v4 ≠ own T a.1 (tp T v4 + 1)) by omega)]; exact e)
                | (rw [hv9, hv18, e]; exact bits_t (p := fun k => isi a k = 1 ∧ fst4 a a.1 k ≠ own T a.1 (tp T k + 1)) i0 (by omega) (show isi a v4 = 1 ∧ fst4 a a.1 v4 ≠ own T a.1 (tp T v4 + 1) by omega))
                | (rw [hv9, hv18, e]; exact bits_f0 (p := fun k => isi a k = 1 ∧ fst4 a a.1 k ≠ own T a.1 (tp T k + 1)) i0 (by omega) (show ¬ (isi a v4 = 1 ∧ fst4 a a.1 v4 ≠ own T a.1 (tp T v4 + 1)) by omega))
            · try dsimp only
              omega
          · skip
            refine w_bd (fun v18 hv18 => ?_)
            refine w_bd (fun v9 hv9 => ?_)
            simp (disch := omega) only [iadd_id, isub_id, imul_id] at hv9
            refine hrc5 _ _ ?_ ?_
            · try dsimp only
              refine ⟨?_, ?_, ?_⟩
              · first | omega | grind
              · first | omega | grind
              · first
                | (rw [hv9, bits_f (p := fun k => isi a k = 1 ∧ fst4 a a.1 k ≠ own T a.1 (tp T k + 1)) i0 (show ¬ (isi a v4 = 1 ∧ fst4 a a.1 v4 ≠ own T a.1 (tp T v4 + 1)) by omega)]; exact e)
                | (rw [hv9, hv18, e]; exact bits_t (p := fun k => isi a k = 1 ∧ fst4 a a.1 k ≠ own T a.1 (tp T k + 1)) i0 (by omega) (show isi a v4 = 1 ∧ fst4 a a.1 v4 ≠ own T a.1 (tp T v4 + 1) by omega))
                | (rw [hv9, hv18, e]; exact bits_f0 (p := fun k => isi a k = 1 ∧ fst4 a a.1 k ≠ own T a.1 (tp T k + 1)) i0 (by omega) (show ¬ (isi a v4 = 1 ∧ fst4 a a.1 v4 ≠ own T a.1 (tp T v4 + 1)) by omega))
            · try dsimp only
              omega
        · skip
          refine w_bd (fun v14 hv14 => ?_)
          have e14 : v14 = own T a.1 (tp T v4 + 1) := by omega
          refine w_bp (x_first hA_G hw w) (fun v15 hv15 => ?_)
          have qv15 := hw.f4 w (n := v4)
          refine w_jn ?_
          refine w_ite (fun c_5 => ?_) (fun c_5 => ?_)
          · skip
            refine w_bd (fun v18 hv18 => ?_)
            refine w_bd (fun v9 hv9 => ?_)
            simp (disch := omega) only [iadd_id, isub_id, imul_id] at hv9
            refine hrc5 _ _ ?_ ?_
            · try dsimp only
              refine ⟨?_, ?_, ?_⟩
              · first | omega | grind
              · first | omega | grind
              · first
                | (rw [hv9, bits_f (p := fun k => isi a k = 1 ∧ fst4 a a.1 k ≠ own T a.1 (tp T k + 1)) i0 (show ¬ (isi a v4 = 1 ∧ fst4 a a.1 v4 ≠ own T a.1 (tp T v4 + 1)) by omega)]; exact e)
                | (rw [hv9, hv18, e]; exact bits_t (p := fun k => isi a k = 1 ∧ fst4 a a.1 k ≠ own T a.1 (tp T k + 1)) i0 (by omega) (show isi a v4 = 1 ∧ fst4 a a.1 v4 ≠ own T a.1 (tp T v4 + 1) by omega))
                | (rw [hv9, hv18, e]; exact bits_f0 (p := fun k => isi a k = 1 ∧ fst4 a a.1 k ≠ own T a.1 (tp T k + 1)) i0 (by omega) (show ¬ (isi a v4 = 1 ∧ fst4 a a.1 v4 ≠ own T a.1 (tp T v4 + 1)) by omega))
            · try dsimp only
              omega
          · skip
            refine w_bd (fun v18 hv18 => ?_)
            refine w_bd (fun v9 hv9 => ?_)
            simp (disch := omega) only [iadd_id, isub_id, imul_id] at hv9
            refine hrc5 _ _ ?_ ?_
            · try dsimp only
              refine ⟨?_, ?_, ?_⟩
              · first | omega | grind
              · first | omega | grind
              · first
                | (rw [hv9, bits_f (p := fun k => isi a k = 1 ∧ fst4 a a.1 k ≠ own T a.1 (tp T k + 1)) i0 (show ¬ (isi a v4 = 1 ∧ fst4 a a.1 v4 ≠ own T a.1 (tp T v4 + 1)) by omega)]; exact e)
                | (rw [hv9, hv18, e]; exact bits_t (p := fun k => isi a k = 1 ∧ fst4 a a.1 k ≠ own T a.1 (tp T k + 1)) i0 (by omega) (show isi a v4 = 1 ∧ fst4 a a.1 v4 ≠ own T a.1 (tp T v4 + 1) by omega))
                | (rw [hv9, hv18, e]; exact bits_f0 (p := fun k => isi a k = 1 ∧ fst4 a a.1 k ≠ own T a.1 (tp T k + 1)) i0 (by omega) (show ¬ (isi a v4 = 1 ∧ fst4 a a.1 v4 ≠ own T a.1 (tp T v4 + 1)) by omega))
            · try dsimp only
              omega
    · skip
      refine w_rt ?_
      refine ⟨?_, rfl⟩
      rw [e, show v4.toNat = 8 by omega]
  · try dsimp only
    refine ⟨?_, ?_, ?_⟩
    · first | omega | (subst_vars; first | rfl | assumption) | assumption
    · first | omega | (subst_vars; first | rfl | assumption) | assumption
    · first | omega | (subst_vars; first | rfl | assumption) | assumption
  · try dsimp only
    omega

theorem m_amissBy (w : WT T) (hw : WA T a) (hb : b ≤ 3410) (hR_G : MR b a G) (hM_G : MT T G) : fX12_amissBy 111 b G = some (bits (fun k => isi a k = 1 ∧ fst4 a a.1 k ≠ own T a.1 (tp T k + 1)) 8, G) := by
  have wr := w.rg
  unfold fX12_amissBy
  refine WP_eq ?_
  refine w_bd (fun v1 hv1 => ?_)
  refine w_bd (fun v2 hv2 => ?_)
  refine w_lpII (fun (v3 : Int) (v4 : Int) => (0 ≤ v4) ∧ (v4 ≤ tN T) ∧ (v3 = bits (fun k => isi a k = 1 ∧ fst4 a a.1 k ≠ own T a.1 (tp T k + 1)) v4.toNat)) (fun (v3 : Int) (v4 : Int) => (8 - v4).toNat) (fun rc5 v3 v4 hI hrc5 => ?_) _ _ ?_ ?_
  · skip
    obtain ⟨i0, i1, e⟩ := hI
    refine w_bp (m_nodes hM_G) (fun v6 hv6 => ?_)
    refine w_ite (fun c_1 => ?_) (fun c_1 => ?_)
    · skip
      refine w_bp (m_isIn (b := b) hR_G (by omega) (by omega)) (fun v7 hv7 => ?_)
      have qv7 := hw.inr (n := v4)
      refine w_jn ?_
      refine w_jn ?_
      refine w_ite (fun c_2 => ?_) (fun c_2 => ?_)
      · skip
        refine w_bd (fun v10 hv10 => ?_)
        refine w_bd (fun v11 hv11 => ?_)
        simp (disch := omega) only [iadd_id, isub_id, imul_id] at hv11
        refine hrc5 _ _ ?_ ?_
        · try dsimp only
          refine ⟨?_, ?_, ?_⟩
          · first | omega | grind
          · first | omega | grind
          · first
            | (rw [hv11, bits_f (p := fun k => isi a k = 1 ∧ fst4 a a.1 k ≠ own T a.1 (tp T k + 1)) i0 (show ¬ (isi a v4 = 1 ∧ fst4 a a.1 v4 ≠ own T a.1 (tp T v4 + 1)) by omega)]; exact e)
            | (rw [hv11, hv10, e]; exact bits_t (p := fun k => isi a k = 1 ∧ fst4 a a.1 k ≠ own T a.1 (tp T k + 1)) i0 (by omega) (show isi a v4 = 1 ∧ fst4 a a.1 v4 ≠ own T a.1 (tp T v4 + 1) by omega))
            | (rw [hv11, hv10, e]; exact bits_f0 (p := fun k => isi a k = 1 ∧ fst4 a a.1 k ≠ own T a.1 (tp T k + 1)) i0 (by omega) (show ¬ (isi a v4 = 1 ∧ fst4 a a.1 v4 ≠ own T a.1 (tp T v4 + 1)) by omega))
        · try dsimp only
          omega
      · skip
        refine w_bp (m_firstOf (b := b) (by omega) w hw hR_G (by omega) (by omega)) (fun v13 hv13 => ?_)
        have qv13 := hw.f4 w (n := v4)
        refine w_bp (m_placeOf hM_G w (by omega) (by omega)) (fun v14 hv14 => ?_)
        have qv14 := w.pl (i := v4) (by omega) (by omega)
        try rw [show iadd v14 1 = (v14 + 1) by simp (disch := omega) only [iadd_id, isub_id, imul_id]]
        refine w_bp (m_metFrom w hw.iN hb hR_G hM_G (p := v14 + 1) (by omega)) (fun v15 hv15 => ?_)
        rw [hv14] at hv15
        refine w_ite (fun c_3 => ?_) (fun c_3 => ?_)
        · skip
          refine w_bd (fun v10 hv10 => ?_)
          refine w_bd (fun v11 hv11 => ?_)
          simp (disch := omega) only [iadd_id, isub_id, imul_id] at hv11
          refine hrc5 _ _ ?_ ?_
          · try dsimp only
            refine ⟨?_, ?_, ?_⟩
            · first | omega | grind
            · first | omega | grind
            · first
              | (rw [hv11, bits_f (p := fun k => isi a k = 1 ∧ fst4 a a.1 k ≠ own T a.1 (tp T k + 1)) i0 (show ¬ (isi a v4 = 1 ∧ fst4 a a.1 v4 ≠ own T a.1 (tp T v4 + 1)) by omega)]; exact e)
              | (rw [hv11, hv10, e]; exact bits_t (p := fun k => isi a k = 1 ∧ fst4 a a.1 k ≠ own T a.1 (tp T k + 1)) i0 (by omega) (show isi a v4 = 1 ∧ fst4 a a.1 v4 ≠ own T a.1 (tp T v4 + 1) by omega))
              | (rw [hv11, hv10, e]; exact bits_f0 (p := fun k => isi a k = 1 ∧ fst4 a a.1 k ≠ own T a.1 (tp T k + 1)) i0 (by omega) (show ¬ (isi a v4 = 1 ∧ fst4 a a.1 v4 ≠ own T a.1 (tp T v4 + 1)) by omega))
          · try dsimp only
            omega
        · skip
          refine w_bd (fun v10 hv10 => ?_)
          refine w_bd (fun v11 hv11 => ?_)
          simp (disch := omega) only [iadd_id, isub_id, imul_id] at hv11
          refine hrc5 _ _ ?_ ?_
          · try dsimp only
            refine ⟨?_, ?_, ?_⟩
            · first | omega | grind
            · first | omega | grind
            · first
              | (rw [hv11, bits_f (p := fun k => isi a k = 1 ∧ fst4 a a.1 k ≠ own T a.1 (tp T k + 1)) i0 (show ¬ (isi a v4 = 1 ∧ fst4 a a.1 v4 ≠ own T a.1 (tp T v4 + 1)) by omega)]; exact e)
              | (rw [hv11, hv10, e]; exact bits_t (p := fun k => isi a k = 1 ∧ fst4 a a.1 k ≠ own T a.1 (tp T k + 1)) i0 (by omega) (show isi a v4 = 1 ∧ fst4 a a.1 v4 ≠ own T a.1 (tp T v4 + 1) by omega))
              | (rw [hv11, hv10, e]; exact bits_f0 (p := fun k => isi a k = 1 ∧ fst4 a a.1 k ≠ own T a.1 (tp T k + 1)) i0 (by omega) (show ¬ (isi a v4 = 1 ∧ fst4 a a.1 v4 ≠ own T a.1 (tp T v4 + 1)) by omega))
          · try dsimp only
            omega
    · skip
      refine w_rt ?_
      refine ⟨?_, rfl⟩
      rw [e, show v4.toNat = (tN T).toNat by omega]
      exact (bits_more (p := fun k => isi a k = 1 ∧ fst4 a a.1 k ≠ own T a.1 (tp T k + 1)) 8 (by omega) (fun i x y z => by have := hw.inr (n := i); omega)).symm
  · try dsimp only
    refine ⟨?_, ?_, ?_⟩
    · first | omega | (subst_vars; first | rfl | assumption) | assumption
    · first | omega | (subst_vars; first | rfl | assumption) | assumption
    · first | omega | (subst_vars; first | rfl | assumption) | assumption
  · try dsimp only
    omega

theorem x_behindNodes (w : WT T) (hw : WA T a) (hA_G : XA 27 a G) (hT_G : XT T G) : fX2_behindNodes 33 G = some (bits (fun k => isi a k = 1 ∧ prv T a k ≠ k ∧ ahd a k ≠ prv T a k) 8, G) := by
  have wr := w.rg
  unfold fX2_behindNodes
  simp only [rf_33_1]
  refine WP_eq ?_
  refine w_bd (fun v1 hv1 => ?_)
  refine w_bd (fun v2 hv2 => ?_)
  refine w_lpII (fun (v3 : Int) (v4 : Int) => (0 ≤ v4) ∧ (v4 ≤ 8) ∧ (v3 = bits (fun k => isi a k = 1 ∧ prv T a k ≠ k ∧ ahd a k ≠ prv T a k) v4.toNat)) (fun (v3 : Int) (v4 : Int) => (8 - v4).toNat) (fun rc5 v3 v4 hI hrc5 => ?_) _ _ ?_ ?_
  · skip
    obtain ⟨i0, i1, e⟩ := hI
    refine w_ite (fun c_1 => ?_) (fun c_1 => ?_)
    · skip
      refine w_bpq (x_previousOf w hw hA_G hT_G (n := v4) (by omega) (by omega)) (fun v6 g6 q6 => ?_)
      replace q6 := q6.2
      refine w_bd (fun v7 hv7 => ?_)
      refine w_bp (x_isIn hA_G hw.1) (fun v8 hv8 => ?_)
      have qv8 := hw.inr (n := v4)
      refine w_jn ?_
      refine w_ite (fun c_2 => ?_) (fun c_2 => ?_)
      · skip
        refine w_bd (fun v11 hv11 => ?_)
        simp (disch := omega) only [iadd_id, isub_id, imul_id] at hv11
        refine hrc5 _ _ ?_ ?_
        · try dsimp only
          refine ⟨?_, ?_, ?_⟩
          · first | omega | grind
          · first | omega | grind
          · first
            | (rw [hv11, bits_f (p := fun k => isi a k = 1 ∧ prv T a k ≠ k ∧ ahd a k ≠ prv T a k) i0 (show ¬ (isi a v4 = 1 ∧ prv T a v4 ≠ v4 ∧ ahd a v4 ≠ prv T a v4) by omega)]; exact e)
            | (rw [hv11, hv13, e]; exact bits_t (p := fun k => isi a k = 1 ∧ prv T a k ≠ k ∧ ahd a k ≠ prv T a k) i0 (by omega) (show isi a v4 = 1 ∧ prv T a v4 ≠ v4 ∧ ahd a v4 ≠ prv T a v4 by omega))
            | (rw [hv11, hv13, e]; exact bits_f0 (p := fun k => isi a k = 1 ∧ prv T a k ≠ k ∧ ahd a k ≠ prv T a k) i0 (by omega) (show ¬ (isi a v4 = 1 ∧ prv T a v4 ≠ v4 ∧ ahd a v4 ≠ prv T a v4) by omega))
        · try dsimp only
          omega
      · skip
        refine w_ite (fun c_3 => ?_) (fun c_3 => ?_)
        · skip
          refine w_bd (fun v11 hv11 => ?_)
          simp (disch := omega) only [iadd_id, isub_id, imul_id] at hv11
          refine hrc5 _ _ ?_ ?_
          · try dsimp only
            refine ⟨?_, ?_, ?_⟩
            · first | omega | grind
            · first | omega | grind
            · first
              | (rw [hv11, bits_f (p := fun k => isi a k = 1 ∧ prv T a k ≠ k ∧ ahd a k ≠ prv T a k) i0 (show ¬ (isi a v4 = 1 ∧ prv T a v4 ≠ v4 ∧ ahd a v4 ≠ prv T a v4) by omega)]; exact e)
              | (rw [hv11, hv13, e]; exact bits_t (p := fun k => isi a k = 1 ∧ prv T a k ≠ k ∧ ahd a k ≠ prv T a k) i0 (by omega) (show isi a v4 = 1 ∧ prv T a v4 ≠ v4 ∧ ahd a v4 ≠ prv T a v4 by omega))
              | (rw [hv11, hv13, e]; exact bits_f0 (p := fun k => isi a k = 1 ∧ prv T a k ≠ k ∧ ahd a k ≠ prv T a k) i0 (by omega) (show ¬ (isi a v4 = 1 ∧ prv T a v4 ≠ v4 ∧ ahd a v4 ≠ prv T a v4) by omega))
          · try dsimp only
            omega
        · skip
          refine w_bp (x_aheadOf hA_G) (fun v12 hv12 => ?_)
          have qv12 := hw.ar v4
          refine w_ite (fun c_4 => ?_) (fun c_4 => ?_)
          · skip
            refine w_bd (fun v11 hv11 => ?_)
            simp (disch := omega) only [iadd_id, isub_id, imul_id] at hv11
            refine hrc5 _ _ ?_ ?_
            · try dsimp only
              refine ⟨?_, ?_, ?_⟩
              · first | omega | grind
              · first | omega | grind
              · first
                | (rw [hv11, bits_f (p := fun k => isi a k = 1 ∧ prv T a k ≠ k ∧ ahd a k ≠ prv T a k) i0 (show ¬ (isi a v4 = 1 ∧ prv T a v4 ≠ v4 ∧ ahd a v4 ≠ prv T a v4) by omega)]; exact e)
                | (rw [hv11, hv13, e]; exact bits_t (p := fun k => isi a k = 1 ∧ prv T a k ≠ k ∧ ahd a k ≠ prv T a k) i0 (by omega) (show isi a v4 = 1 ∧ prv T a v4 ≠ v4 ∧ ahd a v4 ≠ prv T a v4 by omega))
                | (rw [hv11, hv13, e]; exact bits_f0 (p := fun k => isi a k = 1 ∧ prv T a k ≠ k ∧ ahd a k ≠ prv T a k) i0 (by omega) (show ¬ (isi a v4 = 1 ∧ prv T a v4 ≠ v4 ∧ ahd a v4 ≠ prv T a v4) by omega))
            · try dsimp only
              omega
          · skip
            refine w_bd (fun v13 hv13 => ?_)
            refine w_bd (fun v11 hv11 => ?_)
            simp (disch := omega) only [iadd_id, isub_id, imul_id] at hv11
            refine hrc5 _ _ ?_ ?_
            · try dsimp only
              refine ⟨?_, ?_, ?_⟩
              · first | omega | grind
              · first | omega | grind
              · first
                | (rw [hv11, bits_f (p := fun k => isi a k = 1 ∧ prv T a k ≠ k ∧ ahd a k ≠ prv T a k) i0 (show ¬ (isi a v4 = 1 ∧ prv T a v4 ≠ v4 ∧ ahd a v4 ≠ prv T a v4) by omega)]; exact e)
                | (rw [hv11, hv13, e]; exact bits_t (p := fun k => isi a k = 1 ∧ prv T a k ≠ k ∧ ahd a k ≠ prv T a k) i0 (by omega) (show isi a v4 = 1 ∧ prv T a v4 ≠ v4 ∧ ahd a v4 ≠ prv T a v4 by omega))
                | (rw [hv11, hv13, e]; exact bits_f0 (p := fun k => isi a k = 1 ∧ prv T a k ≠ k ∧ ahd a k ≠ prv T a k) i0 (by omega) (show ¬ (isi a v4 = 1 ∧ prv T a v4 ≠ v4 ∧ ahd a v4 ≠ prv T a v4) by omega))
            · try dsimp only
              omega
    · skip
      refine w_rt ?_
      refine ⟨?_, rfl⟩
      rw [e, show v4.toNat = 8 by omega]
  · try dsimp only
    refine ⟨?_, ?_, ?_⟩
    · first | omega | (subst_vars; first | rfl | assumption) | assumption
    · first | omega | (subst_vars; first | rfl | assumption) | assumption
    · first | omega | (subst_vars; first | rfl | assumption) | assumption
  · try dsimp only
    omega

theorem m_behindBy (w : WT T) (hw : WA T a) (hb : b ≤ 3410) (hR_G : MR b a G) (hM_G : MT T G) : fX12_behindBy 111 b G = some (bits (fun k => isi a k = 1 ∧ prv T a k ≠ k ∧ ahd a k ≠ prv T a k) 8, G) := by
  have wr := w.rg
  unfold fX12_behindBy
  refine WP_eq ?_
  refine w_bd (fun v1 hv1 => ?_)
  refine w_bd (fun v2 hv2 => ?_)
  refine w_lpII (fun (v3 : Int) (v4 : Int) => (0 ≤ v4) ∧ (v4 ≤ tN T) ∧ (v3 = bits (fun k => isi a k = 1 ∧ prv T a k ≠ k ∧ ahd a k ≠ prv T a k) v4.toNat)) (fun (v3 : Int) (v4 : Int) => (8 - v4).toNat) (fun rc5 v3 v4 hI hrc5 => ?_) _ _ ?_ ?_
  · skip
    obtain ⟨i0, i1, e⟩ := hI
    refine w_bp (m_nodes hM_G) (fun v6 hv6 => ?_)
    refine w_ite (fun c_1 => ?_) (fun c_1 => ?_)
    · skip
      refine w_bp (m_isIn (b := b) hR_G (by omega) (by omega)) (fun v7 hv7 => ?_)
      have qv7 := hw.inr (n := v4)
      refine w_jn ?_
      refine w_ite (fun c_2 => ?_) (fun c_2 => ?_)
      · skip
        refine w_bd (fun v10 hv10 => ?_)
        refine w_jn ?_
        refine w_jn ?_
        refine w_ite (fun c_3 => ?_) (fun c_3 => ?_)
        · skip
          refine w_bd (fun v13 hv13 => ?_)
          refine w_bd (fun v14 hv14 => ?_)
          simp (disch := omega) only [iadd_id, isub_id, imul_id] at hv14
          refine hrc5 _ _ ?_ ?_
          · try dsimp only
            refine ⟨?_, ?_, ?_⟩
            · first | omega | grind
            · first | omega | grind
            · first
              | (rw [hv14, bits_f (p := fun k => isi a k = 1 ∧ prv T a k ≠ k ∧ ahd a k ≠ prv T a k) i0 (show ¬ (isi a v4 = 1 ∧ prv T a v4 ≠ v4 ∧ ahd a v4 ≠ prv T a v4) by omega)]; exact e)
              | (rw [hv14, hv13, e]; exact bits_t (p := fun k => isi a k = 1 ∧ prv T a k ≠ k ∧ ahd a k ≠ prv T a k) i0 (by omega) (show isi a v4 = 1 ∧ prv T a v4 ≠ v4 ∧ ahd a v4 ≠ prv T a v4 by omega))
              | (rw [hv14, hv13, e]; exact bits_f0 (p := fun k => isi a k = 1 ∧ prv T a k ≠ k ∧ ahd a k ≠ prv T a k) i0 (by omega) (show ¬ (isi a v4 = 1 ∧ prv T a v4 ≠ v4 ∧ ahd a v4 ≠ prv T a v4) by omega))
          · try dsimp only
            omega
        · skip
          refine w_bp (m_aheadOf (b := b) hR_G (by omega) (by omega) (by omega)) (fun v16 hv16 => ?_)
          have qv16 := hw.ar v4
          refine w_ite (fun c_4 => ?_) (fun c_4 => ?_)
          · skip
            refine w_bd (fun v13 hv13 => ?_)
            refine w_bd (fun v14 hv14 => ?_)
            simp (disch := omega) only [iadd_id, isub_id, imul_id] at hv14
            refine hrc5 _ _ ?_ ?_
            · try dsimp only
              refine ⟨?_, ?_, ?_⟩
              · first | omega | grind
              · first | omega | grind
              · first
                | (rw [hv14, bits_f (p := fun k => isi a k = 1 ∧ prv T a k ≠ k ∧ ahd a k ≠ prv T a k) i0 (show ¬ (isi a v4 = 1 ∧ prv T a v4 ≠ v4 ∧ ahd a v4 ≠ prv T a v4) by omega)]; exact e)
                | (rw [hv14, hv13, e]; exact bits_t (p := fun k => isi a k = 1 ∧ prv T a k ≠ k ∧ ahd a k ≠ prv T a k) i0 (by omega) (show isi a v4 = 1 ∧ prv T a v4 ≠ v4 ∧ ahd a v4 ≠ prv T a v4 by omega))
                | (rw [hv14, hv13, e]; exact bits_f0 (p := fun k => isi a k = 1 ∧ prv T a k ≠ k ∧ ahd a k ≠ prv T a k) i0 (by omega) (show ¬ (isi a v4 = 1 ∧ prv T a v4 ≠ v4 ∧ ahd a v4 ≠ prv T a v4) by omega))
            · try dsimp only
              omega
          · skip
            refine w_bd (fun v13 hv13 => ?_)
            refine w_bd (fun v14 hv14 => ?_)
            simp (disch := omega) only [iadd_id, isub_id, imul_id] at hv14
            refine hrc5 _ _ ?_ ?_
            · try dsimp only
              refine ⟨?_, ?_, ?_⟩
              · first | omega | grind
              · first | omega | grind
              · first
                | (rw [hv14, bits_f (p := fun k => isi a k = 1 ∧ prv T a k ≠ k ∧ ahd a k ≠ prv T a k) i0 (show ¬ (isi a v4 = 1 ∧ prv T a v4 ≠ v4 ∧ ahd a v4 ≠ prv T a v4) by omega)]; exact e)
                | (rw [hv14, hv13, e]; exact bits_t (p := fun k => isi a k = 1 ∧ prv T a k ≠ k ∧ ahd a k ≠ prv T a k) i0 (by omega) (show isi a v4 = 1 ∧ prv T a v4 ≠ v4 ∧ ahd a v4 ≠ prv T a v4 by omega))
                | (rw [hv14, hv13, e]; exact bits_f0 (p := fun k => isi a k = 1 ∧ prv T a k ≠ k ∧ ahd a k ≠ prv T a k) i0 (by omega) (show ¬ (isi a v4 = 1 ∧ prv T a v4 ≠ v4 ∧ ahd a v4 ≠ prv T a v4) by omega))
            · try dsimp only
              omega
      · skip
        refine w_bp (m_metBack w hw hb hR_G hM_G (n := v4) (by omega)) (fun v17 hv17 => ?_)
        have qv17 := prv_r w hw (n := v4) (by omega)
        refine w_bd (fun v10 hv10 => ?_)
        refine w_jn ?_
        refine w_jn ?_
        refine w_ite (fun c_5 => ?_) (fun c_5 => ?_)
        · skip
          refine w_bd (fun v13 hv13 => ?_)
          refine w_bd (fun v14 hv14 => ?_)
          simp (disch := omega) only [iadd_id, isub_id, imul_id] at hv14
          refine hrc5 _ _ ?_ ?_
          · try dsimp only
            refine ⟨?_, ?_, ?_⟩
            · first | omega | grind
            · first | omega | grind
            · first
              | (rw [hv14, bits_f (p := fun k => isi a k = 1 ∧ prv T a k ≠ k ∧ ahd a k ≠ prv T a k) i0 (show ¬ (isi a v4 = 1 ∧ prv T a v4 ≠ v4 ∧ ahd a v4 ≠ prv T a v4) by omega)]; exact e)
              | (rw [hv14, hv13, e]; exact bits_t (p := fun k => isi a k = 1 ∧ prv T a k ≠ k ∧ ahd a k ≠ prv T a k) i0 (by omega) (show isi a v4 = 1 ∧ prv T a v4 ≠ v4 ∧ ahd a v4 ≠ prv T a v4 by omega))
              | (rw [hv14, hv13, e]; exact bits_f0 (p := fun k => isi a k = 1 ∧ prv T a k ≠ k ∧ ahd a k ≠ prv T a k) i0 (by omega) (show ¬ (isi a v4 = 1 ∧ prv T a v4 ≠ v4 ∧ ahd a v4 ≠ prv T a v4) by omega))
          · try dsimp only
            omega
        · skip
          refine w_bp (m_aheadOf (b := b) hR_G (by omega) (by omega) (by omega)) (fun v16 hv16 => ?_)
          have qv16 := hw.ar v4
          refine w_ite (fun c_6 => ?_) (fun c_6 => ?_)
          · skip
            refine w_bd (fun v13 hv13 => ?_)
            refine w_bd (fun v14 hv14 => ?_)
            simp (disch := omega) only [iadd_id, isub_id, imul_id] at hv14
            refine hrc5 _ _ ?_ ?_
            · try dsimp only
              refine ⟨?_, ?_, ?_⟩
              · first | omega | grind
              · first | omega | grind
              · first
                | (rw [hv14, bits_f (p := fun k => isi a k = 1 ∧ prv T a k ≠ k ∧ ahd a k ≠ prv T a k) i0 (show ¬ (isi a v4 = 1 ∧ prv T a v4 ≠ v4 ∧ ahd a v4 ≠ prv T a v4) by omega)]; exact e)
                | (rw [hv14, hv13, e]; exact bits_t (p := fun k => isi a k = 1 ∧ prv T a k ≠ k ∧ ahd a k ≠ prv T a k) i0 (by omega) (show isi a v4 = 1 ∧ prv T a v4 ≠ v4 ∧ ahd a v4 ≠ prv T a v4 by omega))
                | (rw [hv14, hv13, e]; exact bits_f0 (p := fun k => isi a k = 1 ∧ prv T a k ≠ k ∧ ahd a k ≠ prv T a k) i0 (by omega) (show ¬ (isi a v4 = 1 ∧ prv T a v4 ≠ v4 ∧ ahd a v4 ≠ prv T a v4) by omega))
            · try dsimp only
              omega
          · skip
            refine w_bd (fun v13 hv13 => ?_)
            refine w_bd (fun v14 hv14 => ?_)
            simp (disch := omega) only [iadd_id, isub_id, imul_id] at hv14
            refine hrc5 _ _ ?_ ?_
            · try dsimp only
              refine ⟨?_, ?_, ?_⟩
              · first | omega | grind
              · first | omega | grind
              · first
                | (rw [hv14, bits_f (p := fun k => isi a k = 1 ∧ prv T a k ≠ k ∧ ahd a k ≠ prv T a k) i0 (show ¬ (isi a v4 = 1 ∧ prv T a v4 ≠ v4 ∧ ahd a v4 ≠ prv T a v4) by omega)]; exact e)
                | (rw [hv14, hv13, e]; exact bits_t (p := fun k => isi a k = 1 ∧ prv T a k ≠ k ∧ ahd a k ≠ prv T a k) i0 (by omega) (show isi a v4 = 1 ∧ prv T a v4 ≠ v4 ∧ ahd a v4 ≠ prv T a v4 by omega))
                | (rw [hv14, hv13, e]; exact bits_f0 (p := fun k => isi a k = 1 ∧ prv T a k ≠ k ∧ ahd a k ≠ prv T a k) i0 (by omega) (show ¬ (isi a v4 = 1 ∧ prv T a v4 ≠ v4 ∧ ahd a v4 ≠ prv T a v4) by omega))
            · try dsimp only
              omega
    · skip
      refine w_rt ?_
      refine ⟨?_, rfl⟩
      rw [e, show v4.toNat = (tN T).toNat by omega]
      exact (bits_more (p := fun k => isi a k = 1 ∧ prv T a k ≠ k ∧ ahd a k ≠ prv T a k) 8 (by omega) (fun i x y z => by have := hw.inr (n := i); omega)).symm
  · try dsimp only
    refine ⟨?_, ?_, ?_⟩
    · first | omega | (subst_vars; first | rfl | assumption) | assumption
    · first | omega | (subst_vars; first | rfl | assumption) | assumption
    · first | omega | (subst_vars; first | rfl | assumption) | assumption
  · try dsimp only
    omega

def arc (T : TT) (a : AS) (n : Int) : Int := wT T (prv T a n) n
theorem arc_r (w : WT T) (hw : WA T a) {n : Int} (hn : isi a n = 1) : 1 ≤ arc T a n ∧ arc T a n ≤ 256 := by
  have := hw.inr (n := n)
  have := prv_r w hw hn
  exact wT_rng w (by omega) (by omega) (by omega) (by omega)
theorem x_arcOf (w : WT T) (hw : WA T a) (hA_G : XA 27 a G) (hT_G : XT T G) {n : Int} (hn : isi a n = 1) : fX2_arcOf 33 n G = some (arc T a n, G) := by
  have ni := hw.inr (n := n)
  have wr := w.rg
  have pr := prv_r w hw hn
  obtain ⟨r, g, e1, e2, e3⟩ := x_previousOf w hw hA_G hT_G (n := n) (by omega) (by omega)
  have e4 := e3 hn
  have np := hw.tpC w hn
  have pp := hw.tpC w pr.2.2
  unfold fX2_arcOf
  simp only [rf_33_0, rf_4_5, e1, bp_s, bd_s]
  rcases e4 with e4 | e4
  · rw [if_pos e4.1, hT_G.1, rt_s]
    unfold arc; rw [e4.2, wT_self w]
  · rw [if_neg e4.1, e4.2.2, x_place hT_G w pr.1 pr.2.1, br_s, x_place hT_G w (by omega) (by omega), br_s, x_way hT_G w (by omega) (by omega), bp_s]
    rfl
theorem m_arcOf (w : WT T) (hw : WA T a) (hR_G : MR 0 a G) (hM_G : MT T G) {n : Int} (hn : isi a n = 1) : fX12_arcOf 111 n G = some (arc T a n, G) := by
  have ni := hw.inr (n := n)
  have pr := prv_r w hw hn
  unfold fX12_arcOf
  rw [show (0 : Int) = ((0 : Nat) : Int) from rfl, m_metBack w hw (by omega) hR_G hM_G hn, bp_s, m_wayTo hM_G w pr.1 pr.2.1 (by omega) (by omega), bp_s]
  rfl
def wdS (T : TT) (a : AS) : Nat → Int × Int
  | 0 => (-1, 0)
  | i + 1 => if isi a i = 1 ∧ (wdS T a i).2 < arc T a i then ((i : Int), arc T a i) else wdS T a i
theorem wdS_s {i : Int} (h : 0 ≤ i) : wdS T a (i + 1).toNat = if isi a i = 1 ∧ (wdS T a i.toNat).2 < arc T a i then (i, arc T a i) else wdS T a i.toNat := by
  rw [toN1 h, wdS]; simp only [Int.toNat_of_nonneg h]
theorem wdS_J : ∀ i : Nat, ((wdS T a i).1 = -1 ∧ (wdS T a i).2 = 0) ∨ (0 ≤ (wdS T a i).1 ∧ (wdS T a i).1 < i ∧ isi a (wdS T a i).1 = 1 ∧ (wdS T a i).2 = arc T a (wdS T a i).1)
  | 0 => Or.inl ⟨rfl, rfl⟩
  | i + 1 => by
    have ih := wdS_J i
    rw [wdS]; split
    · rename_i c; exact Or.inr ⟨by show (0 : Int) ≤ i; omega, by show (i : Int) < ((i + 1 : Nat) : Int); omega, c.1, rfl⟩
    · rcases ih with ih | ih
      · exact Or.inl ih
      · exact Or.inr ⟨ih.1, by omega, ih.2.2⟩
theorem wdS_more (hw : WA T a) : ∀ j : Nat, wdS T a ((tN T).toNat + j) = wdS T a (tN T).toNat
  | 0 => rfl
  | j + 1 => by rw [← Nat.add_assoc, wdS, if_neg (fun z => by have := hw.2.1 _ z.1; omega), wdS_more hw j]
theorem x_widestArc (w : WT T) (hw : WA T a) (hA_G : XA 27 a G) (hT_G : XT T G) : fX2_widestArc 33 G = some ((wdS T a 8).1, G) := by
  have wr := w.rg
  unfold fX2_widestArc
  simp only [rf_33_1]
  refine WP_eq ?_
  refine w_bd (fun v1 hv1 => ?_)
  refine w_bd (fun v2 hv2 => ?_)
  refine w_bd (fun v3 hv3 => ?_)
  refine w_lpIII (fun (v4 : Int) (v5 : Int) (v6 : Int) => (0 ≤ v6) ∧ (v6 ≤ 8) ∧ (0 ≤ v5) ∧ (v4 = (wdS T a v6.toNat).1) ∧ (v5 = (wdS T a v6.toNat).2)) (fun (v4 : Int) (v5 : Int) (v6 : Int) => (8 - v6).toNat) (fun rc7 v4 v5 v6 hI hrc7 => ?_) _ _ _ ?_ ?_
  · skip
    obtain ⟨i0, i1, b, e1, e2⟩ := hI
    refine w_ite (fun c_1 => ?_) (fun c_1 => ?_)
    · skip
      refine w_bp (x_isIn hA_G hw.1) (fun v8 hv8 => ?_)
      have qv8 := hw.inr (n := v6)
      refine w_jn ?_
      refine w_ite (fun c_2 => ?_) (fun c_2 => ?_)
      · skip
        refine w_bd (fun v11 hv11 => ?_)
        refine w_jn ?_
        refine w_ite (fun c_3 => ?_) (fun c_3 => ?_)
        · skip
          refine w_bd (fun v16 hv16 => ?_)
          refine w_bd (fun v17 hv17 => ?_)
          refine w_bd (fun v15 hv15 => ?_)
          simp (disch := omega) only [iadd_id, isub_id, imul_id] at hv15
          refine hrc7 _ _ _ ?_ ?_
          · try dsimp only
            refine ⟨?_, ?_, ?_, ?_, ?_⟩
            · first | omega | grind
            · first | omega | grind
            · first | omega | grind
            · rw [hv15, wdS_s i0]; first | (rw [if_pos (by omega)]; omega) | (rw [if_neg (by omega)]; exact e1)
            · rw [hv15, wdS_s i0]; first | (rw [if_pos (by omega)]; omega) | (rw [if_neg (by omega)]; exact e2)
          · try dsimp only
            omega
        · skip
          refine w_bd (fun v15 hv15 => ?_)
          simp (disch := omega) only [iadd_id, isub_id, imul_id] at hv15
          refine hrc7 _ _ _ ?_ ?_
          · try dsimp only
            refine ⟨?_, ?_, ?_, ?_, ?_⟩
            · first | omega | grind
            · first | omega | grind
            · first | omega | grind
            · rw [hv15, wdS_s i0]; first | (rw [if_pos (by omega)]; omega) | (rw [if_neg (by omega)]; exact e1)
            · rw [hv15, wdS_s i0]; first | (rw [if_pos (by omega)]; omega) | (rw [if_neg (by omega)]; exact e2)
          · try dsimp only
            omega
      · skip
        refine w_bp (x_arcOf w hw hA_G hT_G (n := v6) (by omega)) (fun v18 hv18 => ?_)
        have q18 := arc_r w hw (n := v6) (by omega)
        refine w_bd (fun v11 hv11 => ?_)
        refine w_jn ?_
        refine w_ite (fun c_4 => ?_) (fun c_4 => ?_)
        · skip
          refine w_bd (fun v16 hv16 => ?_)
          refine w_bd (fun v17 hv17 => ?_)
          refine w_bd (fun v15 hv15 => ?_)
          simp (disch := omega) only [iadd_id, isub_id, imul_id] at hv15
          refine hrc7 _ _ _ ?_ ?_
          · try dsimp only
            refine ⟨?_, ?_, ?_, ?_, ?_⟩
            · first | omega | grind
            · first | omega | grind
            · first | omega | grind
            · rw [hv15, wdS_s i0]; first | (rw [if_pos (by omega)]; omega) | (rw [if_neg (by omega)]; exact e1)
            · rw [hv15, wdS_s i0]; first | (rw [if_pos (by omega)]; omega) | (rw [if_neg (by omega)]; exact e2)
          · try dsimp only
            omega
        · skip
          refine w_bd (fun v15 hv15 => ?_)
          simp (disch := omega) only [iadd_id, isub_id, imul_id] at hv15
          refine hrc7 _ _ _ ?_ ?_
          · try dsimp only
            refine ⟨?_, ?_, ?_, ?_, ?_⟩
            · first | omega | grind
            · first | omega | grind
            · first | omega | grind
            · rw [hv15, wdS_s i0]; first | (rw [if_pos (by omega)]; omega) | (rw [if_neg (by omega)]; exact e1)
            · rw [hv15, wdS_s i0]; first | (rw [if_pos (by omega)]; omega) | (rw [if_neg (by omega)]; exact e2)
          · try dsimp only
            omega
    · skip
      refine w_rt ?_
      refine ⟨?_, rfl⟩
      rw [e1, show v6.toNat = 8 by omega]
  · try dsimp only
    refine ⟨?_, ?_, ?_, ?_, ?_⟩
    · first | omega | (subst_vars; first | rfl | assumption) | assumption
    · first | omega | (subst_vars; first | rfl | assumption) | assumption
    · first | omega | (subst_vars; first | rfl | assumption) | assumption
    · first | omega | (subst_vars; first | rfl | assumption) | assumption
    · first | omega | (subst_vars; first | rfl | assumption) | assumption
  · try dsimp only
    omega

theorem m_widest (w : WT T) (hw : WA T a) (hR_G : MR 0 a G) (hM_G : MT T G)  : WP (fX12_widest 111  G) (fun r G' => G' = up G 111 0 0 ∧ r = (wdS T a 8).1) := by
  have wr := w.rg
  unfold fX12_widest
  refine w_bh (fun G1 hG1 => ?_)
  have hR_G1 : MR 0 a G1 := hR_G.fr (by rw [hG1, up_ne (by decide)])
  have hM_G1 : MT T G1 := hM_G.fr (by rw [hG1, up_ne (by decide)]) (by rw [hG1, up_ne (by decide)])
  refine w_bd (fun v2 hv2 => ?_)
  refine w_bd (fun v3 hv3 => ?_)
  refine w_lpII (fun (v4 : Int) (v5 : Int) => (0 ≤ v5) ∧ (v5 ≤ tN T) ∧ (v4 = (wdS T a v5.toNat).1)) (fun (v4 : Int) (v5 : Int) => (8 - v5).toNat) (fun rc6 v4 v5 hI hrc6 => ?_) _ _ ?_ ?_
  · skip
    obtain ⟨i0, i1, e1⟩ := hI
    have J := wdS_J (T := T) (a := a) v5.toNat
    rw [Int.toNat_of_nonneg i0, ← e1] at J
    have ar := arc_r w hw (n := v5)
    refine w_bp (m_nodes hM_G1) (fun v7 hv7 => ?_)
    refine w_ite (fun c_1 => ?_) (fun c_1 => ?_)
    · skip
      refine w_bp (m_isIn (b := 0) hR_G1 (by omega) (by omega)) (fun v8 hv8 => ?_)
      have qv8 := hw.inr (n := v5)
      refine w_jn ?_
      refine w_jn ?_
      refine w_ite (fun c_2 => ?_) (fun c_2 => ?_)
      · skip
        refine w_bd (fun v11 hv11 => ?_)
        refine w_bd (fun v12 hv12 => ?_)
        simp (disch := omega) only [iadd_id, isub_id, imul_id] at hv12
        refine hrc6 _ _ ?_ ?_
        · try dsimp only
          refine ⟨?_, ?_, ?_⟩
          · first | omega | grind
          · first | omega | grind
          · rw [hv12, wdS_s i0]; first | (rw [if_pos (by omega)]; omega) | (rw [if_neg (by omega)]; omega)
        · try dsimp only
          omega
      · skip
        refine w_jn ?_
        refine w_ite (fun c_3 => ?_) (fun c_3 => ?_)
        · skip
          refine w_bd (fun v11 hv11 => ?_)
          refine w_bd (fun v12 hv12 => ?_)
          simp (disch := omega) only [iadd_id, isub_id, imul_id] at hv12
          refine hrc6 _ _ ?_ ?_
          · try dsimp only
            refine ⟨?_, ?_, ?_⟩
            · first | omega | grind
            · first | omega | grind
            · rw [hv12, wdS_s i0]; first | (rw [if_pos (by omega)]; omega) | (rw [if_neg (by omega)]; omega)
          · try dsimp only
            omega
        · skip
          refine w_bp (m_arcOf w hw hR_G1 hM_G1 (n := v5) (by omega)) (fun v15 hv15 => ?_)
          refine w_bp (m_arcOf w hw hR_G1 hM_G1 (n := v4) (by omega)) (fun v16 hv16 => ?_)
          refine w_ite (fun c_4 => ?_) (fun c_4 => ?_)
          · skip
            refine w_bd (fun v11 hv11 => ?_)
            refine w_bd (fun v12 hv12 => ?_)
            simp (disch := omega) only [iadd_id, isub_id, imul_id] at hv12
            refine hrc6 _ _ ?_ ?_
            · try dsimp only
              refine ⟨?_, ?_, ?_⟩
              · first | omega | grind
              · first | omega | grind
              · rw [hv12, wdS_s i0]; first | (rw [if_pos (by omega)]; omega) | (rw [if_neg (by omega)]; omega)
            · try dsimp only
              omega
          · skip
            refine w_bd (fun v11 hv11 => ?_)
            refine w_bd (fun v12 hv12 => ?_)
            simp (disch := omega) only [iadd_id, isub_id, imul_id] at hv12
            refine hrc6 _ _ ?_ ?_
            · try dsimp only
              refine ⟨?_, ?_, ?_⟩
              · first | omega | grind
              · first | omega | grind
              · rw [hv12, wdS_s i0]; first | (rw [if_pos (by omega)]; omega) | (rw [if_neg (by omega)]; omega)
            · try dsimp only
              omega
    · skip
      refine w_rt ?_
      refine ⟨hG1, ?_⟩
      have := wdS_more (T := T) hw (8 - (tN T).toNat)
      rw [show (tN T).toNat + (8 - (tN T).toNat) = 8 by omega] at this
      rw [this, e1, show v5.toNat = (tN T).toNat by omega]
  · try dsimp only
    refine ⟨?_, ?_, ?_⟩
    · first | omega | (subst_vars; first | rfl | assumption) | assumption
    · first | omega | (subst_vars; first | rfl | assumption) | assumption
    · first | omega | (subst_vars; first | rfl | assumption) | assumption
  · try dsimp only
    omega

end LOO
