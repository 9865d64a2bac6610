section SEE
variable {b : Nat} {a : AS} {G : Hp} {T : TT}
/-! groups -/
def gid (T : TT) (a : AS) (p n : Int) : Int := if skf T a n p = -1 then -1 else skt T a n p
def grS (T : TT) (a : AS) (W p : Int) : Nat → (Int → Int) × Int
  | 0 => (fun _ => 0, 0)
  | i + 1 => if bt W i = 1 then (fun j => if j = gid T a p i then (grS T a W p i).1 j + 1 else (grS T a W p i).1 j, if (grS T a W p i).2 < (grS T a W p i).1 (gid T a p i) + 1 then (grS T a W p i).1 (gid T a p i) + 1 else (grS T a W p i).2) else grS T a W p i
theorem grS_s {W p i : Int} (h : 0 ≤ i) : grS T a W p (i + 1).toNat = if bt W i.toNat = 1 then (fun j => if j = gid T a p i then (grS T a W p i.toNat).1 j + 1 else (grS T a W p i.toNat).1 j, if (grS T a W p i.toNat).2 < (grS T a W p i.toNat).1 (gid T a p i) + 1 then (grS T a W p i.toNat).1 (gid T a p i) + 1 else (grS T a W p i.toNat).2) else grS T a W p i.toNat := by
  rw [toN1 h, grS]; simp only [Int.toNat_of_nonneg h]
theorem grS_r {W p : Int} (i : Nat) : ∀ j, 0 ≤ (grS T a W p i).1 j ∧ (grS T a W p i).1 j ≤ i := by
  induction i with
  | zero => intro j; rw [grS]; exact ⟨by show (0 : Int) ≤ 0; omega, by show (0 : Int) ≤ ((0 : Nat) : Int); omega⟩
  | succ i ih =>
    intro j
    have := ih j
    rw [grS]; split
    · show 0 ≤ (if j = gid T a p i then _ else _) ∧ (if j = gid T a p i then _ else _) ≤ ((i + 1 : Nat) : Int)
      split <;> omega
    · omega
def gg (T : TT) (a : AS) (W p : Int) : Int := (grS T a W p 8).2
def aqS (T : TT) (a : AS) (W : Int) : Nat → Int × Int
  | 0 => (-1, pcn W)
  | p + 1 => if gg T a W p < (aqS T a W p).2 then ((p : Int), gg T a W p) else aqS T a W p
theorem aqS_s {W p : Int} (h : 0 ≤ p) : aqS T a W (p + 1).toNat = if gg T a W p < (aqS T a W p.toNat).2 then (p, gg T a W p) else aqS T a W p.toNat := by
  rw [toN1 h, aqS]; simp only [Int.toNat_of_nonneg h]
def cix (j : Int) : Nat := if j = -1 then 21 else j.toNat
theorem grS_more {W p : Int} (hW : sub8 T W) (w : WT T) : grS T a W p 8 = grS T a W p (tN T).toNat := by
  have wr := w.rg
  have key : ∀ j : Nat, (tN T).toNat + j ≤ 8 → grS T a W p ((tN T).toNat + j) = grS T a W p (tN T).toNat := by
    intro j
    induction j with
    | zero => intro _; rfl
    | succ j ih =>
      intro hj
      rw [← Nat.add_assoc, grS, if_neg (fun z => by have := hW.2 (((tN T).toNat + j : Nat) : Int) (by omega) (by omega) (by rw [Int.toNat_natCast]; exact z); omega)]
      exact ih (by omega)
  have := key (8 - (tN T).toNat) (by omega)
  rw [show (tN T).toNat + (8 - (tN T).toNat) = 8 by omega] at this
  exact this
theorem x_greatestGroup (w : WT T) (hw : WA T a) (hA_G : XA 27 a G) (hT_G : XT T G) {W p : Int} (hW : sub8 T W) (hWi : ∀ n : Int, 0 ≤ n → n < 8 → bt W n.toNat = 1 → isi a n = 1) (hp : 0 ≤ p ∧ p < tC T) : WP (fX5_greatestGroup 39 29 W p G) (fun r G' => FQ G G' ∧ r = gg T a W p) := by
  have wr := w.rg
  have hWr := hW.1
  unfold fX5_greatestGroup
  simp only [rf_39_3]
  refine w_bd (fun v1 hv1 => ?_)
  refine w_lpIH (fun (v2 : Int) (G3 : Hp) => (0 ≤ v2) ∧ (v2 ≤ 22) ∧ (FQ G G3) ∧ (∀ j : Nat, (j : Int) < v2 → G3 43 j = 0)) (fun (v2 : Int) (G3 : Hp) => (22 - v2).toNat) (fun rc4 v2 G3 hI hrc4 => ?_) _ _ ?_ ?_
  · skip
    obtain ⟨i0, i1, f3, z3⟩ := hI
    refine w_ite (fun c_1 => ?_) (fun c_1 => ?_)
    · skip
      refine w_wr (by omega) (by omega) (fun G24 hG24 => ?_)
      refine w_bd (fun v25 hv25 => ?_)
      simp (disch := omega) only [iadd_id, isub_id, imul_id] at hv25
      refine hrc4 _ _ ?_ ?_
      · try dsimp only
        refine ⟨?_, ?_, ?_, ?_⟩
        · first | omega | grind
        · first | omega | grind
        · intro c x y z; rw [hG24, up_ne z]; exact f3 c x y z
        · intro j x; rw [hG24, up_at]; by_cases u : (j : Int) = v2
          · rw [if_pos ⟨rfl, by omega⟩]
          · rw [if_neg (by omega)]; exact z3 j (by omega)
      · try dsimp only
        omega
    · skip
      refine w_bd (fun v5 hv5 => ?_)
      refine w_bd (fun v6 hv6 => ?_)
      refine w_lpIIH (fun (v7 : Int) (v8 : Int) (G9 : Hp) => (0 ≤ v8) ∧ (v8 ≤ 8) ∧ (FQ G G9) ∧ (v7 = (grS T a W p v8.toNat).2) ∧ (∀ j : Int, -1 ≤ j → j ≤ 20 → G9 43 (cix j) = (grS T a W p v8.toNat).1 j)) (fun (v7 : Int) (v8 : Int) (G9 : Hp) => (8 - v8).toNat) (fun rc10 v7 v8 G9 hI hrc10 => ?_) _ _ _ ?_ ?_
      · skip
        obtain ⟨j0, j1, f9, e7, gc⟩ := hI
        have bi : v8 < 8 → iand (ishr W v8) 1 = bt W v8.toNat := fun z => bit_is hWr.1 (by omega) j0 (by omega)
        refine w_ite (fun c_2 => ?_) (fun c_2 => ?_)
        · skip
          refine w_jn ?_
          refine w_ite (fun c_3 => ?_) (fun c_3 => ?_)
          · skip
            have bw : bt W v8.toNat = 1 := by rw [← bi (by omega)]; assumption
            have wi := hWi v8 j0 (by omega) bw
            refine w_bn (x_seek2 w hw (f9.A hA_G) (f9.t hT_G) (n := v8) (p := p)) (fun v15 G16 q16 => ?_)
            obtain ⟨f16, sy16, sn16⟩ := q16
            have sk16 := sy16 ⟨wi, hp⟩
            have sr16 := skf_r hw w v8 p
            have e43 : G16 43 = G9 43 := f16 43 (by decide) (by decide)
            have gr := grS_r (T := T) (a := a) (W := W) (p := p) v8.toNat (gid T a p v8)
            have gdd : gid T a p v8 = if skf T a v8 p = -1 then -1 else skt T a v8 p := rfl
            refine w_jn ?_
            refine w_ite (fun c_4 => ?_) (fun c_4 => ?_)
            · skip
              refine w_bd (fun v19 hv19 => ?_)
              have gi : v19.toNat = cix (gid T a p v8) ∧ 0 ≤ v19 ∧ v19 < 22 ∧ -1 ≤ gid T a p v8 ∧ gid T a p v8 ≤ 20 := by
                unfold cix
                rw [gdd]
                rcases sk16.2.2.1 with z | z
                · first | (exfalso; omega) | (rw [if_pos z.2, if_pos rfl]; omega)
                · first | (exfalso; omega) | (rw [if_neg z.2, if_neg (by omega)]; split at hv19 <;> omega)
              refine w_rd (by omega) (by omega) (fun v20 hv20 => ?_)
              have e20 : v20 = (grS T a W p v8.toNat).1 (gid T a p v8) := by rw [hv20, gi.1, e43]; exact gc _ gi.2.2.2.1 gi.2.2.2.2
              try rw [show iadd v20 1 = (v20 + 1) by simp (disch := omega) only [iadd_id, isub_id, imul_id]]
              refine w_wr (by omega) (by omega) (fun G21 hG21 => ?_)
              refine w_rd (by omega) (by omega) (fun v22 hv22 => ?_)
              have e22 : v22 = v20 + 1 := by rw [hv22, hG21, up_at]; simp
              refine w_bd (fun v23 hv23 => ?_)
              refine w_bd (fun v14 hv14 => ?_)
              simp (disch := omega) only [iadd_id, isub_id, imul_id] at hv14
              refine hrc10 _ _ _ ?_ ?_
              · try dsimp only
                refine ⟨?_, ?_, ?_, ?_, ?_⟩
                · first | omega | grind
                · first | omega | grind
                · first | exact f9 | (refine f9.tr (fun c x y z => ?_); rw [hG21, up_ne z, f16 c x y])
                · rw [hv14, grS_s j0]
                  first
                  | (rw [if_neg (by rw [← bi (by omega)]; assumption)]; exact e7)
                  | (rw [if_pos bw]
                     show v23 = if (grS T a W p v8.toNat).2 < (grS T a W p v8.toNat).1 (gid T a p v8) + 1 then (grS T a W p v8.toNat).1 (gid T a p v8) + 1 else (grS T a W p v8.toNat).2
                     rw [← e7, ← e20, ← e22]; exact hv23)
                · intro j x y
                  rw [hv14, grS_s j0]
                  first
                  | (rw [if_neg (by rw [← bi (by omega)]; assumption)]; exact gc j x y)
                  | (rw [if_pos bw]
                     show G21 43 (cix j) = if j = gid T a p v8 then (grS T a W p v8.toNat).1 j + 1 else (grS T a W p v8.toNat).1 j
                     rw [hG21, up_at, gi.1]
                     by_cases u : j = gid T a p v8
                     · rw [if_pos ⟨rfl, by rw [u]⟩, if_pos u, u, e20]
                     · rw [if_neg (fun z => u (by have y1 := z.2; unfold cix at y1; have y2 := gi.2.2.2; split at y1 <;> split at y1 <;> omega)), if_neg u, e43]; exact gc j x y)
              · try dsimp only
                omega
            · skip
              refine w_bd (fun v19 hv19 => ?_)
              have gi : v19.toNat = cix (gid T a p v8) ∧ 0 ≤ v19 ∧ v19 < 22 ∧ -1 ≤ gid T a p v8 ∧ gid T a p v8 ≤ 20 := by
                unfold cix
                rw [gdd]
                rcases sk16.2.2.1 with z | z
                · first | (exfalso; omega) | (rw [if_pos z.2, if_pos rfl]; omega)
                · first | (exfalso; omega) | (rw [if_neg z.2, if_neg (by omega)]; split at hv19 <;> omega)
              refine w_rd (by omega) (by omega) (fun v20 hv20 => ?_)
              have e20 : v20 = (grS T a W p v8.toNat).1 (gid T a p v8) := by rw [hv20, gi.1, e43]; exact gc _ gi.2.2.2.1 gi.2.2.2.2
              try rw [show iadd v20 1 = (v20 + 1) by simp (disch := omega) only [iadd_id, isub_id, imul_id]]
              refine w_wr (by omega) (by omega) (fun G21 hG21 => ?_)
              refine w_rd (by omega) (by omega) (fun v22 hv22 => ?_)
              have e22 : v22 = v20 + 1 := by rw [hv22, hG21, up_at]; simp
              refine w_bd (fun v23 hv23 => ?_)
              refine w_bd (fun v14 hv14 => ?_)
              simp (disch := omega) only [iadd_id, isub_id, imul_id] at hv14
              refine hrc10 _ _ _ ?_ ?_
              · try dsimp only
                refine ⟨?_, ?_, ?_, ?_, ?_⟩
                · first | omega | grind
                · first | omega | grind
                · first | exact f9 | (refine f9.tr (fun c x y z => ?_); rw [hG21, up_ne z, f16 c x y])
                · rw [hv14, grS_s j0]
                  first
                  | (rw [if_neg (by rw [← bi (by omega)]; assumption)]; exact e7)
                  | (rw [if_pos bw]
                     show v23 = if (grS T a W p v8.toNat).2 < (grS T a W p v8.toNat).1 (gid T a p v8) + 1 then (grS T a W p v8.toNat).1 (gid T a p v8) + 1 else (grS T a W p v8.toNat).2
                     rw [← e7, ← e20, ← e22]; exact hv23)
                · intro j x y
                  rw [hv14, grS_s j0]
                  first
                  | (rw [if_neg (by rw [← bi (by omega)]; assumption)]; exact gc j x y)
                  | (rw [if_pos bw]
                     show G21 43 (cix j) = if j = gid T a p v8 then (grS T a W p v8.toNat).1 j + 1 else (grS T a W p v8.toNat).1 j
                     rw [hG21, up_at, gi.1]
                     by_cases u : j = gid T a p v8
                     · rw [if_pos ⟨rfl, by rw [u]⟩, if_pos u, u, e20]
                     · rw [if_neg (fun z => u (by have y1 := z.2; unfold cix at y1; have y2 := gi.2.2.2; split at y1 <;> split at y1 <;> omega)), if_neg u, e43]; exact gc j x y)
              · try dsimp only
                omega
          · skip
            refine w_bd (fun v14 hv14 => ?_)
            simp (disch := omega) only [iadd_id, isub_id, imul_id] at hv14
            refine hrc10 _ _ _ ?_ ?_
            · try dsimp only
              refine ⟨?_, ?_, ?_, ?_, ?_⟩
              · first | omega | grind
              · first | omega | grind
              · first | exact f9 | (refine f9.tr (fun c x y z => ?_); rw [hG21, up_ne z, f16 c x y])
              · rw [hv14, grS_s j0]
                first
                | (rw [if_neg (by rw [← bi (by omega)]; assumption)]; exact e7)
                | (rw [if_pos bw]
                   show v23 = if (grS T a W p v8.toNat).2 < (grS T a W p v8.toNat).1 (gid T a p v8) + 1 then (grS T a W p v8.toNat).1 (gid T a p v8) + 1 else (grS T a W p v8.toNat).2
                   rw [← e7, ← e20, ← e22]; exact hv23)
              · intro j x y
                rw [hv14, grS_s j0]
                first
                | (rw [if_neg (by rw [← bi (by omega)]; assumption)]; exact gc j x y)
                | (rw [if_pos bw]
                   show G21 43 (cix j) = if j = gid T a p v8 then (grS T a W p v8.toNat).1 j + 1 else (grS T a W p v8.toNat).1 j
                   rw [hG21, up_at, gi.1]
                   by_cases u : j = gid T a p v8
                   · rw [if_pos ⟨rfl, by rw [u]⟩, if_pos u, u, e20]
                   · rw [if_neg (fun z => u (by have y1 := z.2; unfold cix at y1; have y2 := gi.2.2.2; split at y1 <;> split at y1 <;> omega)), if_neg u, e43]; exact gc j x y)
            · try dsimp only
              omega
        · skip
          refine w_rt ?_
          exact ⟨f9, by rw [e7, show v8.toNat = 8 by omega]; rfl⟩
      · try dsimp only
        refine ⟨?_, ?_, ?_, ?_, ?_⟩
        · first | omega | (subst_vars; first | rfl | assumption) | assumption
        · first | omega | (subst_vars; first | rfl | assumption) | assumption
        · exact f3
        · rw [hv6, hv5]; rfl
        · intro j x y; rw [hv6]; exact z3 _ (by unfold cix; split <;> omega)
      · try dsimp only
        omega
  · try dsimp only
    refine ⟨?_, ?_, ?_, ?_⟩
    · first | omega | (subst_vars; first | rfl | assumption) | assumption
    · first | omega | (subst_vars; first | rfl | assumption) | assumption
    · exact FQ.rf G
    · intro j x; omega
  · try dsimp only
    omega

theorem m_greatestGroup (w : WT T) (hw : WA T a) (hR_G : MR 0 a G) (hM_G : MT T G) {W p : Int} (hW : sub8 T W) (hp : 0 ≤ p ∧ p < tC T) : WP (fX12_greatestGroup 111 W p G) (fun r G' => FSx G G' ∧ r = gg T a W p) := by
  have wr := w.rg
  have hWr := hW.1
  unfold fX12_greatestGroup
  simp only [rf_111_24]
  refine w_bd (fun v1 hv1 => ?_)
  refine w_bd (fun v2 hv2 => ?_)
  refine w_lpIH (fun (v3 : Int) (G4 : Hp) => (0 ≤ v3) ∧ (v3 ≤ 22) ∧ (FSx G G4) ∧ (∀ j : Nat, (j : Int) < v3 → G4 128 j = 0)) (fun (v3 : Int) (G4 : Hp) => (22 - v3).toNat) (fun rc5 v3 G4 hI hrc5 => ?_) _ _ ?_ ?_
  · skip
    obtain ⟨i0, i1, f4, z4⟩ := hI
    refine w_ite (fun c_1 => ?_) (fun c_1 => ?_)
    · skip
      refine w_wr (by omega) (by omega) (fun G26 hG26 => ?_)
      refine w_bd (fun v27 hv27 => ?_)
      simp (disch := omega) only [iadd_id, isub_id, imul_id] at hv27
      refine hrc5 _ _ ?_ ?_
      · try dsimp only
        refine ⟨?_, ?_, ?_, ?_⟩
        · first | omega | grind
        · first | omega | grind
        · exact f4.tr ⟨fun c x y z => by rw [hG26, up_ne z], fun k _ => by rw [hG26, up_ne (by decide)]⟩
        · intro j x; rw [hG26, up_at]; by_cases u : (j : Int) = v3
          · rw [if_pos ⟨rfl, by omega⟩]
          · rw [if_neg (by omega)]; exact z4 j (by omega)
      · try dsimp only
        omega
    · skip
      refine w_bd (fun v6 hv6 => ?_)
      refine w_lpIIH (fun (v7 : Int) (v8 : Int) (G9 : Hp) => (0 ≤ v8) ∧ (v8 ≤ tN T) ∧ (FSx G G9) ∧ (v7 = (grS T a W p v8.toNat).2) ∧ (∀ j : Int, -1 ≤ j → j ≤ 20 → G9 128 (1 + j).toNat = (grS T a W p v8.toNat).1 j)) (fun (v7 : Int) (v8 : Int) (G9 : Hp) => (8 - v8).toNat) (fun rc10 v7 v8 G9 hI hrc10 => ?_) _ _ _ ?_ ?_
      · skip
        obtain ⟨j0, j1, f9, e7, gc⟩ := hI
        have hM_G9 := f9.t hM_G
        have bi : v8 < 8 → iand (ishr W v8) 1 = bt W v8.toNat := fun z => bit_is hWr.1 (by omega) j0 (by omega)
        refine w_bp (m_nodes hM_G9) (fun v11 hv11 => ?_)
        refine w_ite (fun c_2 => ?_) (fun c_2 => ?_)
        · skip
          refine w_jn ?_
          refine w_ite (fun c_3 => ?_) (fun c_3 => ?_)
          · skip
            have bw : bt W v8.toNat = 1 := by rw [← bi (by omega)]; assumption
            refine w_bn (m_stepsTo w hw (b := 0) (by omega) (f9.R hR_G) (f9.t hM_G) (n := v8) (p := p) (by omega) (by omega) (by omega)) (fun v16 G17 q17 => ?_)
            obtain ⟨f17, g17, e17, -⟩ := q17
            have sr17 := skf_r hw w v8 p
            have e128 : G17 128 = G9 128 := f17 128 (by decide) (by decide)
            have gr := grS_r (T := T) (a := a) (W := W) (p := p) v8.toNat (gid T a p v8)
            have gdd : gid T a p v8 = if skf T a v8 p = -1 then -1 else skt T a v8 p := rfl
            have g16 : v16 = gid T a p v8 := by
              rw [gdd]
              rcases e17 with z | z
              · rw [if_pos z.1]; exact z.2
              · rw [if_neg z.1]; exact z.2
            have g16r : -1 ≤ v16 ∧ v16 ≤ 20 := by omega
            refine w_bd (fun v18 hv18 => ?_)
            simp (disch := omega) only [iadd_id, isub_id, imul_id] at hv18
            refine w_rd (by omega) (by omega) (fun v19 hv19 => ?_)
            have e19 : v19 = (grS T a W p v8.toNat).1 (gid T a p v8) := by rw [hv19, hv18, e128, g16]; exact gc _ (by omega) (by omega)
            try rw [show iadd v19 1 = (v19 + 1) by simp (disch := omega) only [iadd_id, isub_id, imul_id]]
            refine w_wr (by omega) (by omega) (fun G20 hG20 => ?_)
            refine w_rd (by omega) (by omega) (fun v21 hv21 => ?_)
            have e21 : v21 = v19 + 1 := by rw [hv21, hG20, up_at]; simp
            refine w_jn ?_
            refine w_ite (fun c_4 => ?_) (fun c_4 => ?_)
            · skip
              refine w_rd (by omega) (by omega) (fun v25 hv25 => ?_)
              have e25 : v25 = v19 + 1 := by rw [hv25, hG20, up_at]; simp
              refine w_bd (fun v24 hv24 => ?_)
              refine w_bd (fun v15 hv15 => ?_)
              simp (disch := omega) only [iadd_id, isub_id, imul_id] at hv15
              refine hrc10 _ _ _ ?_ ?_
              · try dsimp only
                refine ⟨?_, ?_, ?_, ?_, ?_⟩
                · first | omega | grind
                · first | omega | grind
                · first | exact f9 | exact (f9.tr ⟨fun c x y z => f17 c x y, g17⟩).tr ⟨fun c x y z => by rw [hG20, up_ne z], fun k _ => by rw [hG20, up_ne (by decide)]⟩
                · rw [hv15, grS_s j0]
                  first
                  | (rw [if_neg (by rw [← bi (by omega)]; assumption)]; exact e7)
                  | (rw [if_pos bw]
                     show v24 = if (grS T a W p v8.toNat).2 < (grS T a W p v8.toNat).1 (gid T a p v8) + 1 then (grS T a W p v8.toNat).1 (gid T a p v8) + 1 else (grS T a W p v8.toNat).2
                     rw [← e7, ← e19]
                     first | (rw [if_pos (by omega)]; omega) | (rw [if_neg (by omega)]; omega))
                · intro j x y
                  rw [hv15, grS_s j0]
                  first
                  | (rw [if_neg (by rw [← bi (by omega)]; assumption)]; exact gc j x y)
                  | (rw [if_pos bw]
                     show G20 128 (1 + j).toNat = if j = gid T a p v8 then (grS T a W p v8.toNat).1 j + 1 else (grS T a W p v8.toNat).1 j
                     rw [hG20, up_at, hv18]
                     by_cases u : j = gid T a p v8
                     · rw [if_pos ⟨rfl, by omega⟩, if_pos u, u, e19]
                     · rw [if_neg (fun z => u (by have := z.2; omega)), if_neg u, e128]; exact gc j x y)
              · try dsimp only
                omega
            · skip
              refine w_bd (fun v24 hv24 => ?_)
              refine w_bd (fun v15 hv15 => ?_)
              simp (disch := omega) only [iadd_id, isub_id, imul_id] at hv15
              refine hrc10 _ _ _ ?_ ?_
              · try dsimp only
                refine ⟨?_, ?_, ?_, ?_, ?_⟩
                · first | omega | grind
                · first | omega | grind
                · first | exact f9 | exact (f9.tr ⟨fun c x y z => f17 c x y, g17⟩).tr ⟨fun c x y z => by rw [hG20, up_ne z], fun k _ => by rw [hG20, up_ne (by decide)]⟩
                · rw [hv15, grS_s j0]
                  first
                  | (rw [if_neg (by rw [← bi (by omega)]; assumption)]; exact e7)
                  | (rw [if_pos bw]
                     show v24 = if (grS T a W p v8.toNat).2 < (grS T a W p v8.toNat).1 (gid T a p v8) + 1 then (grS T a W p v8.toNat).1 (gid T a p v8) + 1 else (grS T a W p v8.toNat).2
                     rw [← e7, ← e19]
                     first | (rw [if_pos (by omega)]; omega) | (rw [if_neg (by omega)]; omega))
                · intro j x y
                  rw [hv15, grS_s j0]
                  first
                  | (rw [if_neg (by rw [← bi (by omega)]; assumption)]; exact gc j x y)
                  | (rw [if_pos bw]
                     show G20 128 (1 + j).toNat = if j = gid T a p v8 then (grS T a W p v8.toNat).1 j + 1 else (grS T a W p v8.toNat).1 j
                     rw [hG20, up_at, hv18]
                     by_cases u : j = gid T a p v8
                     · rw [if_pos ⟨rfl, by omega⟩, if_pos u, u, e19]
                     · rw [if_neg (fun z => u (by have := z.2; omega)), if_neg u, e128]; exact gc j x y)
              · try dsimp only
                omega
          · skip
            refine w_bd (fun v15 hv15 => ?_)
            simp (disch := omega) only [iadd_id, isub_id, imul_id] at hv15
            refine hrc10 _ _ _ ?_ ?_
            · try dsimp only
              refine ⟨?_, ?_, ?_, ?_, ?_⟩
              · first | omega | grind
              · first | omega | grind
              · first | exact f9 | exact (f9.tr ⟨fun c x y z => f17 c x y, g17⟩).tr ⟨fun c x y z => by rw [hG20, up_ne z], fun k _ => by rw [hG20, up_ne (by decide)]⟩
              · rw [hv15, grS_s j0]
                first
                | (rw [if_neg (by rw [← bi (by omega)]; assumption)]; exact e7)
                | (rw [if_pos bw]
                   show v24 = if (grS T a W p v8.toNat).2 < (grS T a W p v8.toNat).1 (gid T a p v8) + 1 then (grS T a W p v8.toNat).1 (gid T a p v8) + 1 else (grS T a W p v8.toNat).2
                   rw [← e7, ← e19]
                   first | (rw [if_pos (by omega)]; omega) | (rw [if_neg (by omega)]; omega))
              · intro j x y
                rw [hv15, grS_s j0]
                first
                | (rw [if_neg (by rw [← bi (by omega)]; assumption)]; exact gc j x y)
                | (rw [if_pos bw]
                   show G20 128 (1 + j).toNat = if j = gid T a p v8 then (grS T a W p v8.toNat).1 j + 1 else (grS T a W p v8.toNat).1 j
                   rw [hG20, up_at, hv18]
                   by_cases u : j = gid T a p v8
                   · rw [if_pos ⟨rfl, by omega⟩, if_pos u, u, e19]
                   · rw [if_neg (fun z => u (by have := z.2; omega)), if_neg u, e128]; exact gc j x y)
            · try dsimp only
              omega
        · skip
          refine w_rt ?_
          refine ⟨f9, ?_⟩
          unfold gg
          rw [grS_more hW w, e7, show v8.toNat = (tN T).toNat by omega]
      · try dsimp only
        refine ⟨?_, ?_, ?_, ?_, ?_⟩
        · first | omega | (subst_vars; first | rfl | assumption) | assumption
        · first | omega | (subst_vars; first | rfl | assumption) | assumption
        · exact f4
        · rw [hv6, hv1]; rfl
        · intro j x y; rw [hv6]; exact z4 _ (by omega)
      · try dsimp only
        omega
  · try dsimp only
    refine ⟨?_, ?_, ?_, ?_⟩
    · first | omega | (subst_vars; first | rfl | assumption) | assumption
    · first | omega | (subst_vars; first | rfl | assumption) | assumption
    · exact FSx.rf G
    · intro j x; omega
  · try dsimp only
    omega

/-! ask's search may end once the least greatest group is 1 (the class at a213888) -/
theorem grS_z {W p : Int} : ∀ i : Nat, 0 ≤ (grS T a W p i).2 ∧ ∀ m : Nat, m < i → bt W m = 1 → 1 ≤ (grS T a W p i).2
  | 0 => ⟨Int.le_refl _, fun m h => absurd h (Nat.not_lt_zero m)⟩
  | i + 1 => by
    have ih := grS_z (W := W) (p := p) i
    have g := (grS_r (T := T) (a := a) (W := W) (p := p) i (gid T a p i)).1
    rw [grS]
    by_cases c : bt W i = 1
    · rw [if_pos c]
      have v : 1 ≤ (if (grS T a W p i).2 < (grS T a W p i).1 (gid T a p i) + 1 then (grS T a W p i).1 (gid T a p i) + 1 else (grS T a W p i).2) := by split <;> omega
      exact ⟨Int.le_trans (by decide) v, fun _ _ _ => v⟩
    · rw [if_neg c]
      exact ⟨ih.1, fun m h z => ih.2 m (by have : m ≠ i := fun e => c (e ▸ z); omega) z⟩
theorem gg_z {W p : Int} (hW : 0 ≤ W ∧ W < 256) (h : gg T a W p ≤ 0) : pcn W = 0 ∧ gg T a W p = 0 := by
  have g := grS_z (T := T) (a := a) (W := W) (p := p) 8
  unfold gg at h ⊢
  have z : ∀ m : Nat, m < 8 → bt W m = 0 := fun m hm => by
    rcases bt_01 W m with x | x
    · exact x
    · have := g.2 m hm x; omega
  have z' : ∀ m : Nat, 8 ≤ m → bt W m = 0 := fun m hm => bt_low (n := 8) hW.1 hW.2 hm
  refine ⟨?_, by have := g.1; omega⟩
  unfold pcn
  rw [z 0 (by decide), z 1 (by decide), z 2 (by decide), z 3 (by decide), z 4 (by decide), z 5 (by decide), z 6 (by decide), z 7 (by decide), z' 8 (by decide), z' 9 (by decide)]; rfl
theorem aqS_le {W : Int} : ∀ q : Nat, (aqS T a W q).2 ≤ pcn W
  | 0 => Int.le_refl _
  | q + 1 => by
    have ih := aqS_le (W := W) q
    rw [aqS]
    by_cases c : gg T a W q < (aqS T a W q).2
    · rw [if_pos c]; exact Int.le_trans (Int.le_of_lt c) ih
    · rw [if_neg c]; exact ih
theorem aqS_one {W : Int} (hW : 0 ≤ W ∧ W < 256) {q : Nat} (h : (aqS T a W q).2 ≤ 1) : aqS T a W (q + 1) = aqS T a W q := by
  rw [aqS, if_neg]
  intro c
  have g := gg_z (T := T) (a := a) (p := (q : Int)) hW (by omega)
  have l := aqS_le (T := T) (a := a) (W := W) q
  omega
theorem aqS_stop {W : Int} (hW : 0 ≤ W ∧ W < 256) {q : Nat} (h : (aqS T a W q).2 ≤ 1) : ∀ k : Nat, aqS T a W (q + k) = aqS T a W q
  | 0 => rfl
  | k + 1 => by
    have e := aqS_stop hW h k
    rw [← Nat.add_assoc, aqS_one hW (by rw [e]; exact h), e]
theorem x_bestQuestion (w : WT T) (hw : WA T a) (hA_G : XA 27 a G) (hT_G : XT T G) {S : SE} (hS : WS T S) (xs : XS 39 S G) : WP (fX5_bestQuestion 39 29 a.1 (tC T) G) (fun r G' => FQ G G' ∧ r = (aqS T a (bits (who T a S) 8) (tC T).toNat).1) := by
  have wr := w.rg
  have W8 := bits8_r (who T a S)
  have Wi : ∀ n : Int, 0 ≤ n → n < 8 → bt (bits (who T a S) 8) n.toNat = 1 → isi a n = 1 := fun n x y z => ((bt_bits8 x y).mp z).1
  have Ws : sub8 T (bits (who T a S) 8) := ⟨W8, fun n x y z => hw.2.1 n (Wi n x y z)⟩
  generalize hvv : a.1 = vv
  generalize hcc : tC T = cc
  unfold fX5_bestQuestion
  rw [← hvv]
  refine w_bn (x_suspects w hw hA_G hT_G hS xs) (fun v1 G2 q2 => ?_)
  obtain ⟨f2, e1⟩ := q2
  refine w_bd (fun v3 hv3 => ?_)
  refine w_bd (fun v4 hv4 => ?_)
  refine w_bp (x_popc (by omega) (by omega)) (fun v5 hv5 => ?_)
  have qv5 := pcn_r v3
  refine w_bd (fun v6 hv6 => ?_)
  refine w_bd (fun v7 hv7 => ?_)
  refine w_lpIIIH (fun (v8 : Int) (v9 : Int) (v10 : Int) (G11 : Hp) => (0 ≤ v10) ∧ (v10 ≤ cc) ∧ (FQ G G11) ∧ (v8 = (aqS T a (bits (who T a S) 8) v10.toNat).1) ∧ (v9 = (aqS T a (bits (who T a S) 8) v10.toNat).2)) (fun (v8 : Int) (v9 : Int) (v10 : Int) (G11 : Hp) => (256 - v10).toNat) (fun rc12 v8 v9 v10 G11 hI hrc12 => ?_) _ _ _ _ ?_ ?_
  · skip
    obtain ⟨i0, i1, f11, e8, e9⟩ := hI
    refine w_ite (fun c_1 => ?_) (fun c_1 => ?_)
    · skip
      refine w_ite (fun c_2 => ?_) (fun c_2 => ?_)
      · skip
        refine w_bn (x_greatestGroup w hw (f11.A hA_G) (f11.t hT_G) (W := v3) (p := v10) (by rw [hv3, e1]; exact Ws) (by rw [hv3, e1]; exact Wi) (by omega)) (fun v13 G14 q14 => ?_)
        obtain ⟨f14, e13⟩ := q14
        rw [hv3, e1] at e13
        refine w_bd (fun v15 hv15 => ?_)
        refine w_jn ?_
        refine w_ite (fun c_3 => ?_) (fun c_3 => ?_)
        · skip
          refine w_bd (fun v20 hv20 => ?_)
          refine w_bd (fun v21 hv21 => ?_)
          refine w_bd (fun v19 hv19 => ?_)
          simp (disch := omega) only [iadd_id, isub_id, imul_id] at hv19
          refine hrc12 _ _ _ _ ?_ ?_
          · try dsimp only
            refine ⟨?_, ?_, ?_, ?_, ?_⟩
            · first | omega | grind
            · first | omega | grind
            · exact f11.tr f14
            · rw [hv19, aqS_s i0]; first | (rw [if_pos (by omega)]; omega) | (rw [if_neg (by omega)]; exact e8)
            · rw [hv19, aqS_s i0]; first | (rw [if_pos (by omega)]; omega) | (rw [if_neg (by omega)]; exact e9)
          · try dsimp only
            omega
        · skip
          refine w_bd (fun v19 hv19 => ?_)
          simp (disch := omega) only [iadd_id, isub_id, imul_id] at hv19
          refine hrc12 _ _ _ _ ?_ ?_
          · try dsimp only
            refine ⟨?_, ?_, ?_, ?_, ?_⟩
            · first | omega | grind
            · first | omega | grind
            · exact f11.tr f14
            · rw [hv19, aqS_s i0]; first | (rw [if_pos (by omega)]; omega) | (rw [if_neg (by omega)]; exact e8)
            · rw [hv19, aqS_s i0]; first | (rw [if_pos (by omega)]; omega) | (rw [if_neg (by omega)]; exact e9)
          · try dsimp only
            omega
      · skip
        refine w_rt ?_
        refine ⟨f11, ?_⟩
        first
        | rw [e8, show v10.toNat = cc.toNat by omega]
        | (have es := aqS_stop (T := T) (a := a) W8 (q := v10.toNat) (by rw [← e9]; omega) (cc.toNat - v10.toNat)
           rw [show v10.toNat + (cc.toNat - v10.toNat) = cc.toNat by omega] at es
           rw [e8, es])
    · skip
      refine w_rt ?_
      refine ⟨f11, ?_⟩
      first
      | rw [e8, show v10.toNat = cc.toNat by omega]
      | (have es := aqS_stop (T := T) (a := a) W8 (q := v10.toNat) (by rw [← e9]; omega) (cc.toNat - v10.toNat)
         rw [show v10.toNat + (cc.toNat - v10.toNat) = cc.toNat by omega] at es
         rw [e8, es])
  · try dsimp only
    refine ⟨?_, ?_, ?_, ?_, ?_⟩
    · first | omega | (subst_vars; first | rfl | assumption) | assumption
    · first | omega | (subst_vars; first | rfl | assumption) | assumption
    · exact f2
    · rw [hv7, hv4]; rfl
    · rw [hv7, hv6, hv5, hv3, e1]; rfl
  · try dsimp only
    omega

theorem m_ask (w : WT T) (hw : WA T a) (hR_G : MR 0 a G) (hM_G : MT T G) {S : SE} (hS : WS T S) (ms : MSe 0 S G) : WP (fX12_ask 111 G) (fun r G' => FRS G G' ∧ r = (aqS T a (bits (who T a S) 8) (tC T).toNat).1) := by
  have wr := w.rg
  have W8 := bits8_r (who T a S)
  have Wi : ∀ n : Int, 0 ≤ n → n < 8 → bt (bits (who T a S) 8) n.toNat = 1 → isi a n = 1 := fun n x y z => ((bt_bits8 x y).mp z).1
  have Ws : sub8 T (bits (who T a S) 8) := ⟨W8, fun n x y z => hw.2.1 n (Wi n x y z)⟩
  unfold fX12_ask
  refine w_bh (fun G1 hG1 => ?_)
  have hR_G1 : MR 0 a G1 := hR_G.fr (by rw [hG1, up_ne (by decide)])
  have hM_G1 : MT T G1 := hM_G.fr (by rw [hG1, up_ne (by decide)]) (by rw [hG1, up_ne (by decide)])
  refine w_bn (m_whoNow w hw hR_G1 hM_G1 hS (ms.fr (by rw [hG1, up_ne (by decide)]))) (fun v2 G3 q3 => ?_)
  obtain ⟨f3, e2⟩ := q3
  refine w_bd (fun v4 hv4 => ?_)
  refine w_bd (fun v5 hv5 => ?_)
  refine w_bp (m_manyOf (by omega) (by omega)) (fun v6 hv6 => ?_)
  have qv6 := pcn_r v4
  refine w_bd (fun v7 hv7 => ?_)
  refine w_bd (fun v8 hv8 => ?_)
  refine w_lpIIIH (fun (v9 : Int) (v10 : Int) (v11 : Int) (G12 : Hp) => (0 ≤ v11) ∧ (v11 ≤ tC T) ∧ (FSx G1 G12) ∧ (v9 = (aqS T a (bits (who T a S) 8) v11.toNat).1) ∧ (v10 = (aqS T a (bits (who T a S) 8) v11.toNat).2)) (fun (v9 : Int) (v10 : Int) (v11 : Int) (G12 : Hp) => (256 - v11).toNat) (fun rc13 v9 v10 v11 G12 hI hrc13 => ?_) _ _ _ _ ?_ ?_
  · skip
    obtain ⟨i0, i1, f12, e9, e10⟩ := hI
    have hM_G12 := f12.t hM_G1
    refine w_bp (m_circle hM_G12) (fun v14 hv14 => ?_)
    refine w_ite (fun c_1 => ?_) (fun c_1 => ?_)
    · skip
      refine w_bn (m_greatestGroup w hw (f12.R hR_G1) (f12.t hM_G1) (W := v4) (p := v11) (by rw [hv4, e2]; exact Ws) (by omega)) (fun v15 G16 q16 => ?_)
      obtain ⟨f16, e15⟩ := q16
      rw [hv4, e2] at e15
      refine w_bd (fun v17 hv17 => ?_)
      refine w_jn ?_
      refine w_ite (fun c_2 => ?_) (fun c_2 => ?_)
      · skip
        refine w_bd (fun v20 hv20 => ?_)
        refine w_jn ?_
        refine w_ite (fun c_3 => ?_) (fun c_3 => ?_)
        · skip
          refine w_bd (fun v23 hv23 => ?_)
          refine w_bd (fun v24 hv24 => ?_)
          simp (disch := omega) only [iadd_id, isub_id, imul_id] at hv24
          refine hrc13 _ _ _ _ ?_ ?_
          · try dsimp only
            refine ⟨?_, ?_, ?_, ?_, ?_⟩
            · first | omega | grind
            · first | omega | grind
            · exact f12.tr f16
            · rw [hv24, aqS_s i0]; first | (rw [if_pos (by omega)]; omega) | (rw [if_neg (by omega)]; omega)
            · rw [hv24, aqS_s i0]; first | (rw [if_pos (by omega)]; omega) | (rw [if_neg (by omega)]; omega)
          · try dsimp only
            omega
        · skip
          refine w_bd (fun v23 hv23 => ?_)
          refine w_bd (fun v24 hv24 => ?_)
          simp (disch := omega) only [iadd_id, isub_id, imul_id] at hv24
          refine hrc13 _ _ _ _ ?_ ?_
          · try dsimp only
            refine ⟨?_, ?_, ?_, ?_, ?_⟩
            · first | omega | grind
            · first | omega | grind
            · exact f12.tr f16
            · rw [hv24, aqS_s i0]; first | (rw [if_pos (by omega)]; omega) | (rw [if_neg (by omega)]; omega)
            · rw [hv24, aqS_s i0]; first | (rw [if_pos (by omega)]; omega) | (rw [if_neg (by omega)]; omega)
          · try dsimp only
            omega
      · skip
        refine w_bd (fun v20 hv20 => ?_)
        refine w_jn ?_
        refine w_ite (fun c_4 => ?_) (fun c_4 => ?_)
        · skip
          refine w_bd (fun v23 hv23 => ?_)
          refine w_bd (fun v24 hv24 => ?_)
          simp (disch := omega) only [iadd_id, isub_id, imul_id] at hv24
          refine hrc13 _ _ _ _ ?_ ?_
          · try dsimp only
            refine ⟨?_, ?_, ?_, ?_, ?_⟩
            · first | omega | grind
            · first | omega | grind
            · exact f12.tr f16
            · rw [hv24, aqS_s i0]; first | (rw [if_pos (by omega)]; omega) | (rw [if_neg (by omega)]; omega)
            · rw [hv24, aqS_s i0]; first | (rw [if_pos (by omega)]; omega) | (rw [if_neg (by omega)]; omega)
          · try dsimp only
            omega
        · skip
          refine w_bd (fun v23 hv23 => ?_)
          refine w_bd (fun v24 hv24 => ?_)
          simp (disch := omega) only [iadd_id, isub_id, imul_id] at hv24
          refine hrc13 _ _ _ _ ?_ ?_
          · try dsimp only
            refine ⟨?_, ?_, ?_, ?_, ?_⟩
            · first | omega | grind
            · first | omega | grind
            · exact f12.tr f16
            · rw [hv24, aqS_s i0]; first | (rw [if_pos (by omega)]; omega) | (rw [if_neg (by omega)]; omega)
            · rw [hv24, aqS_s i0]; first | (rw [if_pos (by omega)]; omega) | (rw [if_neg (by omega)]; omega)
          · try dsimp only
            omega
    · skip
      refine w_rt ?_
      refine ⟨(show FRS G G1 by rw [hG1]; exact FRS.th).tr f12.S, ?_⟩
      rw [e9, show v11.toNat = (tC T).toNat by omega]
  · try dsimp only
    refine ⟨?_, ?_, ?_, ?_, ?_⟩
    · first | omega | (subst_vars; first | rfl | assumption) | assumption
    · first | omega | (subst_vars; first | rfl | assumption) | assumption
    · exact f3
    · rw [hv8, hv5]; rfl
    · rw [hv8, hv7, hv6, hv4, e2]; rfl
  · try dsimp only
    omega

end SEE
