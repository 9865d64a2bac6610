/-! TRIALS -/
section TRI
variable {b : Nat} {a : AS} {G : Hp} {T : TT}
def FT (G G' : Hp) : Prop := ∀ c, c ≠ 27 → c ≠ 28 → c ≠ 29 → c ≠ 30 → c ≠ 32 → c ≠ 34 → c ≠ 35 → c ≠ 36 → c ≠ 37 → c ≠ 38 → G' c = G c
theorem FT.rf (G : Hp) : FT G G := fun _ _ _ _ _ _ _ _ _ _ _ => rfl
theorem FT.tr {G1 G2 : Hp} (h : FT G G1) (k : FT G1 G2) : FT G G2 := fun c x1 x2 x3 x4 x5 x6 x7 x8 x9 x10 => (k c x1 x2 x3 x4 x5 x6 x7 x8 x9 x10).trans (h c x1 x2 x3 x4 x5 x6 x7 x8 x9 x10)
theorem FT.d {G' : Hp} (h : FRD G G') : FT G G' := fun c x1 x2 x3 x4 x5 _ _ _ _ _ => h c x1 x2 x3 x4 x5
theorem FT.c {G' : Hp} {q : Nat} (hq : q = 27 ∨ q = 35 ∨ q = 37) (h : ∀ c, c ≠ q → c ≠ q + 1 → G' c = G c) : FT G G' := fun c x1 x2 x3 x4 x5 x6 x7 x8 x9 x10 => h c (by omega) (by omega)
theorem FT.t {G' : Hp} (h : FT G G') (k : XT T G) : XT T G' := k.fr (h 4 (by decide) (by decide) (by decide) (by decide) (by decide) (by decide) (by decide) (by decide) (by decide) (by decide)) (h 5 (by decide) (by decide) (by decide) (by decide) (by decide) (by decide) (by decide) (by decide) (by decide) (by decide)) (h 6 (by decide) (by decide) (by decide) (by decide) (by decide) (by decide) (by decide) (by decide) (by decide) (by decide)) (h 9 (by decide) (by decide) (by decide) (by decide) (by decide) (by decide) (by decide) (by decide) (by decide) (by decide))
theorem rf35 : rf 35 0 = 35 + 1 := rf_35_0
theorem rf37 : rf 37 0 = 37 + 1 := rf_37_0
theorem rf27 : rf 27 0 = 27 + 1 := rf_27_0
def a0s : AS := (0, fun _ => -1)
theorem WA_0 (w : WT T) : WA T a0s := by
  have wr := w.rg
  have l : ∀ n k, lst a0s n k = -1 := fun n k => by unfold lst a0s; split <;> rfl
  have h : ∀ n, ahd a0s n = -1 := fun n => by unfold ahd a0s; split <;> rfl
  have f : ∀ n k, fng a0s n k = -1 := fun n k => by unfold fng a0s; split <;> rfl
  have d : ∀ k, hld a0s k = -1 := fun k => by unfold hld a0s; split <;> rfl
  have i : ∀ n, isi a0s n = 0 := fun n => by unfold isi a0s bt; split <;> simp
  exact WA_of ⟨by decide, by decide⟩ (fun n z => by rw [i] at z; omega) (fun n k => by rw [l]; omega) (fun n k _ z => by rw [l] at z; omega) (fun n k j _ _ _ => l n k) (fun n => by rw [h]; omega) (fun n k => by rw [f]; omega) (fun k => by rw [d]; omega) (fun k _ => d k) (fun n _ => ⟨fun k => l n k, h n, fun k => f n k⟩)
/-! works -/
abbrev WK : Type := Int × (Int → Int) × (Int → Int) × (Int → Int)
def XW (q : Nat) (k : WK) (G : Hp) : Prop := G q 3 = k.1 ∧ ∀ i : Int, 0 ≤ i → i < k.1 → G (q + 1) i.toNat = k.2.1 i + 6 ∧ G (q + 2) i.toNat = k.2.2.1 i ∧ G (q + 3) i.toNat = k.2.2.2 i
def MW (k : WK) (G : Hp) : Prop := G 120 0 = k.1 ∧ ∀ i : Int, 0 ≤ i → i < k.1 → G 120 (1 + 3 * i).toNat = k.2.1 i ∧ G 120 (1 + 3 * i + 1).toNat = k.2.2.1 i ∧ (k.2.1 i = 1 ∨ k.2.1 i = 6 ∨ k.2.1 i = 7 → G 120 (1 + 3 * i + 2).toNat = k.2.2.2 i)
def WW (T : TT) (k : WK) : Prop := (0 ≤ k.1 ∧ k.1 ≤ 40) ∧ ∀ i : Int, 0 ≤ i → i < k.1 → (0 ≤ k.2.1 i ∧ k.2.1 i ≤ 8) ∧ (k.2.1 i ≠ 7 → 0 ≤ k.2.2.1 i ∧ k.2.2.1 i < tN T) ∧ (k.2.1 i = 7 → 0 ≤ k.2.2.1 i ∧ k.2.2.1 i < tK T) ∧ (k.2.1 i = 1 ∨ k.2.1 i = 7 → k.2.2.2 i < tN T)
theorem eDo_y {c x y y' : Int} (h : ¬ (c = 1 ∨ c = 6 ∨ c = 7)) : eDo T a c x y = eDo T a c x y' := by
  unfold eDo
  rw [if_neg (c := c = 1) (by omega), if_neg (c := c = 6) (by omega), if_neg (c := c = 7) (by omega), if_neg (c := c = 1) (by omega), if_neg (c := c = 6) (by omega), if_neg (c := c = 7) (by omega)]
noncomputable def jdS (T : TT) (k : WK) : Nat → Int × AS
  | 0 => (-1, a0s)
  | i + 1 => (if (eDo T (jdS T k i).2 (k.2.1 i) (k.2.2.1 i) (k.2.2.2 i)).1 = 0 ∧ (jdS T k i).1 = -1 then (i : Int) else (jdS T k i).1, (eDo T (jdS T k i).2 (k.2.1 i) (k.2.2.1 i) (k.2.2.2 i)).2)
theorem jdS_s {k : WK} {i : Int} (h : 0 ≤ i) : jdS T k (i + 1).toNat = (if (eDo T (jdS T k i.toNat).2 (k.2.1 i) (k.2.2.1 i) (k.2.2.2 i)).1 = 0 ∧ (jdS T k i.toNat).1 = -1 then i else (jdS T k i.toNat).1, (eDo T (jdS T k i.toNat).2 (k.2.1 i) (k.2.2.1 i) (k.2.2.2 i)).2) := by
  rw [toN1 h, jdS]; simp only [Int.toNat_of_nonneg h]
theorem jdS_w (w : WT T) (k : WK) : ∀ i, WA T (jdS T k i).2
  | 0 => WA_0 w
  | i + 1 => WA_eDo (jdS_w w k i) w
theorem jdS_r (k : WK) : ∀ i : Nat, -1 ≤ (jdS T k i).1 ∧ (jdS T k i).1 < i ∨ i = 0 ∧ (jdS T k i).1 = -1
  | 0 => Or.inr ⟨rfl, rfl⟩
  | i + 1 => by
    have ih := jdS_r k i
    left
    rw [jdS]
    show -1 ≤ (if _ then _ else _) ∧ (if _ then _ else _) < ((i + 1 : Nat) : Int)
    split <;> omega
noncomputable def jdg (T : TT) (k : WK) (what : Int) : Int := if what = 0 then (jdS T k k.1.toNat).1 else if what = 1 then pcn (jdS T k k.1.toNat).2.1 else cnt (fun j => hld (jdS T k k.1.toNat).2 j ≠ -1) 10
theorem x_judgeWork (w : WT T) (hw : WA T a) (hA_G : XA 27 a G) (hT_G : XT T G) {k : WK} (hk : WW T k) (kx : XW 19 k G) {what : Int} : WP (fX9_judgeWork 34 19 what G) (fun r G' => FT G G' ∧ XA 27 a G' ∧ r = jdg T k what) := by
  have wr := w.rg
  have hk1 := hk.1
  unfold fX9_judgeWork
  simp only [rf_19_0, rf_19_1, rf_19_2, rf_34_1, rf_34_2, rf_34_4]
  refine w_bn (x_copyFrom (q := 35) (p := 27) rf35 rf27 (by omega) (by omega) (by omega) hA_G) (fun _ G1 qG1 => ?_)
  obtain ⟨fG1, gG1, xG1⟩ := qG1
  refine w_bn (x_clear (q := 27) rf27) (fun _ G2 q2 => ?_)
  obtain ⟨f2, g2, x2⟩ := q2
  have k2 : XA 35 a G2 := xG1.fr (f2 35 (by decide) (by decide)) (f2 36 (by decide) (by decide))
  have FT2 : FT G G2 := (FT.c (q := 35) (by omega) fG1).tr (FT.c (q := 27) (by omega) f2)
  refine w_bd (fun v3 hv3 => ?_)
  refine w_bd (fun v4 hv4 => ?_)
  refine w_lpIIH (fun (v5 : Int) (v6 : Int) (G7 : Hp) => (0 ≤ v6) ∧ (v6 ≤ k.1) ∧ (FT G G7) ∧ (XA 35 a G7) ∧ (WA T (jdS T k v6.toNat).2) ∧ (v5 = (jdS T k v6.toNat).1) ∧ (XA 27 (jdS T k v6.toNat).2 G7)) (fun (v5 : Int) (v6 : Int) (G7 : Hp) => (40 - v6).toNat) (fun rc8 v5 v6 G7 hI hrc8 => ?_) _ _ _ ?_ ?_
  · skip
    obtain ⟨i0, i1, f7, k7, w7, e5, x7⟩ := hI
    have hT_G7 := f7.t hT_G
    have kx7 : XW 19 k G7 := by unfold XW; rw [f7 19 (by decide) (by decide) (by decide) (by decide) (by decide) (by decide) (by decide) (by decide) (by decide) (by decide), f7 20 (by decide) (by decide) (by decide) (by decide) (by decide) (by decide) (by decide) (by decide) (by decide) (by decide), f7 21 (by decide) (by decide) (by decide) (by decide) (by decide) (by decide) (by decide) (by decide) (by decide) (by decide), f7 22 (by decide) (by decide) (by decide) (by decide) (by decide) (by decide) (by decide) (by decide) (by decide) (by decide)]; exact kx
    have n7 : G7 19 3 = k.1 := kx7.1
    have hki := (hk.2 v6 i0)
    refine w_jn ?_
    refine w_ite (fun c_1 => ?_) (fun c_1 => ?_)
    · skip
      refine w_ite (fun c_2 => ?_) (fun c_2 => ?_)
      · skip
        refine w_rdv (show rd G7 20 40 v6 = some (k.2.1 v6 + 6) from (rd_in (by omega) (by omega)).trans (congrArg some (kx7.2 v6 i0 (by omega)).1)) (fun v16 hv16 => ?_)
        refine w_rdv (show rd G7 21 40 v6 = some (k.2.2.1 v6) from (rd_in (by omega) (by omega)).trans (congrArg some (kx7.2 v6 i0 (by omega)).2.1)) (fun v17 hv17 => ?_)
        refine w_rdv (show rd G7 22 40 v6 = some (k.2.2.2 v6) from (rd_in (by omega) (by omega)).trans (congrArg some (kx7.2 v6 i0 (by omega)).2.2)) (fun v18 hv18 => ?_)
        rw [hv16]
        refine w_bn (x_doDeed w w7 x7 hT_G7 (c := k.2.1 v6) (x := v17) (y := v18) (by omega) (by omega)) (fun v19 G20 q20 => ?_)
        obtain ⟨f20, e19, x20⟩ := q20
        rw [hv17, hv18] at e19 x20
        have z01 := eDo_01 (T := T) (a := (jdS T k v6.toNat).2) (c := k.2.1 v6) (x := k.2.2.1 v6) (y := k.2.2.2 v6)
        refine w_bd (fun v21 hv21 => ?_)
        refine w_jn ?_
        refine w_ite (fun c_3 => ?_) (fun c_3 => ?_)
        · skip
          refine w_ite (fun c_4 => ?_) (fun c_4 => ?_)
          · skip
            refine w_bd (fun v25 hv25 => ?_)
            refine w_bd (fun v24 hv24 => ?_)
            simp (disch := omega) only [iadd_id, isub_id, imul_id] at hv24
            refine hrc8 _ _ _ ?_ ?_
            · try dsimp only
              refine ⟨?_, ?_, ?_, ?_, ?_, ?_, ?_⟩
              · first | omega | grind
              · first | omega | grind
              · exact f7.tr (FT.d f20)
              · exact k7.fr (f20 35 (by decide) (by decide) (by decide) (by decide) (by decide)) (f20 36 (by decide) (by decide) (by decide) (by decide) (by decide))
              · rw [hv24]; exact jdS_w w k _
              · rw [hv24, jdS_s i0]; show _ = (if _ then _ else _); first | (rw [if_pos (by omega)]; omega) | (rw [if_neg (by omega)]; omega)
              · rw [hv24, jdS_s i0]; exact x20
            · try dsimp only
              omega
          · skip
            refine w_bd (fun v24 hv24 => ?_)
            simp (disch := omega) only [iadd_id, isub_id, imul_id] at hv24
            refine hrc8 _ _ _ ?_ ?_
            · try dsimp only
              refine ⟨?_, ?_, ?_, ?_, ?_, ?_, ?_⟩
              · first | omega | grind
              · first | omega | grind
              · exact f7.tr (FT.d f20)
              · exact k7.fr (f20 35 (by decide) (by decide) (by decide) (by decide) (by decide)) (f20 36 (by decide) (by decide) (by decide) (by decide) (by decide))
              · rw [hv24]; exact jdS_w w k _
              · rw [hv24, jdS_s i0]; show _ = (if _ then _ else _); first | (rw [if_pos (by omega)]; omega) | (rw [if_neg (by omega)]; omega)
              · rw [hv24, jdS_s i0]; exact x20
            · try dsimp only
              omega
        · skip
          refine w_bd (fun v24 hv24 => ?_)
          simp (disch := omega) only [iadd_id, isub_id, imul_id] at hv24
          refine hrc8 _ _ _ ?_ ?_
          · try dsimp only
            refine ⟨?_, ?_, ?_, ?_, ?_, ?_, ?_⟩
            · first | omega | grind
            · first | omega | grind
            · exact f7.tr (FT.d f20)
            · exact k7.fr (f20 35 (by decide) (by decide) (by decide) (by decide) (by decide)) (f20 36 (by decide) (by decide) (by decide) (by decide) (by decide))
            · rw [hv24]; exact jdS_w w k _
            · rw [hv24, jdS_s i0]; show _ = (if _ then _ else _); first | (rw [if_pos (by omega)]; omega) | (rw [if_neg (by omega)]; omega)
            · rw [hv24, jdS_s i0]; exact x20
          · try dsimp only
            omega
      · skip
        refine w_bp (r := pcn (jdS T k v6.toNat).2.1) (G := G7) (by unfold fX6_insideCount; rw [x7.1, x_popc (by have := w7.1; unfold okv at this; omega) (by have := w7.1; unfold okv at this; omega), bp_s]; rfl) (fun v10 hv10 => ?_)
        refine w_bd (fun v11 hv11 => ?_)
        refine w_bp (x_heldKeys x7) (fun v12 hv12 => ?_)
        refine w_bd (fun v13 hv13 => ?_)
        have ev : v6 = k.1 := by omega
        refine w_bn (x_copyFrom (q := 27) (p := 35) rf27 rf35 (by omega) (by omega) (by omega) k7) (fun _ G14 q14 => ?_)
        obtain ⟨f14, g14, x14⟩ := q14
        have FF : FT G G14 := f7.tr (FT.c (q := 27) (by omega) f14)
        rw [ev] at e5 x7 w7 hv12 hv10
        refine w_ite (fun c_5 => ?_) (fun c_5 => ?_)
        · skip
          refine w_rt ?_
          refine ⟨FF, x14, ?_⟩
          unfold jdg; rw [if_pos (by omega)]; exact e5
        · skip
          refine w_ite (fun c_6 => ?_) (fun c_6 => ?_)
          · skip
            refine w_rt ?_
            refine ⟨FF, x14, ?_⟩
            unfold jdg; rw [if_neg (by omega), if_pos (by omega), hv11, hv10]
          · skip
            refine w_rt ?_
            refine ⟨FF, x14, ?_⟩
            unfold jdg; rw [if_neg (by omega), if_neg (by omega), hv13, hv12]
    · skip
      refine w_bp (r := pcn (jdS T k v6.toNat).2.1) (G := G7) (by unfold fX6_insideCount; rw [x7.1, x_popc (by have := w7.1; unfold okv at this; omega) (by have := w7.1; unfold okv at this; omega), bp_s]; rfl) (fun v10 hv10 => ?_)
      refine w_bd (fun v11 hv11 => ?_)
      refine w_bp (x_heldKeys x7) (fun v12 hv12 => ?_)
      refine w_bd (fun v13 hv13 => ?_)
      have ev : v6 = k.1 := by omega
      refine w_bn (x_copyFrom (q := 27) (p := 35) rf27 rf35 (by omega) (by omega) (by omega) k7) (fun _ G14 q14 => ?_)
      obtain ⟨f14, g14, x14⟩ := q14
      have FF : FT G G14 := f7.tr (FT.c (q := 27) (by omega) f14)
      rw [ev] at e5 x7 w7 hv12 hv10
      refine w_ite (fun c_7 => ?_) (fun c_7 => ?_)
      · skip
        refine w_rt ?_
        refine ⟨FF, x14, ?_⟩
        unfold jdg; rw [if_pos (by omega)]; exact e5
      · skip
        refine w_ite (fun c_8 => ?_) (fun c_8 => ?_)
        · skip
          refine w_rt ?_
          refine ⟨FF, x14, ?_⟩
          unfold jdg; rw [if_neg (by omega), if_pos (by omega), hv11, hv10]
        · skip
          refine w_rt ?_
          refine ⟨FF, x14, ?_⟩
          unfold jdg; rw [if_neg (by omega), if_neg (by omega), hv13, hv12]
  · try dsimp only
    refine ⟨?_, ?_, ?_, ?_, ?_, ?_, ?_⟩
    · first | omega | (subst_vars; first | rfl | assumption) | assumption
    · first | omega | (subst_vars; first | rfl | assumption) | assumption
    · exact FT2
    · exact k2
    · rw [hv4]; exact WA_0 w
    · rw [hv4, hv3]; rfl
    · rw [hv4]; exact x2
  · try dsimp only
    omega

theorem m_judged (w : WT T) (hw : WA T a) (hR_G : MR 0 a G) (hM_G : MT T G) {k : WK} (hk : WW T k) (kx : MW k G) {what : Int} : WP (fX12_judged 111 what G) (fun r G' => FRS G G' ∧ r = if 0 ≤ what ∧ what ≤ 2 then jdg T k what else -2) := by
  have wr := w.rg
  have hk1 := hk.1
  unfold fX12_judged
  simp only [rf_111_14]
  refine w_bh (fun G1 hG1 => ?_)
  have hR_G1 : MR 0 a G1 := hR_G.fr (by rw [hG1, up_ne (by decide)])
  have hM_G1 : MT T G1 := hM_G.fr (by rw [hG1, up_ne (by decide)]) (by rw [hG1, up_ne (by decide)])
  have kx1 : MW k G1 := by unfold MW; rw [hG1, up_ne (by decide)]; exact kx
  refine w_bp (m_within) (fun v2 hv2 => ?_)
  have qv2 : ((0 ≤ what ∧ what ≤ 2) ∧ v2 = 1) ∨ (¬ (0 ≤ what ∧ what ≤ 2) ∧ v2 = 0) := by rw [hv2]; exact ite01 _
  refine w_ite (fun c_1 => ?_) (fun c_1 => ?_)
  · skip
    refine w_rt ?_
    exact ⟨by rw [hG1]; exact FRS.th, by rw [if_neg (by omega)]⟩
  · skip
    refine w_bn (m_starts (b := 3255) (by omega)) (fun _ G3 q3 => ?_)
    obtain ⟨f3, g3, x3⟩ := q3
    refine w_bd (fun v4 hv4 => ?_)
    refine w_bd (fun v5 hv5 => ?_)
    refine w_lpIIH (fun (v6 : Int) (v7 : Int) (G8 : Hp) => (0 ≤ v7) ∧ (v7 ≤ k.1) ∧ (FRM 3255 G1 G8) ∧ (v6 = (jdS T k v7.toNat).1) ∧ (MR 3255 (jdS T k v7.toNat).2 G8)) (fun (v6 : Int) (v7 : Int) (G8 : Hp) => (40 - v7).toNat) (fun rc9 v6 v7 G8 hI hrc9 => ?_) _ _ _ ?_ ?_
    · skip
      obtain ⟨i0, i1, f8, e6, x8⟩ := hI
      have hM_G8 := f8.tt hM_G1
      have w8 := jdS_w w k v7.toNat
      have kx8 : MW k G8 := by unfold MW; rw [f8.1 120 (by decide) (by decide) (by decide) (by decide)]; exact kx1
      have hki := hk.2 v7 i0
      have jr := jdS_r (T := T) k v7.toNat
      refine w_rdv (show rd G8 120 241 0 = some k.1 from (rd_in (by omega) (by omega)).trans (congrArg some kx8.1)) (fun v10 hv10 => ?_)
      refine w_ite (fun c_2 => ?_) (fun c_2 => ?_)
      · skip
        refine w_bd (fun v14 hv14 => ?_)
        simp (disch := omega) only [iadd_id, isub_id, imul_id] at hv14
        refine w_rdv (show rd G8 120 241 v14 = some (k.2.1 v7) from (rd_in (by omega) (by omega)).trans (congrArg some (by rw [hv14]; exact (kx8.2 v7 i0 (by omega)).1))) (fun v15 hv15 => ?_)
        have hki2 := hki (by omega)
        try rw [show iadd v14 1 = (v14 + 1) by simp (disch := omega) only [iadd_id, isub_id, imul_id]]
        refine w_rdv (show rd G8 120 241 (v14 + 1) = some (k.2.2.1 v7) from (rd_in (by omega) (by omega)).trans (congrArg some (by rw [hv14]; exact (kx8.2 v7 i0 (by omega)).2.1))) (fun v16 hv16 => ?_)
        try rw [show iadd v14 2 = (v14 + 2) by simp (disch := omega) only [iadd_id, isub_id, imul_id]]
        refine w_rdv (show rd G8 120 241 (v14 + 2) = some (G8 120 (1 + 3 * v7 + 2).toNat) from (rd_in (by omega) (by omega)).trans (congrArg some (by rw [hv14]))) (fun v17 hv17 => ?_)
        have hy : k.2.1 v7 = 1 ∨ k.2.1 v7 = 7 → v17 < tN T := fun z => by rw [hv17, (kx8.2 v7 i0 (by omega)).2.2 (by omega)]; exact hki2.2.2.2 z
        refine w_bn (m_acts (b := 3255) w w8 (by omega) x8 hM_G8 (c := v15) (x := v16) (y := v17) (by omega) (by omega) (fun z => by rw [hv16]; exact hki2.2.1 (by rw [← hv15]; exact z)) (fun z => by rw [hv16]; exact hki2.2.2.1 (by rw [← hv15]; exact z)) (fun z => hy (by rw [← hv15]; exact z))) (fun v18 G19 q19 => ?_)
        obtain ⟨f19, e18, x19⟩ := q19
        rw [hv15, hv16] at e18 x19
        have ey : eDo T (jdS T k v7.toNat).2 (k.2.1 v7) (k.2.2.1 v7) v17 = eDo T (jdS T k v7.toNat).2 (k.2.1 v7) (k.2.2.1 v7) (k.2.2.2 v7) := by
          by_cases z : k.2.1 v7 = 1 ∨ k.2.1 v7 = 6 ∨ k.2.1 v7 = 7
          · rw [hv17, (kx8.2 v7 i0 (by omega)).2.2 z]
          · exact eDo_y z
        rw [ey] at e18 x19
        have z01 := eDo_01 (T := T) (a := (jdS T k v7.toNat).2) (c := k.2.1 v7) (x := k.2.2.1 v7) (y := k.2.2.2 v7)
        refine w_bd (fun v20 hv20 => ?_)
        refine w_jn ?_
        refine w_jn ?_
        refine w_ite (fun c_3 => ?_) (fun c_3 => ?_)
        · skip
          refine w_ite (fun c_4 => ?_) (fun c_4 => ?_)
          · skip
            refine w_bd (fun v23 hv23 => ?_)
            refine w_bd (fun v24 hv24 => ?_)
            simp (disch := omega) only [iadd_id, isub_id, imul_id] at hv24
            refine hrc9 _ _ _ ?_ ?_
            · try dsimp only
              refine ⟨?_, ?_, ?_, ?_, ?_⟩
              · first | omega | grind
              · first | omega | grind
              · exact f8.tr f19
              · rw [hv24, jdS_s i0]; show _ = (if _ then _ else _); first | (rw [if_pos (by omega)]; omega) | (rw [if_neg (by omega)]; omega)
              · rw [hv24, jdS_s i0]; exact x19
            · try dsimp only
              omega
          · skip
            refine w_bd (fun v23 hv23 => ?_)
            refine w_bd (fun v24 hv24 => ?_)
            simp (disch := omega) only [iadd_id, isub_id, imul_id] at hv24
            refine hrc9 _ _ _ ?_ ?_
            · try dsimp only
              refine ⟨?_, ?_, ?_, ?_, ?_⟩
              · first | omega | grind
              · first | omega | grind
              · exact f8.tr f19
              · rw [hv24, jdS_s i0]; show _ = (if _ then _ else _); first | (rw [if_pos (by omega)]; omega) | (rw [if_neg (by omega)]; omega)
              · rw [hv24, jdS_s i0]; exact x19
            · try dsimp only
              omega
        · skip
          refine w_bd (fun v23 hv23 => ?_)
          refine w_bd (fun v24 hv24 => ?_)
          simp (disch := omega) only [iadd_id, isub_id, imul_id] at hv24
          refine hrc9 _ _ _ ?_ ?_
          · try dsimp only
            refine ⟨?_, ?_, ?_, ?_, ?_⟩
            · first | omega | grind
            · first | omega | grind
            · exact f8.tr f19
            · rw [hv24, jdS_s i0]; show _ = (if _ then _ else _); first | (rw [if_pos (by omega)]; omega) | (rw [if_neg (by omega)]; omega)
            · rw [hv24, jdS_s i0]; exact x19
          · try dsimp only
            omega
      · skip
        refine w_ite (fun c_5 => ?_) (fun c_5 => ?_)
        · skip
          refine w_rt ?_
          refine ⟨(show FRS G G1 by rw [hG1]; exact FRS.th).tr (FRS.M (Nat.le_refl _) f8), ?_⟩
          rw [if_pos (by omega)]
          unfold jdg; rw [show k.1 = v7 by omega]; rw [if_pos (by omega)]; exact e6
        · skip
          refine w_ite (fun c_6 => ?_) (fun c_6 => ?_)
          · skip
            refine w_bp (m_inSet w (b := 3255) (by omega) hM_G8 x8 w8) (fun v12 hv12 => ?_)
            have r12 := w8.1
            unfold okv at r12
            refine w_bp (m_manyOf (by omega) (by omega)) (fun v13 hv13 => ?_)
            have qv13 := pcn_r v12
            refine w_rt ?_
            refine ⟨(show FRS G G1 by rw [hG1]; exact FRS.th).tr (FRS.M (Nat.le_refl _) f8), ?_⟩
            rw [if_pos (by omega)]
            unfold jdg; rw [show k.1 = v7 by omega]; rw [if_neg (by omega), if_pos (by omega), hv13, hv12]
          · skip
            refine w_bp (m_heldMany w (b := 3255) (by omega) hM_G8 x8 w8) (fun v11 hv11 => ?_)
            refine w_rt ?_
            refine ⟨(show FRS G G1 by rw [hG1]; exact FRS.th).tr (FRS.M (Nat.le_refl _) f8), ?_⟩
            rw [if_pos (by omega)]
            unfold jdg; rw [show k.1 = v7 by omega]; rw [if_neg (by omega), if_neg (by omega), hv11]
    · try dsimp only
      refine ⟨?_, ?_, ?_, ?_, ?_⟩
      · first | omega | (subst_vars; first | rfl | assumption) | assumption
      · first | omega | (subst_vars; first | rfl | assumption) | assumption
      · exact ⟨fun c _ y _ _ => f3 c y, fun k _ => by rw [f3 111 (by decide)], g3⟩
      · rw [hv5, hv4]; rfl
      · rw [hv5]; exact x3
    · try dsimp only
      omega

end TRI
