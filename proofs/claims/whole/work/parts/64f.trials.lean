section TRI
variable {b : Nat} {a : AS} {G : Hp} {T : TT}
variable {gn : Int → Int} {d : Int → Int → Int}
theorem FRS.u25 {v : Int} : FRS G (up G 111 25 v) := ⟨fun c x _ _ _ _ => up_ne x, fun k _ _ x => by rw [up_at, if_neg (fun z => x z.2)], fun i _ => by rw [up_ne (by decide)]⟩
theorem m_doneBy {v : Int} (h : 0 ≤ v ∧ v ≤ 7) : fX12_doneBy v G = some (dvc v, G) := by
  unfold fX12_doneBy dvc
  split
  · rfl
  · rw [isub_id (by omega) (by omega)]; rfl
theorem empty_0 (hw : WA T a) (h : tN T = 0) : a.1 = 0 := by
  refine v_ext hw.1.1 (by have := hw.1.2; omega) (by omega) (by omega) (fun m hm => ?_)
  have z : bt 0 m = 0 := by unfold bt; simp
  rw [z]
  constructor
  · intro y
    exfalso
    rcases Nat.lt_or_ge m 8 with c | c
    · have := hw.iN.2.2 m (by omega) (by omega) (by rw [Int.toNat_natCast]; exact y)
      omega
    · rw [bt_low hw.1.1 (n := 8) (by have := hw.1.2; omega) c] at y; omega
  · intro y; omega
theorem empty_am (hw : WA T a) (h : tN T = 0) : bits (fun k => isi a k = 1 ∧ fst4 a a.1 k ≠ own T a.1 (tp T k + 1)) 8 = 0 := by
  rw [bits_more (m := 0) 8 (by omega) (fun i x y z => by have := hw.inr (n := i); omega)]; rfl
theorem m_drives (hgn : ∀ {g : Int}, gok g → gok (gn g)) (hd : ∀ {g m : Int}, gok g → 0 < m → m ≤ 8 → 0 ≤ d g m ∧ d g m < m) (hx : ∀ {G : Hp} {m : Int}, 0 < m → fX12_draw 111 m G = some (d (gn (G 111 25)) m, up G 111 25 (gn (G 111 25)))) (w : WT T) (hw : WA T a) (hR_G : MR 0 a G) (hM_G : MT T G) {g m what : Int} : WP (fX12_drives 111 g m what G) (fun r G' => FRS G G' ∧ r = if (0 ≤ g ∧ g ≤ 9999) ∧ (1 ≤ m ∧ m ≤ 99) ∧ 0 ≤ what ∧ what ≤ 2 then (if 0 < tN T then drv gn d T a g m what else 0) else -1) := by
  have wr := w.rg
  unfold fX12_drives
  refine w_bh (fun G1 hG1 => ?_)
  have hR_G1 : MR 0 a G1 := hR_G.fr (by rw [hG1, up_ne (by decide)])
  have hM_G1 : MT T G1 := hM_G.fr (by rw [hG1, up_ne (by decide)]) (by rw [hG1, up_ne (by decide)])
  refine w_bp (m_within) (fun v2 hv2 => ?_)
  have qv2 : ((0 ≤ g ∧ g ≤ 9999) ∧ v2 = 1) ∨ (¬ (0 ≤ g ∧ g ≤ 9999) ∧ v2 = 0) := by rw [hv2]; exact ite01 _
  refine w_ite (fun c_1 => ?_) (fun c_1 => ?_)
  · skip
    refine w_rt ?_
    exact ⟨by rw [hG1]; exact FRS.th, by rw [if_neg (by omega)]⟩
  · skip
    refine w_bp (m_within) (fun v3 hv3 => ?_)
    have qv3 : ((1 ≤ m ∧ m ≤ 99) ∧ v3 = 1) ∨ (¬ (1 ≤ m ∧ m ≤ 99) ∧ v3 = 0) := by rw [hv3]; exact ite01 _
    refine w_ite (fun c_2 => ?_) (fun c_2 => ?_)
    · skip
      refine w_rt ?_
      exact ⟨by rw [hG1]; exact FRS.th, by rw [if_neg (by omega)]⟩
    · skip
      refine w_bp (m_within) (fun v4 hv4 => ?_)
      have qv4 : ((0 ≤ what ∧ what ≤ 2) ∧ v4 = 1) ∨ (¬ (0 ≤ what ∧ what ≤ 2) ∧ v4 = 0) := by rw [hv4]; exact ite01 _
      refine w_ite (fun c_3 => ?_) (fun c_3 => ?_)
      · skip
        refine w_rt ?_
        exact ⟨by rw [hG1]; exact FRS.th, by rw [if_neg (by omega)]⟩
      · skip
        refine w_bn (m_copy (s := 0) (t := 3255) (by omega) (by omega) (by omega) hR_G1) (fun _ G5 q5 => ?_)
        obtain ⟨f5, g5, x5, -⟩ := q5
        refine w_bh (fun G6 hG6 => ?_)
        refine w_bd (fun v7 hv7 => ?_)
        refine w_bd (fun v8 hv8 => ?_)
        refine w_lpIIH (fun (v9 : Int) (v10 : Int) (G11 : Hp) => (0 ≤ v10) ∧ (v10 ≤ m) ∧ (tN T = 0 → v10 = 0) ∧ (FRS G1 G11) ∧ (0 ≤ v9 ∧ v9 ≤ v10) ∧ (v9 = (dvn gn d T a g v10.toNat)) ∧ (G11 111 25 = (dvg gn d g v10.toNat)) ∧ (MR 3255 (dvA gn d T a g v10.toNat) G11)) (fun (v9 : Int) (v10 : Int) (G11 : Hp) => (99 - v10).toNat) (fun rc12 v9 v10 G11 hI hrc12 => ?_) _ _ _ ?_ ?_
        · skip
          obtain ⟨i0, i1, i2, f11, b9, e9, g11, x11⟩ := hI
          have hM_G11 := f11.t hM_G1
          have w11 := dvA_w (gn := gn) (d := d) w hw (g := g) v10.toNat
          have gk : gok (dvg gn d g v10.toNat) := dvg_ok hgn ⟨by omega, by omega⟩ _
          refine w_jn ?_
          refine w_ite (fun c_4 => ?_) (fun c_4 => ?_)
          · skip
            refine w_bp (m_nodes hM_G11) (fun v17 hv17 => ?_)
            refine w_ite (fun c_5 => ?_) (fun c_5 => ?_)
            · skip
              refine w_bne (hx (by omega)) (fun v18 G19 hv18 hG19 => ?_)
              have d19 : G19 111 25 = gn (dvg gn d g v10.toNat) := by rw [hG19, up_at, g11]; simp
              rw [g11] at hv18
              have F19 : FRS G11 G19 := by rw [hG19]; exact FRS.u25
              have hM_G19 := F19.t hM_G11
              have r1 := hd (hgn gk) (m := 8) (by omega) (by omega)
              refine w_bd (fun v20 hv20 => ?_)
              refine w_bp (m_nodes hM_G19) (fun v21 hv21 => ?_)
              refine w_bne (hx (by omega)) (fun v22 G23 hv22 hG23 => ?_)
              have d23 : G23 111 25 = gn (gn (dvg gn d g v10.toNat)) := by rw [hG23, up_at, d19]; simp
              rw [d19, hv21] at hv22
              have F23 : FRS G11 G23 := F19.tr (by rw [hG23]; exact FRS.u25)
              have hM_G23 := F23.t hM_G11
              have r2 := hd (hgn (hgn gk)) (m := tN T) (by omega) (by omega)
              refine w_bd (fun v24 hv24 => ?_)
              refine w_bp (m_nodes hM_G23) (fun v25 hv25 => ?_)
              refine w_bne (hx (by omega)) (fun v26 G27 hv26 hG27 => ?_)
              have d27 : G27 111 25 = gn (gn (gn (dvg gn d g v10.toNat))) := by rw [hG27, up_at, d23]; simp
              rw [d23, hv25] at hv26
              have F27 : FRS G11 G27 := F23.tr (by rw [hG27]; exact FRS.u25)
              have r3 := hd (hgn (hgn (hgn gk))) (m := tN T) (by omega) (by omega)
              refine w_bd (fun v28 hv28 => ?_)
              refine w_jn ?_
              refine w_ite (fun c_6 => ?_) (fun c_6 => ?_)
              · skip
                refine w_bne (hx (by omega)) (fun v41 G42 hv41 hG42 => ?_)
                have d42 : G42 111 25 = gn (gn (gn (gn (dvg gn d g v10.toNat)))) := by rw [hG42, up_at, d27]; simp
                rw [d27] at hv41
                have F42 : FRS G11 G42 := F27.tr (by rw [hG42]; exact FRS.u25)
                refine w_bd (fun v32 hv32 => ?_)
                refine w_bp (m_doneBy (by omega)) (fun v33 hv33 => ?_)
                have r33 : 0 ≤ v33 ∧ v33 ≤ 6 := by rw [hv33]; unfold dvc; split <;> omega
                have r33a : v33 = 1 → v20 = 1 := fun z => by rw [hv33] at z; unfold dvc at z; split at z <;> omega
                have x30 : MR 3255 (dvA gn d T a g v10.toNat) G42 := x11.fr (by rw [hG42, up_ne (by decide), hG27, up_ne (by decide), hG23, up_ne (by decide), hG19, up_ne (by decide)])
                have hM_30 := F42.t hM_G11
                refine w_bn (m_acts (b := 3255) w w11 (by omega) x30 hM_30 (c := v33) (x := v24) (y := v32) (by omega) (by omega) (fun _ => by omega) (fun z => by omega) (fun z => by omega)) (fun v34 G35 q35 => ?_)
                obtain ⟨f35, e34, x35⟩ := q35
                have eE : eDo T (dvA gn d T a g v10.toNat) v33 v24 v32 = dvE gn d T (dvg gn d g v10.toNat) (dvA gn d T a g v10.toNat) := by
                  unfold dvE
                  rw [hv33, hv20, hv18, hv24, hv22, hv32]
                  first | (rw [if_pos (by omega), hv41]) | (rw [if_neg (by omega), hv28, hv26])
                have eG : dvG gn d (dvg gn d g v10.toNat) = gn (gn (gn (gn (dvg gn d g v10.toNat)))) := by
                  unfold dvG
                  first | rw [if_pos (by omega)] | rw [if_neg (by omega)]
                have g35 : G35 111 25 = dvG gn d (dvg gn d g v10.toNat) := by rw [f35.2.1 25 (by decide), eG]; exact d42
                rw [eE] at e34 x35
                have z01 := dvE_01 (gn := gn) (d := d) (T := T) (a := dvA gn d T a g v10.toNat) (g := dvg gn d g v10.toNat)
                have F35 : FRS G1 G35 := f11.tr (F42.tr (FRS.M (Nat.le_refl _) f35))
                refine w_bd (fun v36 hv36 => ?_)
                refine w_jn ?_
                refine w_ite (fun c_7 => ?_) (fun c_7 => ?_)
                · skip
                  refine w_bd (fun v39 hv39 => ?_)
                  simp (disch := omega) only [iadd_id, isub_id, imul_id] at hv39
                  refine w_bd (fun v40 hv40 => ?_)
                  simp (disch := omega) only [iadd_id, isub_id, imul_id] at hv40
                  refine hrc12 _ _ _ ?_ ?_
                  · try dsimp only
                    refine ⟨?_, ?_, ?_, ?_, ?_, ?_, ?_, ?_⟩
                    · first | omega | grind
                    · first | omega | grind
                    · intro _; omega
                    · exact F35
                    · first | omega | grind
                    · rw [hv40, dvn_s i0]; omega
                    · rw [hv40, dvg_s i0]; exact g35
                    · rw [hv40, dvA_s i0]; exact x35
                  · try dsimp only
                    omega
                · skip
                  refine w_bd (fun v39 hv39 => ?_)
                  simp (disch := omega) only [iadd_id, isub_id, imul_id] at hv39
                  refine w_bd (fun v40 hv40 => ?_)
                  simp (disch := omega) only [iadd_id, isub_id, imul_id] at hv40
                  refine hrc12 _ _ _ ?_ ?_
                  · try dsimp only
                    refine ⟨?_, ?_, ?_, ?_, ?_, ?_, ?_, ?_⟩
                    · first | omega | grind
                    · first | omega | grind
                    · intro _; omega
                    · exact F35
                    · first | omega | grind
                    · rw [hv40, dvn_s i0]; omega
                    · rw [hv40, dvg_s i0]; exact g35
                    · rw [hv40, dvA_s i0]; exact x35
                  · try dsimp only
                    omega
              · skip
                refine w_bd (fun v32 hv32 => ?_)
                refine w_bp (m_doneBy (by omega)) (fun v33 hv33 => ?_)
                have r33 : 0 ≤ v33 ∧ v33 ≤ 6 := by rw [hv33]; unfold dvc; split <;> omega
                have r33a : v33 = 1 → v20 = 1 := fun z => by rw [hv33] at z; unfold dvc at z; split at z <;> omega
                have x30 : MR 3255 (dvA gn d T a g v10.toNat) G27 := x11.fr (by rw [hG27, up_ne (by decide), hG23, up_ne (by decide), hG19, up_ne (by decide)])
                have hM_30 := F27.t hM_G11
                refine w_bn (m_acts (b := 3255) w w11 (by omega) x30 hM_30 (c := v33) (x := v24) (y := v32) (by omega) (by omega) (fun _ => by omega) (fun z => by omega) (fun z => by omega)) (fun v34 G35 q35 => ?_)
                obtain ⟨f35, e34, x35⟩ := q35
                have eE : eDo T (dvA gn d T a g v10.toNat) v33 v24 v32 = dvE gn d T (dvg gn d g v10.toNat) (dvA gn d T a g v10.toNat) := by
                  unfold dvE
                  rw [hv33, hv20, hv18, hv24, hv22, hv32]
                  first | (rw [if_pos (by omega), hv41]) | (rw [if_neg (by omega), hv28, hv26])
                have eG : dvG gn d (dvg gn d g v10.toNat) = gn (gn (gn (dvg gn d g v10.toNat))) := by
                  unfold dvG
                  first | rw [if_pos (by omega)] | rw [if_neg (by omega)]
                have g35 : G35 111 25 = dvG gn d (dvg gn d g v10.toNat) := by rw [f35.2.1 25 (by decide), eG]; exact d27
                rw [eE] at e34 x35
                have z01 := dvE_01 (gn := gn) (d := d) (T := T) (a := dvA gn d T a g v10.toNat) (g := dvg gn d g v10.toNat)
                have F35 : FRS G1 G35 := f11.tr (F27.tr (FRS.M (Nat.le_refl _) f35))
                refine w_bd (fun v36 hv36 => ?_)
                refine w_jn ?_
                refine w_ite (fun c_8 => ?_) (fun c_8 => ?_)
                · skip
                  refine w_bd (fun v39 hv39 => ?_)
                  simp (disch := omega) only [iadd_id, isub_id, imul_id] at hv39
                  refine w_bd (fun v40 hv40 => ?_)
                  simp (disch := omega) only [iadd_id, isub_id, imul_id] at hv40
                  refine hrc12 _ _ _ ?_ ?_
                  · try dsimp only
                    refine ⟨?_, ?_, ?_, ?_, ?_, ?_, ?_, ?_⟩
                    · first | omega | grind
                    · first | omega | grind
                    · intro _; omega
                    · exact F35
                    · first | omega | grind
                    · rw [hv40, dvn_s i0]; omega
                    · rw [hv40, dvg_s i0]; exact g35
                    · rw [hv40, dvA_s i0]; exact x35
                  · try dsimp only
                    omega
                · skip
                  refine w_bd (fun v39 hv39 => ?_)
                  simp (disch := omega) only [iadd_id, isub_id, imul_id] at hv39
                  refine w_bd (fun v40 hv40 => ?_)
                  simp (disch := omega) only [iadd_id, isub_id, imul_id] at hv40
                  refine hrc12 _ _ _ ?_ ?_
                  · try dsimp only
                    refine ⟨?_, ?_, ?_, ?_, ?_, ?_, ?_, ?_⟩
                    · first | omega | grind
                    · first | omega | grind
                    · intro _; omega
                    · exact F35
                    · first | omega | grind
                    · rw [hv40, dvn_s i0]; omega
                    · rw [hv40, dvg_s i0]; exact g35
                    · rw [hv40, dvA_s i0]; exact x35
                  · try dsimp only
                    omega
            · skip
              refine w_ite (fun c_9 => ?_) (fun c_9 => ?_)
              · skip
                refine w_rt ?_
                refine ⟨(show FRS G G1 by rw [hG1]; exact FRS.th).tr f11, ?_⟩
                rw [if_pos (by omega)]
                by_cases zN : 0 < tN T
                · rw [if_pos zN]
                  first | (exfalso; omega) | (unfold drv; rw [show m.toNat = v10.toNat by omega]; rw [if_pos (by omega)]; exact e9)
                · rw [if_neg zN]
                  have z10 : v10 = 0 := i2 (by omega)
                  rw [e9, z10]; rfl
              · skip
                refine w_ite (fun c_10 => ?_) (fun c_10 => ?_)
                · skip
                  refine w_bp (m_inSet w (b := 3255) (by omega) hM_G11 x11 w11) (fun v15 hv15 => ?_)
                  have r15 := w11.1
                  unfold okv at r15
                  refine w_bp (m_manyOf (by omega) (by omega)) (fun v16 hv16 => ?_)
                  have qv16 := pcn_r v15
                  refine w_rt ?_
                  refine ⟨(show FRS G G1 by rw [hG1]; exact FRS.th).tr f11, ?_⟩
                  rw [if_pos (by omega)]
                  by_cases zN : 0 < tN T
                  · rw [if_pos zN]
                    first | (exfalso; omega) | (unfold drv; rw [show m.toNat = v10.toNat by omega]; rw [if_neg (by omega), if_pos (by omega), hv16, hv15])
                  · rw [if_neg zN]
                    have z10 : v10 = 0 := i2 (by omega)
                    rw [hv16, hv15, z10]; show pcn a.1 = 0; rw [empty_0 hw (by omega)]; decide
                · skip
                  refine w_bp (m_amissBy w w11 (b := 3255) (by omega) x11 hM_G11) (fun v14 hv14 => ?_)
                  refine w_rt ?_
                  refine ⟨(show FRS G G1 by rw [hG1]; exact FRS.th).tr f11, ?_⟩
                  rw [if_pos (by omega)]
                  by_cases zN : 0 < tN T
                  · rw [if_pos zN]
                    first | (exfalso; omega) | (unfold drv; rw [show m.toNat = v10.toNat by omega]; rw [if_neg (by omega), if_neg (by omega), hv14]; rfl)
                  · rw [if_neg zN]
                    have z10 : v10 = 0 := i2 (by omega)
                    rw [hv14, z10]; exact empty_am hw (by omega)
          · skip
            refine w_ite (fun c_11 => ?_) (fun c_11 => ?_)
            · skip
              refine w_rt ?_
              refine ⟨(show FRS G G1 by rw [hG1]; exact FRS.th).tr f11, ?_⟩
              rw [if_pos (by omega)]
              by_cases zN : 0 < tN T
              · rw [if_pos zN]
                first | (exfalso; omega) | (unfold drv; rw [show m.toNat = v10.toNat by omega]; rw [if_pos (by omega)]; exact e9)
              · rw [if_neg zN]
                have z10 : v10 = 0 := i2 (by omega)
                rw [e9, z10]; rfl
            · skip
              refine w_ite (fun c_12 => ?_) (fun c_12 => ?_)
              · skip
                refine w_bp (m_inSet w (b := 3255) (by omega) hM_G11 x11 w11) (fun v15 hv15 => ?_)
                have r15 := w11.1
                unfold okv at r15
                refine w_bp (m_manyOf (by omega) (by omega)) (fun v16 hv16 => ?_)
                have qv16 := pcn_r v15
                refine w_rt ?_
                refine ⟨(show FRS G G1 by rw [hG1]; exact FRS.th).tr f11, ?_⟩
                rw [if_pos (by omega)]
                by_cases zN : 0 < tN T
                · rw [if_pos zN]
                  first | (exfalso; omega) | (unfold drv; rw [show m.toNat = v10.toNat by omega]; rw [if_neg (by omega), if_pos (by omega), hv16, hv15])
                · rw [if_neg zN]
                  have z10 : v10 = 0 := i2 (by omega)
                  rw [hv16, hv15, z10]; show pcn a.1 = 0; rw [empty_0 hw (by omega)]; decide
              · skip
                refine w_bp (m_amissBy w w11 (b := 3255) (by omega) x11 hM_G11) (fun v14 hv14 => ?_)
                refine w_rt ?_
                refine ⟨(show FRS G G1 by rw [hG1]; exact FRS.th).tr f11, ?_⟩
                rw [if_pos (by omega)]
                by_cases zN : 0 < tN T
                · rw [if_pos zN]
                  first | (exfalso; omega) | (unfold drv; rw [show m.toNat = v10.toNat by omega]; rw [if_neg (by omega), if_neg (by omega), hv14]; rfl)
                · rw [if_neg zN]
                  have z10 : v10 = 0 := i2 (by omega)
                  rw [hv14, z10]; exact empty_am hw (by omega)
        · try dsimp only
          refine ⟨?_, ?_, ?_, ?_, ?_, ?_, ?_, ?_⟩
          · first | omega | (subst_vars; first | rfl | assumption) | assumption
          · first | omega | (subst_vars; first | rfl | assumption) | assumption
          · intro _; omega
          · exact ⟨fun c x y z u v => by rw [hG6, up_ne x, f5 c y], fun k x y z => by rw [hG6, up_at, if_neg (fun q => z q.2), f5 111 (by decide)], fun i x => by rw [hG6, up_ne (by decide), g5 i (Or.inl x)]⟩
          · first | omega | (subst_vars; first | rfl | assumption) | assumption
          · rw [hv8, hv7]; rfl
          · rw [hv8, hG6, up_at]; simp; rfl
          · rw [hv8]; exact x5.fr (by rw [hG6, up_ne (by decide)])
        · try dsimp only
          omega

end TRI
