section TRI
variable {b : Nat} {a : AS} {G : Hp} {T : TT}
variable {gn : Int → Int} {d : Int → Int → Int}
theorem x_drive (hgn : ∀ {g : Int}, gok g → gok (gn g)) (hd : ∀ {g m : Int}, gok g → 0 < m → m ≤ 8 → 0 ≤ d g m ∧ d g m < m) (hx : ∀ {G : Hp} {m : Int}, 0 < m → fX9_draw 34 m G = some (d (gn (G 34 6)) m, up G 34 6 (gn (G 34 6)))) (w : WT T) (hw : WA T a) (hA_G : XA 27 a G) (hT_G : XT T G) {g m what : Int} (gk : gok g) (hm : 1 ≤ m ∧ m ≤ 99) : WP (fX9_drive 34 g m what G) (fun r G' => FT G G' ∧ XA 27 a G' ∧ r = if 0 < tN T then drv gn d T a g m what else 0) := by
  have wr := w.rg
  have t0 : G 4 0 = tC T := hT_G.1
  have t2 : G 4 2 = tN T := hT_G.2.2.1
  have pc : 0 < tN T → 0 < tC T := fun z => by have := w.pl (i := 0) (by omega) z; omega
  unfold fX9_drive
  simp only [rf_34_0, rf_34_1, rf_34_3, rf_34_4]
  refine w_ite (fun c_1 => ?_) (fun c_1 => ?_)
  · skip
    refine w_ite (fun c_2 => ?_) (fun c_2 => ?_)
    · skip
      refine w_bn (x_copyFrom (q := 35) (p := 27) rf35 rf27 (by omega) (by omega) (by omega) hA_G) (fun _ G1 q1 => ?_)
      obtain ⟨f1, g1, x1⟩ := q1
      have A1 : XA 27 a G1 := hA_G.fr (f1 27 (by decide) (by decide)) (f1 28 (by decide) (by decide))
      have FT1 : FT G G1 := FT.c (q := 35) (by omega) f1
      refine w_bh (fun G2 hG2 => ?_)
      have A2 : XA 27 a G2 := A1.fr (by rw [hG2, up_ne (by decide)]) (by rw [hG2, up_ne (by decide)])
      have K2 : XA 35 a G2 := x1.fr (by rw [hG2, up_ne (by decide)]) (by rw [hG2, up_ne (by decide)])
      have FT2 : FT G G2 := FT1.tr (fun c _ _ _ _ _ z _ _ _ _ => by rw [hG2, up_ne z])
      refine w_bd (fun v3 hv3 => ?_)
      refine w_bd (fun v4 hv4 => ?_)
      refine w_lpIIH (fun (v5 : Int) (v6 : Int) (G7 : Hp) => (0 ≤ v6) ∧ (v6 ≤ m) ∧ (FT G G7) ∧ (XA 35 a G7) ∧ (0 ≤ v5 ∧ v5 ≤ v6) ∧ (v5 = (dvn gn d T a g v6.toNat)) ∧ (G7 34 6 = (dvg gn d g v6.toNat)) ∧ (XA 27 (dvA gn d T a g v6.toNat) G7)) (fun (v5 : Int) (v6 : Int) (G7 : Hp) => (99 - v6).toNat) (fun rc8 v5 v6 G7 hI hrc8 => ?_) _ _ _ ?_ ?_
      · skip
        obtain ⟨i0, i1, f7, k7, b5, e5, g7, x7⟩ := hI
        have hT_G7 := f7.t hT_G
        have w7 := dvA_w (gn := gn) (d := d) w hw (g := g) v6.toNat
        refine w_ite (fun c_3 => ?_) (fun c_3 => ?_)
        · skip
          refine w_bn (x_driveOnce hgn hd hx (g0 := dvg gn d g v6.toNat) (a := dvA gn d T a g v6.toNat) w w7 x7 hT_G7 g7 (dvg_ok hgn gk _) (by omega)) (fun v15 G16 q16 => ?_)
          obtain ⟨f16, e15, x16, g16⟩ := q16
          have z01 := dvE_01 (gn := gn) (d := d) (T := T) (a := dvA gn d T a g v6.toNat) (g := dvg gn d g v6.toNat)
          refine w_jn ?_
          refine w_ite (fun c_4 => ?_) (fun c_4 => ?_)
          · skip
            refine w_bd (fun v19 hv19 => ?_)
            simp (disch := omega) only [iadd_id, isub_id, imul_id] at hv19
            refine w_bd (fun v20 hv20 => ?_)
            simp (disch := omega) only [iadd_id, isub_id, imul_id] at hv20
            refine hrc8 _ _ _ ?_ ?_
            · try dsimp only
              refine ⟨?_, ?_, ?_, ?_, ?_, ?_, ?_, ?_⟩
              · first | omega | grind
              · first | omega | grind
              · exact f7.tr (fun c z1 z2 z3 z4 z5 z6 _ _ _ _ => f16 c z1 z2 z3 z4 z5 z6)
              · exact k7.fr (f16 35 (by decide) (by decide) (by decide) (by decide) (by decide) (by decide)) (f16 36 (by decide) (by decide) (by decide) (by decide) (by decide) (by decide))
              · first | omega | grind
              · rw [hv20, dvn_s i0]; omega
              · rw [hv20, dvg_s i0]; exact g16
              · rw [hv20, dvA_s i0]; exact x16
            · try dsimp only
              omega
          · skip
            refine w_bd (fun v19 hv19 => ?_)
            simp (disch := omega) only [iadd_id, isub_id, imul_id] at hv19
            refine w_bd (fun v20 hv20 => ?_)
            simp (disch := omega) only [iadd_id, isub_id, imul_id] at hv20
            refine hrc8 _ _ _ ?_ ?_
            · try dsimp only
              refine ⟨?_, ?_, ?_, ?_, ?_, ?_, ?_, ?_⟩
              · first | omega | grind
              · first | omega | grind
              · exact f7.tr (fun c z1 z2 z3 z4 z5 z6 _ _ _ _ => f16 c z1 z2 z3 z4 z5 z6)
              · exact k7.fr (f16 35 (by decide) (by decide) (by decide) (by decide) (by decide) (by decide)) (f16 36 (by decide) (by decide) (by decide) (by decide) (by decide) (by decide))
              · first | omega | grind
              · rw [hv20, dvn_s i0]; omega
              · rw [hv20, dvg_s i0]; exact g16
              · rw [hv20, dvA_s i0]; exact x16
            · try dsimp only
              omega
        · skip
          refine w_bp (r := pcn (dvA gn d T a g v6.toNat).1) (G := G7) (by unfold fX6_insideCount; rw [x7.1, x_popc (by have := w7.1; unfold okv at this; omega) (by have := w7.1; unfold okv at this; omega), bp_s]; rfl) (fun v9 hv9 => ?_)
          refine w_bd (fun v10 hv10 => ?_)
          refine w_bp (x_amissNodes w w7 x7 hT_G7) (fun v11 hv11 => ?_)
          refine w_bd (fun v12 hv12 => ?_)
          refine w_bn (x_copyFrom (q := 27) (p := 35) rf27 rf35 (by omega) (by omega) (by omega) k7) (fun _ G13 q13 => ?_)
          obtain ⟨f13, g13, x13⟩ := q13
          have FF : FT G G13 := f7.tr (FT.c (q := 27) (by omega) f13)
          refine w_ite (fun c_5 => ?_) (fun c_5 => ?_)
          · skip
            refine w_rt ?_
            refine ⟨FF, x13, ?_⟩
            rw [if_pos (by omega)]
            unfold drv; rw [show m.toNat = v6.toNat by omega]; rw [if_pos (by omega)]; exact e5
          · skip
            refine w_ite (fun c_6 => ?_) (fun c_6 => ?_)
            · skip
              refine w_rt ?_
              refine ⟨FF, x13, ?_⟩
              rw [if_pos (by omega)]
              unfold drv; rw [show m.toNat = v6.toNat by omega]; rw [if_neg (by omega), if_pos (by omega), hv10, hv9]
            · skip
              refine w_rt ?_
              refine ⟨FF, x13, ?_⟩
              rw [if_pos (by omega)]
              unfold drv; rw [show m.toNat = v6.toNat by omega]; rw [if_neg (by omega), if_neg (by omega), hv12, hv11]; rfl
      · try dsimp only
        refine ⟨?_, ?_, ?_, ?_, ?_, ?_, ?_, ?_⟩
        · first | omega | (subst_vars; first | rfl | assumption) | assumption
        · first | omega | (subst_vars; first | rfl | assumption) | assumption
        · exact FT2
        · exact K2
        · first | omega | (subst_vars; first | rfl | assumption) | assumption
        · rw [hv4, hv3]; rfl
        · rw [hv4, hG2, up_at]; simp; rfl
        · rw [hv4]; exact A2
      · try dsimp only
        omega
    · skip
      refine w_rt ?_
      refine ⟨FT.rf G, hA_G, ?_⟩
      rw [if_neg (by omega)]
  · skip
    refine w_rt ?_
    refine ⟨FT.rf G, hA_G, ?_⟩
    rw [if_neg (by omega)]

end TRI
