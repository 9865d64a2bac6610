section TRI
variable {b : Nat} {a : AS} {G : Hp} {T : TT}
variable {gn : Int → Int} {d : Int → Int → Int}
def dvc (v : Int) : Int := if v < 5 then v else v - 1
noncomputable def dvE (gn : Int → Int) (d : Int → Int → Int) (T : TT) (g : Int) (a : AS) : Int × AS := eDo T a (dvc (d (gn g) 8)) (d (gn (gn g)) (tN T)) (if d (gn g) 8 = 7 then d (gn (gn (gn (gn g)))) 8 else d (gn (gn (gn g))) (tN T))
def dvG (gn : Int → Int) (d : Int → Int → Int) (g : Int) : Int := if d (gn g) 8 = 7 then gn (gn (gn (gn g))) else gn (gn (gn g))
def dvg (gn : Int → Int) (d : Int → Int → Int) (g : Int) : Nat → Int
  | 0 => g
  | i + 1 => dvG gn d (dvg gn d g i)
noncomputable def dvA (gn : Int → Int) (d : Int → Int → Int) (T : TT) (a : AS) (g : Int) : Nat → AS
  | 0 => a
  | i + 1 => (dvE gn d T (dvg gn d g i) (dvA gn d T a g i)).2
noncomputable def dvn (gn : Int → Int) (d : Int → Int → Int) (T : TT) (a : AS) (g : Int) : Nat → Int
  | 0 => 0
  | i + 1 => dvn gn d T a g i + (dvE gn d T (dvg gn d g i) (dvA gn d T a g i)).1
theorem dvg_s {g i : Int} (h : 0 ≤ i) : dvg gn d g (i + 1).toNat = dvG gn d (dvg gn d g i.toNat) := by rw [toN1 h, dvg]
theorem dvA_s {g i : Int} (h : 0 ≤ i) : dvA gn d T a g (i + 1).toNat = (dvE gn d T (dvg gn d g i.toNat) (dvA gn d T a g i.toNat)).2 := by rw [toN1 h, dvA]
theorem dvn_s {g i : Int} (h : 0 ≤ i) : dvn gn d T a g (i + 1).toNat = dvn gn d T a g i.toNat + (dvE gn d T (dvg gn d g i.toNat) (dvA gn d T a g i.toNat)).1 := by rw [toN1 h, dvn]
theorem WA_dvE (w : WT T) (hw : WA T a) {g : Int} : WA T (dvE gn d T g a).2 := by
  unfold dvE; generalize dvc (d (gn g) 8) = c; generalize d (gn (gn g)) (tN T) = x; generalize (if d (gn g) 8 = 7 then d (gn (gn (gn (gn g)))) 8 else d (gn (gn (gn g))) (tN T)) = y; exact WA_eDo hw w
theorem dvA_w (w : WT T) (hw : WA T a) {g : Int} (i : Nat) : WA T (dvA gn d T a g i) := by
  induction i with
  | zero => rw [dvA]; exact hw
  | succ i ih => rw [dvA]; exact WA_dvE w ih
theorem dvG_ok (hgn : ∀ {g : Int}, gok g → gok (gn g)) {g : Int} (h : gok g) : gok (dvG gn d g) := by
  unfold dvG; split
  · exact hgn (hgn (hgn (hgn h)))
  · exact hgn (hgn (hgn h))
theorem dvg_ok (hgn : ∀ {g : Int}, gok g → gok (gn g)) {g : Int} (h : gok g) (i : Nat) : gok (dvg gn d g i) := by
  induction i with
  | zero => rw [dvg]; exact h
  | succ i ih => rw [dvg]; exact dvG_ok hgn ih
theorem dvE_01 {g : Int} : (dvE gn d T g a).1 = 0 ∨ (dvE gn d T g a).1 = 1 := by
  unfold dvE; generalize dvc (d (gn g) 8) = c; generalize d (gn (gn g)) (tN T) = x; generalize (if d (gn g) 8 = 7 then d (gn (gn (gn (gn g)))) 8 else d (gn (gn (gn g))) (tN T)) = y; exact eDo_01
noncomputable def drv (gn : Int → Int) (d : Int → Int → Int) (T : TT) (a : AS) (g m what : Int) : Int := if what = 0 then (dvn gn d T a g m.toNat) else if what = 1 then pcn (dvA gn d T a g m.toNat).1 else amB T (dvA gn d T a g m.toNat)
theorem x_driveOnce (hgn : ∀ {g : Int}, gok g → gok (gn g)) (hd : ∀ {g m : Int}, gok g → 0 < m → m ≤ 8 → 0 ≤ d g m ∧ d g m < m) (hx : ∀ {G : Hp} {m : Int}, 0 < m → fX9_draw 34 m G = some (d (gn (G 34 6)) m, up G 34 6 (gn (G 34 6)))) {g0 : Int} (w : WT T) (hw : WA T a) (hA_G : XA 27 a G) (hT_G : XT T G) (hg : G 34 6 = g0) (gk : gok g0) (hN : 0 < tN T) : WP (fX9_driveOnce 34 G) (fun r G' => (∀ c, c ≠ 27 → c ≠ 28 → c ≠ 29 → c ≠ 30 → c ≠ 32 → c ≠ 34 → G' c = G c) ∧ r = (dvE gn d T g0 a).1 ∧ XA 27 (dvE gn d T g0 a).2 G' ∧ G' 34 6 = dvG gn d g0) := by
  have wr := w.rg
  unfold fX9_driveOnce
  simp only [rf_34_0, rf_34_2]
  refine w_bne (hx (by omega)) (fun v1 G2 hv1 hG2 => ?_)
  have c2 : ∀ c, c ≠ 34 → G2 c = G c := fun c z => by rw [hG2, up_ne z]
  have d2 : G2 34 6 = gn g0 := by rw [hG2, up_at, hg]; simp
  rw [hg] at hv1
  have n2 : G2 4 2 = tN T := by rw [c2 4 (by decide)]; exact hT_G.2.2.1
  have r1 := hd (hgn gk) (m := 8) (by omega) (by omega)
  refine w_bd (fun v3 hv3 => ?_)
  refine w_bne (hx (by omega)) (fun v4 G5 hv4 hG5 => ?_)
  have c5 : ∀ c, c ≠ 34 → G5 c = G c := fun c z => by rw [hG5, up_ne z, c2 c z]
  have d5 : G5 34 6 = gn (gn g0) := by rw [hG5, up_at, d2]; simp
  rw [d2, n2] at hv4
  have n5 : G5 4 2 = tN T := by rw [c5 4 (by decide)]; exact hT_G.2.2.1
  refine w_bd (fun v6 hv6 => ?_)
  refine w_bne (hx (by omega)) (fun v7 G8 hv7 hG8 => ?_)
  have c8 : ∀ c, c ≠ 34 → G8 c = G c := fun c z => by rw [hG8, up_ne z, c5 c z]
  have d8 : G8 34 6 = gn (gn (gn g0)) := by rw [hG8, up_at, d5]; simp
  rw [d5, n5] at hv7
  have x8 : XA 27 a G8 := hA_G.fr (c8 27 (by decide)) (c8 28 (by decide))
  have hT_G8 : XT T G8 := hT_G.fr (c8 4 (by decide)) (c8 5 (by decide)) (c8 6 (by decide)) (c8 9 (by decide))
  refine w_bd (fun v9 hv9 => ?_)
  refine w_ite (fun c_1 => ?_) (fun c_1 => ?_)
  · skip
    refine w_bn (x_doBegin w hw x8 hT_G8 (n := v6)) (fun v11 G12 qG12 => ?_)
    obtain ⟨fG12, eG12, xG12⟩ := qG12
    refine w_rz (by first | omega | (rw [eG12]; unfold eBeg; split <;> simp) | (rw [eG15]; split <;> simp) | (rw [eG18]; unfold eLeave; split <;> simp) | (rw [eG34]; unfold eFix; split <;> simp)) ?_
    have ev : d (gn g0) 8 = 0 := by omega
    have eE : dvE gn d T g0 a = eDo T a 0 v6 v9 := by unfold dvE; rw [ev, show dvc 0 = 0 from rfl, hv6, hv4, if_neg (by decide), hv9, hv7]
    have eG : dvG gn d g0 = gn (gn (gn g0)) := by unfold dvG; rw [ev, if_neg (by decide)]
    refine ⟨fun c z1 z2 z3 z4 z5 z6 => by rw [fG12 c z1 z2 z3 z4 z5, c8 c z6], ?_, ?_, ?_⟩
    · rw [eE]; show _ = (eDo T a 0 v6 v9).1; rw [show eDo T a 0 v6 v9 = eBeg T a v6 from rfl]; exact eG12
    · rw [eE]; exact xG12
    · rw [fG12 34 (by decide) (by decide) (by decide) (by decide) (by decide), d8, eG]
  · skip
    refine w_ite (fun c_2 => ?_) (fun c_2 => ?_)
    · skip
      refine w_bn (x_doJoin w hw x8 hT_G8 (n := v6) (y := v9)) (fun v14 G15 qG15 => ?_)
      obtain ⟨fG15, eG15, xG15⟩ := qG15
      refine w_rz (by first | omega | (rw [eG12]; unfold eBeg; split <;> simp) | (rw [eG15]; split <;> simp) | (rw [eG18]; unfold eLeave; split <;> simp) | (rw [eG34]; unfold eFix; split <;> simp)) ?_
      have ev : d (gn g0) 8 = 1 := by omega
      have eE : dvE gn d T g0 a = eDo T a 1 v6 v9 := by unfold dvE; rw [ev, show dvc 1 = 1 from rfl, hv6, hv4, if_neg (by decide), hv9, hv7]
      have eG : dvG gn d g0 = gn (gn (gn g0)) := by unfold dvG; rw [ev, if_neg (by decide)]
      refine ⟨fun c z1 z2 z3 z4 z5 z6 => by rw [fG15 c z1 z2 z3 z4 z5, c8 c z6], ?_, ?_, ?_⟩
      · rw [eE]; rw [show (eDo T a 1 v6 v9).1 = if (eJoin T a v6 v9).1 = -1 then 0 else 1 from rfl]; exact eG15
      · rw [eE]; exact xG15
      · rw [fG15 34 (by decide) (by decide) (by decide) (by decide) (by decide), d8, eG]
    · skip
      refine w_ite (fun c_3 => ?_) (fun c_3 => ?_)
      · skip
        refine w_bn (x_doLeave w hw x8 hT_G8 (n := v6)) (fun v17 G18 qG18 => ?_)
        obtain ⟨fG18, eG18, xG18⟩ := qG18
        refine w_rz (by first | omega | (rw [eG12]; unfold eBeg; split <;> simp) | (rw [eG15]; split <;> simp) | (rw [eG18]; unfold eLeave; split <;> simp) | (rw [eG34]; unfold eFix; split <;> simp)) ?_
        have ev : d (gn g0) 8 = 2 := by omega
        have eE : dvE gn d T g0 a = eDo T a 2 v6 v9 := by unfold dvE; rw [ev, show dvc 2 = 2 from rfl, hv6, hv4, if_neg (by decide), hv9, hv7]
        have eG : dvG gn d g0 = gn (gn (gn g0)) := by unfold dvG; rw [ev, if_neg (by decide)]
        refine ⟨fun c z1 z2 z3 z4 z5 z6 => by rw [fG18 c z1 z2 z3 z4 z5, c8 c z6], ?_, ?_, ?_⟩
        · rw [eE]; show _ = (eDo T a 2 v6 v9).1; rw [show eDo T a 2 v6 v9 = eLeave a v6 from rfl]; exact eG18
        · rw [eE]; exact xG18
        · rw [fG18 34 (by decide) (by decide) (by decide) (by decide) (by decide), d8, eG]
      · skip
        refine w_ite (fun c_4 => ?_) (fun c_4 => ?_)
        · skip
          refine w_bn (x_doFail w hw x8 hT_G8 (n := v6)) (fun v20 G21 qG21 => ?_)
          obtain ⟨fG21, eG21, xG21⟩ := qG21
          refine w_ite (fun c_5 => ?_) (fun c_5 => ?_)
          · skip
            refine w_rz (by first | omega | (rw [eG12]; unfold eBeg; split <;> simp) | (rw [eG15]; split <;> simp) | (rw [eG18]; unfold eLeave; split <;> simp) | (rw [eG34]; unfold eFix; split <;> simp)) ?_
            have ev : d (gn g0) 8 = 3 := by omega
            have eE : dvE gn d T g0 a = eDo T a 3 v6 v9 := by unfold dvE; rw [ev, show dvc 3 = 3 from rfl, hv6, hv4, if_neg (by decide), hv9, hv7]
            have eG : dvG gn d g0 = gn (gn (gn g0)) := by unfold dvG; rw [ev, if_neg (by decide)]
            refine ⟨fun c z1 z2 z3 z4 z5 z6 => by rw [fG21 c z1 z2 z3 z4 z5, c8 c z6], ?_, ?_, ?_⟩
            · rw [eE]; rw [show (eDo T a 3 v6 v9).1 = if (eFail a v6).1 = -1 then 0 else 1 from rfl, ← eG21]; first | rw [if_pos (by assumption)] | rw [if_neg (by assumption)]
            · rw [eE]; exact xG21
            · rw [fG21 34 (by decide) (by decide) (by decide) (by decide) (by decide), d8, eG]
          · skip
            refine w_rz (by first | omega | (rw [eG12]; unfold eBeg; split <;> simp) | (rw [eG15]; split <;> simp) | (rw [eG18]; unfold eLeave; split <;> simp) | (rw [eG34]; unfold eFix; split <;> simp)) ?_
            have ev : d (gn g0) 8 = 3 := by omega
            have eE : dvE gn d T g0 a = eDo T a 3 v6 v9 := by unfold dvE; rw [ev, show dvc 3 = 3 from rfl, hv6, hv4, if_neg (by decide), hv9, hv7]
            have eG : dvG gn d g0 = gn (gn (gn g0)) := by unfold dvG; rw [ev, if_neg (by decide)]
            refine ⟨fun c z1 z2 z3 z4 z5 z6 => by rw [fG21 c z1 z2 z3 z4 z5, c8 c z6], ?_, ?_, ?_⟩
            · rw [eE]; rw [show (eDo T a 3 v6 v9).1 = if (eFail a v6).1 = -1 then 0 else 1 from rfl, ← eG21]; first | rw [if_pos (by assumption)] | rw [if_neg (by assumption)]
            · rw [eE]; exact xG21
            · rw [fG21 34 (by decide) (by decide) (by decide) (by decide) (by decide), d8, eG]
        · skip
          refine w_ite (fun c_6 => ?_) (fun c_6 => ?_)
          · skip
            refine w_bn (x_doTidy w hw x8 hT_G8 (n := v6)) (fun v23 G24 qG24 => ?_)
            obtain ⟨fG24, eG24, xG24⟩ := qG24
            refine w_ite (fun c_7 => ?_) (fun c_7 => ?_)
            · skip
              refine w_rz (by first | omega | (rw [eG12]; unfold eBeg; split <;> simp) | (rw [eG15]; split <;> simp) | (rw [eG18]; unfold eLeave; split <;> simp) | (rw [eG34]; unfold eFix; split <;> simp)) ?_
              have ev : d (gn g0) 8 = 4 := by omega
              have eE : dvE gn d T g0 a = eDo T a 4 v6 v9 := by unfold dvE; rw [ev, show dvc 4 = 4 from rfl, hv6, hv4, if_neg (by decide), hv9, hv7]
              have eG : dvG gn d g0 = gn (gn (gn g0)) := by unfold dvG; rw [ev, if_neg (by decide)]
              refine ⟨fun c z1 z2 z3 z4 z5 z6 => by rw [fG24 c z1 z2 z3 z4 z5, c8 c z6], ?_, ?_, ?_⟩
              · rw [eE]; rw [show (eDo T a 4 v6 v9).1 = if (eTidy T a v6).1 = -1 then 0 else 1 from rfl, ← eG24]; first | rw [if_pos (by assumption)] | rw [if_neg (by assumption)]
              · rw [eE]; exact xG24
              · rw [fG24 34 (by decide) (by decide) (by decide) (by decide) (by decide), d8, eG]
            · skip
              refine w_rz (by first | omega | (rw [eG12]; unfold eBeg; split <;> simp) | (rw [eG15]; split <;> simp) | (rw [eG18]; unfold eLeave; split <;> simp) | (rw [eG34]; unfold eFix; split <;> simp)) ?_
              have ev : d (gn g0) 8 = 4 := by omega
              have eE : dvE gn d T g0 a = eDo T a 4 v6 v9 := by unfold dvE; rw [ev, show dvc 4 = 4 from rfl, hv6, hv4, if_neg (by decide), hv9, hv7]
              have eG : dvG gn d g0 = gn (gn (gn g0)) := by unfold dvG; rw [ev, if_neg (by decide)]
              refine ⟨fun c z1 z2 z3 z4 z5 z6 => by rw [fG24 c z1 z2 z3 z4 z5, c8 c z6], ?_, ?_, ?_⟩
              · rw [eE]; rw [show (eDo T a 4 v6 v9).1 = if (eTidy T a v6).1 = -1 then 0 else 1 from rfl, ← eG24]; first | rw [if_pos (by assumption)] | rw [if_neg (by assumption)]
              · rw [eE]; exact xG24
              · rw [fG24 34 (by decide) (by decide) (by decide) (by decide) (by decide), d8, eG]
          · skip
            refine w_ite (fun c_8 => ?_) (fun c_8 => ?_)
            · skip
              refine w_bn (x_doTidy w hw x8 hT_G8 (n := v6)) (fun v26 G27 qG27 => ?_)
              obtain ⟨fG27, eG27, xG27⟩ := qG27
              refine w_ite (fun c_9 => ?_) (fun c_9 => ?_)
              · skip
                refine w_rz (by first | omega | (rw [eG12]; unfold eBeg; split <;> simp) | (rw [eG15]; split <;> simp) | (rw [eG18]; unfold eLeave; split <;> simp) | (rw [eG34]; unfold eFix; split <;> simp)) ?_
                have ev : d (gn g0) 8 = 5 := by omega
                have eE : dvE gn d T g0 a = eDo T a 4 v6 v9 := by unfold dvE; rw [ev, show dvc 5 = 4 from rfl, hv6, hv4, if_neg (by decide), hv9, hv7]
                have eG : dvG gn d g0 = gn (gn (gn g0)) := by unfold dvG; rw [ev, if_neg (by decide)]
                refine ⟨fun c z1 z2 z3 z4 z5 z6 => by rw [fG27 c z1 z2 z3 z4 z5, c8 c z6], ?_, ?_, ?_⟩
                · rw [eE]; rw [show (eDo T a 4 v6 v9).1 = if (eTidy T a v6).1 = -1 then 0 else 1 from rfl, ← eG27]; first | rw [if_pos (by assumption)] | rw [if_neg (by assumption)]
                · rw [eE]; exact xG27
                · rw [fG27 34 (by decide) (by decide) (by decide) (by decide) (by decide), d8, eG]
              · skip
                refine w_rz (by first | omega | (rw [eG12]; unfold eBeg; split <;> simp) | (rw [eG15]; split <;> simp) | (rw [eG18]; unfold eLeave; split <;> simp) | (rw [eG34]; unfold eFix; split <;> simp)) ?_
                have ev : d (gn g0) 8 = 5 := by omega
                have eE : dvE gn d T g0 a = eDo T a 4 v6 v9 := by unfold dvE; rw [ev, show dvc 5 = 4 from rfl, hv6, hv4, if_neg (by decide), hv9, hv7]
                have eG : dvG gn d g0 = gn (gn (gn g0)) := by unfold dvG; rw [ev, if_neg (by decide)]
                refine ⟨fun c z1 z2 z3 z4 z5 z6 => by rw [fG27 c z1 z2 z3 z4 z5, c8 c z6], ?_, ?_, ?_⟩
                · rw [eE]; rw [show (eDo T a 4 v6 v9).1 = if (eTidy T a v6).1 = -1 then 0 else 1 from rfl, ← eG27]; first | rw [if_pos (by assumption)] | rw [if_neg (by assumption)]
                · rw [eE]; exact xG27
                · rw [fG27 34 (by decide) (by decide) (by decide) (by decide) (by decide), d8, eG]
            · skip
              refine w_ite (fun c_10 => ?_) (fun c_10 => ?_)
              · skip
                refine w_bn (x_eFlush w hw x8 (n := v6)) (fun v29 G30 qG30 => ?_)
                obtain ⟨fG30, eG30, xG30⟩ := qG30
                refine w_ite (fun c_11 => ?_) (fun c_11 => ?_)
                · skip
                  refine w_rz (by first | omega | (rw [eG12]; unfold eBeg; split <;> simp) | (rw [eG15]; split <;> simp) | (rw [eG18]; unfold eLeave; split <;> simp) | (rw [eG34]; unfold eFix; split <;> simp)) ?_
                  have ev : d (gn g0) 8 = 6 := by omega
                  have eE : dvE gn d T g0 a = eDo T a 5 v6 v9 := by unfold dvE; rw [ev, show dvc 6 = 5 from rfl, hv6, hv4, if_neg (by decide), hv9, hv7]
                  have eG : dvG gn d g0 = gn (gn (gn g0)) := by unfold dvG; rw [ev, if_neg (by decide)]
                  refine ⟨fun c z1 z2 z3 z4 z5 z6 => by rw [fG30 c z1 z2 z3 z4 z5, c8 c z6], ?_, ?_, ?_⟩
                  · rw [eE]; rw [show (eDo T a 5 v6 v9).1 = if (eFlush a v6).1 = -1 then 0 else 1 from rfl, ← eG30]; first | rw [if_pos (by assumption)] | rw [if_neg (by assumption)]
                  · rw [eE]; exact xG30
                  · rw [fG30 34 (by decide) (by decide) (by decide) (by decide) (by decide), d8, eG]
                · skip
                  refine w_rz (by first | omega | (rw [eG12]; unfold eBeg; split <;> simp) | (rw [eG15]; split <;> simp) | (rw [eG18]; unfold eLeave; split <;> simp) | (rw [eG34]; unfold eFix; split <;> simp)) ?_
                  have ev : d (gn g0) 8 = 6 := by omega
                  have eE : dvE gn d T g0 a = eDo T a 5 v6 v9 := by unfold dvE; rw [ev, show dvc 6 = 5 from rfl, hv6, hv4, if_neg (by decide), hv9, hv7]
                  have eG : dvG gn d g0 = gn (gn (gn g0)) := by unfold dvG; rw [ev, if_neg (by decide)]
                  refine ⟨fun c z1 z2 z3 z4 z5 z6 => by rw [fG30 c z1 z2 z3 z4 z5, c8 c z6], ?_, ?_, ?_⟩
                  · rw [eE]; rw [show (eDo T a 5 v6 v9).1 = if (eFlush a v6).1 = -1 then 0 else 1 from rfl, ← eG30]; first | rw [if_pos (by assumption)] | rw [if_neg (by assumption)]
                  · rw [eE]; exact xG30
                  · rw [fG30 34 (by decide) (by decide) (by decide) (by decide) (by decide), d8, eG]
              · skip
                refine w_bne (hx (by omega)) (fun v31 G32 hv31 hG32 => ?_)
                have c32 : ∀ c, c ≠ 34 → G32 c = G c := fun c z => by rw [hG32, up_ne z, c8 c z]
                have d32 : G32 34 6 = gn (gn (gn (gn g0))) := by rw [hG32, up_at, d8]; simp
                rw [d8] at hv31
                have x32 : XA 27 a G32 := hA_G.fr (c32 27 (by decide)) (c32 28 (by decide))
                have hT_G32 : XT T G32 := hT_G.fr (c32 4 (by decide)) (c32 5 (by decide)) (c32 6 (by decide)) (c32 9 (by decide))
                refine w_bn (x_doFix w hw x32 hT_G32 (n := v6) (i := v31)) (fun v33 G34 qG34 => ?_)
                obtain ⟨fG34, eG34, xG34⟩ := qG34
                refine w_rz (by first | omega | (rw [eG12]; unfold eBeg; split <;> simp) | (rw [eG15]; split <;> simp) | (rw [eG18]; unfold eLeave; split <;> simp) | (rw [eG34]; unfold eFix; split <;> simp)) ?_
                have ev : d (gn g0) 8 = 7 := by omega
                have eE : dvE gn d T g0 a = eDo T a 6 v6 v31 := by unfold dvE; rw [ev, show dvc 7 = 6 from rfl, hv6, hv4, if_pos rfl, hv31]
                have eG : dvG gn d g0 = gn (gn (gn (gn g0))) := by unfold dvG; rw [ev, if_pos rfl]
                refine ⟨fun c z1 z2 z3 z4 z5 z6 => by rw [fG34 c z1 z2 z3 z4 z5, c32 c z6], ?_, ?_, ?_⟩
                · rw [eE]; show _ = (eDo T a 6 v6 v31).1; rw [show eDo T a 6 v6 v31 = eFix T a v6 v31 from rfl]; exact eG34
                · rw [eE]; exact xG34
                · rw [fG34 34 (by decide) (by decide) (by decide) (by decide) (by decide), d32, eG]

end TRI
