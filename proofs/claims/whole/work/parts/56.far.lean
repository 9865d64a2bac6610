/-! FINDING: whom one asks on -/
def cnd (a : AS) (n i : Int) : Int := if i < 4 then lst a n i else fng a n (i - 4)
def fs (T : TT) (a : AS) (n bd : Int) (s : Int × Int) (o : Int) : Int × Int := if isi a o = 1 ∧ wT T n o < bd ∧ s.2 < wT T n o then (o, wT T n o) else s
def farA (T : TT) (a : AS) (n bd : Int) : Nat → Int × Int
  | 0 => (-1, 0)
  | i + 1 => fs T a n bd (farA T a n bd i) (cnd a n i)
def farb (T : TT) (a : AS) (n bd : Int) : Int := (farA T a n bd 12).1
/-- what is so of the best so far -/
def FJ (T : TT) (a : AS) (n : Int) (s : Int × Int) : Prop := (s.1 = -1 ∧ s.2 = 0) ∨ (0 ≤ s.1 ∧ s.1 < tN T ∧ isi a s.1 = 1 ∧ s.2 = wT T n s.1)
section FAR
variable {b : Nat} {a : AS} {G : Hp} {T : TT}
theorem farA_s {n bd i : Int} (h : 0 ≤ i) : farA T a n bd (i + 1).toNat = fs T a n bd (farA T a n bd i.toNat) (cnd a n i) := by
  rw [toN1 h]
  show fs T a n bd (farA T a n bd i.toNat) (cnd a n (i.toNat : Int)) = _
  rw [Int.toNat_of_nonneg h]
theorem fs_J (hw : WA T a) {n bd o : Int} {s : Int × Int} (h : FJ T a n s) : FJ T a n (fs T a n bd s o) := by
  unfold fs
  split
  · rename_i q
    have := hw.inr (n := o)
    exact Or.inr ⟨by show 0 ≤ o; omega, by show o < tN T; omega, q.1, rfl⟩
  · exact h
theorem farA_J (hw : WA T a) (n bd : Int) : ∀ i, FJ T a n (farA T a n bd i)
  | 0 => Or.inl ⟨rfl, rfl⟩
  | i + 1 => fs_J hw (farA_J hw n bd i)
theorem farb_rng (hw : WA T a) (w : WT T) (n bd : Int) : farb T a n bd = -1 ∨ (0 ≤ farb T a n bd ∧ farb T a n bd < tN T ∧ isi a (farb T a n bd) = 1) := by
  rcases farA_J hw n bd 12 with h | h
  · exact Or.inl h.1
  · exact Or.inr ⟨h.1, h.2.1, h.2.2.1⟩
theorem farA_mono {n bd : Int} : ∀ i j, i ≤ j → (farA T a n bd i).2 ≤ (farA T a n bd j).2 := by
  intro i j h
  induction h with
  | refl => exact Int.le_refl _
  | step _ ih =>
    refine Int.le_trans ih ?_
    show _ ≤ (fs _ _ _ _ _ _).2
    unfold fs; split
    · rename_i q; exact Int.le_of_lt q.2.2
    · exact Int.le_refl _
/-- whoever is in and near enough: then there is a best -/
theorem farb_some (hw : WA T a) (w : WT T) {n bd : Int} (hn0 : 0 ≤ n) (hn : n < tN T) {i : Nat} (hi : i < 12) {o : Int} (ho : cnd a n i = o) (h1 : isi a o = 1) (h2 : wT T n o < bd) : farb T a n bd ≠ -1 := by
  intro hf
  have hoN := hw.inr (n := o)
  have hwr := wT_rng w hn0 hn (o := o) (by omega) (by omega)
  have hs : wT T n o ≤ (farA T a n bd (i + 1)).2 := by
    show _ ≤ (fs _ _ _ _ _ _).2
    rw [ho]
    unfold fs; split
    · exact Int.le_refl _
    · rename_i q
      have : ¬ (farA T a n bd i).2 < wT T n o := fun z => q ⟨h1, h2, z⟩
      omega
  have hm := farA_mono (T := T) (a := a) (n := n) (bd := bd) (i + 1) 12 (by omega)
  rcases farA_J hw n bd 12 with q | q
  · omega
  · have : (farA T a n bd 12).1 = -1 := hf
    omega
theorem fs_out {n bd o : Int} {s : Int × Int} (h : isi a o = 0) : fs T a n bd s o = s := by
  unfold fs; rw [if_neg (by omega)]
theorem x_farb (w : WT T) (hw : WA T a) (hA_G : XA 27 a G) (hT_G : XT T G) {n bd : Int} (h1 : 0 ≤ n) (h2 : n < tN T) : fX1_farthestBelow 29 n bd G = some (farb T a n bd, G) := by
  have wr := w.rg
  unfold fX1_farthestBelow
  simp only [rf_4_5, rf_29_0, rf_29_1]
  refine WP_eq ?_
  refine w_bd (fun v1 hv1 => ?_)
  refine w_bd (fun v2 hv2 => ?_)
  refine w_bd (fun v3 hv3 => ?_)
  refine w_lpIII (fun (v4 : Int) (v5 : Int) (v6 : Int) => (0 ≤ v6) ∧ (v6 ≤ 12) ∧ (v4 = (farA T a n bd v6.toNat).1) ∧ (v5 = (farA T a n bd v6.toNat).2)) (fun (v4 : Int) (v5 : Int) (v6 : Int) => (12 - v6).toNat) (fun rc7 v4 v5 v6 hI hrc7 => ?_) _ _ _ ?_ ?_
  · skip
    obtain ⟨i0, i1, e1, e2⟩ := hI
    refine w_ite (fun c_1 => ?_) (fun c_1 => ?_)
    · skip
      refine w_jn ?_
      refine w_ite (fun c_2 => ?_) (fun c_2 => ?_)
      · skip
        refine w_bp (x_listAt hA_G) (fun v23 hv23 => ?_)
        have qv23 := hw.lr n v6
        refine w_bd (fun v10 hv10 => ?_)
        refine w_bp (x_isIn hA_G hw.1) (fun v11 hv11 => ?_)
        have qv11 := hw.inr (n := v10)
        refine w_jn ?_
        refine w_ite (fun c_3 => ?_) (fun c_3 => ?_)
        · skip
          refine w_bd (fun v15 hv15 => ?_)
          simp (disch := omega) only [iadd_id, isub_id, imul_id] at hv15
          refine hrc7 _ _ _ ?_ ?_
          · try dsimp only
            refine ⟨?_, ?_, ?_, ?_⟩
            · first | omega | grind
            · first | omega | grind
            · subst_vars; rw [farA_s i0]; unfold fs cnd wT; grind
            · subst_vars; rw [farA_s i0]; unfold fs cnd wT; grind
          · try dsimp only
            omega
        · skip
          refine w_rdv (x_place hT_G w (by omega) (by omega)) (fun v16 hv16 => ?_)
          have qv16 := w.pl (i := n) (by omega) (by omega)
          refine w_rdv (x_place hT_G w (by omega) (by omega)) (fun v17 hv17 => ?_)
          have qv17 := w.pl (i := v10) (by omega) (by omega)
          refine w_bp (x_way hT_G w ⟨by omega, by omega⟩ ⟨by omega, by omega⟩) (fun v18 hv18 => ?_)
          have qv18 := wy_rng (C := tC T) (f := v16) (t := v17) (by omega) (by omega) (by omega) (by omega) (by omega)
          refine w_bd (fun v19 hv19 => ?_)
          refine w_ite (fun c_4 => ?_) (fun c_4 => ?_)
          · skip
            refine w_ite (fun c_5 => ?_) (fun c_5 => ?_)
            · skip
              refine w_bd (fun v20 hv20 => ?_)
              refine w_bd (fun v21 hv21 => ?_)
              refine w_bd (fun v15 hv15 => ?_)
              simp (disch := omega) only [iadd_id, isub_id, imul_id] at hv15
              refine hrc7 _ _ _ ?_ ?_
              · try dsimp only
                refine ⟨?_, ?_, ?_, ?_⟩
                · first | omega | grind
                · first | omega | grind
                · subst_vars; rw [farA_s i0]; unfold fs cnd wT; grind
                · subst_vars; rw [farA_s i0]; unfold fs cnd wT; grind
              · try dsimp only
                omega
            · skip
              refine w_bd (fun v15 hv15 => ?_)
              simp (disch := omega) only [iadd_id, isub_id, imul_id] at hv15
              refine hrc7 _ _ _ ?_ ?_
              · try dsimp only
                refine ⟨?_, ?_, ?_, ?_⟩
                · first | omega | grind
                · first | omega | grind
                · subst_vars; rw [farA_s i0]; unfold fs cnd wT; grind
                · subst_vars; rw [farA_s i0]; unfold fs cnd wT; grind
              · try dsimp only
                omega
          · skip
            refine w_bd (fun v15 hv15 => ?_)
            simp (disch := omega) only [iadd_id, isub_id, imul_id] at hv15
            refine hrc7 _ _ _ ?_ ?_
            · try dsimp only
              refine ⟨?_, ?_, ?_, ?_⟩
              · first | omega | grind
              · first | omega | grind
              · subst_vars; rw [farA_s i0]; unfold fs cnd wT; grind
              · subst_vars; rw [farA_s i0]; unfold fs cnd wT; grind
            · try dsimp only
              omega
      · skip
        rw [show isub v6 4 = (v6 - 4) by simp (disch := omega) only [iadd_id, isub_id, imul_id]]
        refine w_bp (x_fingerAt hA_G) (fun v22 hv22 => ?_)
        have qv22 := hw.fr n (v6 - 4)
        refine w_bd (fun v10 hv10 => ?_)
        refine w_bp (x_isIn hA_G hw.1) (fun v11 hv11 => ?_)
        have qv11 := hw.inr (n := v10)
        refine w_jn ?_
        refine w_ite (fun c_6 => ?_) (fun c_6 => ?_)
        · skip
          refine w_bd (fun v15 hv15 => ?_)
          simp (disch := omega) only [iadd_id, isub_id, imul_id] at hv15
          refine hrc7 _ _ _ ?_ ?_
          · try dsimp only
            refine ⟨?_, ?_, ?_, ?_⟩
            · first | omega | grind
            · first | omega | grind
            · subst_vars; rw [farA_s i0]; unfold fs cnd wT; grind
            · subst_vars; rw [farA_s i0]; unfold fs cnd wT; grind
          · try dsimp only
            omega
        · skip
          refine w_rdv (x_place hT_G w (by omega) (by omega)) (fun v16 hv16 => ?_)
          have qv16 := w.pl (i := n) (by omega) (by omega)
          refine w_rdv (x_place hT_G w (by omega) (by omega)) (fun v17 hv17 => ?_)
          have qv17 := w.pl (i := v10) (by omega) (by omega)
          refine w_bp (x_way hT_G w ⟨by omega, by omega⟩ ⟨by omega, by omega⟩) (fun v18 hv18 => ?_)
          have qv18 := wy_rng (C := tC T) (f := v16) (t := v17) (by omega) (by omega) (by omega) (by omega) (by omega)
          refine w_bd (fun v19 hv19 => ?_)
          refine w_ite (fun c_7 => ?_) (fun c_7 => ?_)
          · skip
            refine w_ite (fun c_8 => ?_) (fun c_8 => ?_)
            · skip
              refine w_bd (fun v20 hv20 => ?_)
              refine w_bd (fun v21 hv21 => ?_)
              refine w_bd (fun v15 hv15 => ?_)
              simp (disch := omega) only [iadd_id, isub_id, imul_id] at hv15
              refine hrc7 _ _ _ ?_ ?_
              · try dsimp only
                refine ⟨?_, ?_, ?_, ?_⟩
                · first | omega | grind
                · first | omega | grind
                · subst_vars; rw [farA_s i0]; unfold fs cnd wT; grind
                · subst_vars; rw [farA_s i0]; unfold fs cnd wT; grind
              · try dsimp only
                omega
            · skip
              refine w_bd (fun v15 hv15 => ?_)
              simp (disch := omega) only [iadd_id, isub_id, imul_id] at hv15
              refine hrc7 _ _ _ ?_ ?_
              · try dsimp only
                refine ⟨?_, ?_, ?_, ?_⟩
                · first | omega | grind
                · first | omega | grind
                · subst_vars; rw [farA_s i0]; unfold fs cnd wT; grind
                · subst_vars; rw [farA_s i0]; unfold fs cnd wT; grind
              · try dsimp only
                omega
          · skip
            refine w_bd (fun v15 hv15 => ?_)
            simp (disch := omega) only [iadd_id, isub_id, imul_id] at hv15
            refine hrc7 _ _ _ ?_ ?_
            · try dsimp only
              refine ⟨?_, ?_, ?_, ?_⟩
              · first | omega | grind
              · first | omega | grind
              · subst_vars; rw [farA_s i0]; unfold fs cnd wT; grind
              · subst_vars; rw [farA_s i0]; unfold fs cnd wT; grind
            · try dsimp only
              omega
    · skip
      refine w_rt ?_
      refine ⟨?_, rfl⟩
      rw [e1, show v6.toNat = 12 by omega]; rfl
  · try dsimp only
    refine ⟨?_, ?_, ?_, ?_⟩
    · first | omega | (subst_vars; first | rfl | assumption) | assumption
    · first | omega | (subst_vars; first | rfl | assumption) | assumption
    · first | omega | (subst_vars; first | rfl | assumption) | assumption
    · first | omega | (subst_vars; first | rfl | assumption) | assumption
  · try dsimp only
    omega

theorem m_farther (w : WT T) (hw : WA T a) (hb : b ≤ 3410) (hR_G : MR b a G) (hM_G : MT T G) {n p one oth : Int} (h1 : 0 ≤ n) (h2 : n < tN T) (hp : 0 ≤ p ∧ p ≤ 1000) {s : Int × Int} (hs : FJ T a n s) (h1e : one = s.1) (ho : -1 ≤ oth ∧ oth < tN T) : fX12_farther 111 b n p one oth G = some ((fs T a n (wy (tC T) (tp T n) p) s oth).1, G) := by
  have wr := w.rg
  unfold FJ at hs
  have hwo : 0 ≤ oth → 1 ≤ wT T n oth := fun z => (wT_rng w h1 h2 z ho.2).1
  unfold fX12_farther
  refine WP_eq ?_
  refine w_bp (m_isIn (b := b) hR_G (by omega) (by omega)) (fun v1 hv1 => ?_)
  have qv1 := hw.inr (n := oth)
  refine w_jn ?_
  refine w_jn ?_
  refine w_ite (fun c_1 => ?_) (fun c_1 => ?_)
  · skip
    refine w_bd (fun v4 hv4 => ?_)
    refine w_ite (fun c_2 => ?_) (fun c_2 => ?_)
    · skip
      refine w_rt ?_
      refine ⟨?_, rfl⟩
      unfold fs; grind
    · skip
      refine w_jn ?_
      refine w_ite (fun c_3 => ?_) (fun c_3 => ?_)
      · skip
        refine w_rt ?_
        refine ⟨?_, rfl⟩
        unfold fs; grind
      · skip
        refine w_bp (m_wayTo hM_G w (by omega) (by omega) (by omega) (by omega)) (fun v6 hv6 => ?_)
        have qv6 := wT_rng w (n := n) (o := oth) (by omega) (by omega) (by omega) (by omega)
        refine w_bp (m_wayTo hM_G w (by omega) (by omega) (by omega) (by omega)) (fun v7 hv7 => ?_)
        have qv7 := wT_rng w (n := n) (o := one) (by omega) (by omega) (by omega) (by omega)
        refine w_ite (fun c_4 => ?_) (fun c_4 => ?_)
        · skip
          refine w_rt ?_
          refine ⟨?_, rfl⟩
          unfold fs; grind
        · skip
          refine w_rt ?_
          refine ⟨?_, rfl⟩
          unfold fs; grind
  · skip
    refine w_bp (m_wayTo hM_G w (by omega) (by omega) (by omega) (by omega)) (fun v9 hv9 => ?_)
    have qv9 := wT_rng w (n := n) (o := oth) (by omega) (by omega) (by omega) (by omega)
    refine w_bp (m_placeOf hM_G w (by omega) (by omega)) (fun v10 hv10 => ?_)
    have qv10 := w.pl (i := n) (by omega) (by omega)
    refine w_bp (m_way hM_G w ⟨by omega, by omega⟩ ⟨by omega, by omega⟩) (fun v11 hv11 => ?_)
    have qv11 := wy_rng (C := tC T) (f := v10) (t := p) (by omega) (by omega) (by omega) (by omega) (by omega)
    refine w_ite (fun c_5 => ?_) (fun c_5 => ?_)
    · skip
      refine w_bd (fun v4 hv4 => ?_)
      refine w_ite (fun c_6 => ?_) (fun c_6 => ?_)
      · skip
        refine w_rt ?_
        refine ⟨?_, rfl⟩
        unfold fs; grind
      · skip
        refine w_jn ?_
        refine w_ite (fun c_7 => ?_) (fun c_7 => ?_)
        · skip
          refine w_rt ?_
          refine ⟨?_, rfl⟩
          unfold fs; grind
        · skip
          refine w_bp (m_wayTo hM_G w (by omega) (by omega) (by omega) (by omega)) (fun v6 hv6 => ?_)
          have qv6 := wT_rng w (n := n) (o := oth) (by omega) (by omega) (by omega) (by omega)
          refine w_bp (m_wayTo hM_G w (by omega) (by omega) (by omega) (by omega)) (fun v7 hv7 => ?_)
          have qv7 := wT_rng w (n := n) (o := one) (by omega) (by omega) (by omega) (by omega)
          refine w_ite (fun c_8 => ?_) (fun c_8 => ?_)
          · skip
            refine w_rt ?_
            refine ⟨?_, rfl⟩
            unfold fs; grind
          · skip
            refine w_rt ?_
            refine ⟨?_, rfl⟩
            unfold fs; grind
    · skip
      refine w_bd (fun v4 hv4 => ?_)
      refine w_ite (fun c_9 => ?_) (fun c_9 => ?_)
      · skip
        refine w_rt ?_
        refine ⟨?_, rfl⟩
        unfold fs; grind
      · skip
        refine w_jn ?_
        refine w_ite (fun c_10 => ?_) (fun c_10 => ?_)
        · skip
          refine w_rt ?_
          refine ⟨?_, rfl⟩
          unfold fs; grind
        · skip
          refine w_bp (m_wayTo hM_G w (by omega) (by omega) (by omega) (by omega)) (fun v6 hv6 => ?_)
          have qv6 := wT_rng w (n := n) (o := oth) (by omega) (by omega) (by omega) (by omega)
          refine w_bp (m_wayTo hM_G w (by omega) (by omega) (by omega) (by omega)) (fun v7 hv7 => ?_)
          have qv7 := wT_rng w (n := n) (o := one) (by omega) (by omega) (by omega) (by omega)
          refine w_ite (fun c_11 => ?_) (fun c_11 => ?_)
          · skip
            refine w_rt ?_
            refine ⟨?_, rfl⟩
            unfold fs; grind
          · skip
            refine w_rt ?_
            refine ⟨?_, rfl⟩
            unfold fs; grind

theorem m_asksOn (w : WT T) (hw : WA T a) (hb : b ≤ 3410) (hR_G : MR b a G) (hM_G : MT T G) {n p : Int} (h1 : 0 ≤ n) (h2 : n < tN T) (hp : 0 ≤ p ∧ p ≤ 1000) : fX12_asksOn 111 b n p G = some (farb T a n (wy (tC T) (tp T n) p), G) := by
  have wr := w.rg
  have hl := llen_rng a n
  unfold fX12_asksOn
  refine WP_eq ?_
  refine w_bd (fun v1 hv1 => ?_)
  refine w_bd (fun v2 hv2 => ?_)
  refine w_lpII (fun (v3 : Int) (v4 : Int) => (0 ≤ v4) ∧ (v4 ≤ llen a n) ∧ (v3 = (farA T a n (wy (tC T) (tp T n) p) v4.toNat).1)) (fun (v3 : Int) (v4 : Int) => (4 - v4).toNat) (fun rc5 v3 v4 hI hrc5 => ?_) _ _ ?_ ?_
  · skip
    obtain ⟨i0, i1, e⟩ := hI
    refine w_bp (m_longOf (b := b) hR_G (by omega) (by omega) (by omega)) (fun v6 hv6 => ?_)
    have qv6 := llen_rng a n
    refine w_ite (fun c_1 => ?_) (fun c_1 => ?_)
    · skip
      refine w_bp (m_listedOf (b := b) hR_G (by omega) (by omega) (by omega) (by omega) (by omega)) (fun v15 hv15 => ?_)
      have qv15 := hw.lr n v4
      refine w_bp (m_farther w hw hb hR_G hM_G h1 h2 hp (farA_J hw n (wy (tC T) (tp T n) p) v4.toNat) e (by omega)) (fun v16 hv16 => ?_)
      refine w_bd (fun v17 hv17 => ?_)
      refine w_bd (fun v18 hv18 => ?_)
      simp (disch := omega) only [iadd_id, isub_id, imul_id] at hv18
      refine hrc5 _ _ ?_ ?_
      · try dsimp only
        refine ⟨?_, ?_, ?_⟩
        · first | omega | grind
        · first | omega | grind
        · subst_vars; rw [farA_s i0]; unfold cnd; rw [if_pos (by omega)]
      · try dsimp only
        omega
    · skip
      refine w_bd (fun v7 hv7 => ?_)
      refine w_lpII (fun (v8 : Int) (v9 : Int) => (0 ≤ v9) ∧ (v9 ≤ 8) ∧ (v8 = (farA T a n (wy (tC T) (tp T n) p) (4 + v9).toNat).1)) (fun (v8 : Int) (v9 : Int) => (8 - v9).toNat) (fun rc10 v8 v9 hI hrc10 => ?_) _ _ ?_ ?_
      · skip
        obtain ⟨j0, j1, e2⟩ := hI
        refine w_ite (fun c_2 => ?_) (fun c_2 => ?_)
        · skip
          refine w_bp (m_fingerOf (b := b) hR_G (by omega) (by omega) (by omega) (by omega) (by omega)) (fun v11 hv11 => ?_)
          have qv11 := hw.fr n v9
          refine w_bp (m_farther w hw hb hR_G hM_G h1 h2 hp (farA_J hw n (wy (tC T) (tp T n) p) (4 + v9).toNat) e2 (by omega)) (fun v12 hv12 => ?_)
          refine w_bd (fun v13 hv13 => ?_)
          refine w_bd (fun v14 hv14 => ?_)
          simp (disch := omega) only [iadd_id, isub_id, imul_id] at hv14
          refine hrc10 _ _ ?_ ?_
          · try dsimp only
            refine ⟨?_, ?_, ?_⟩
            · first | omega | grind
            · first | omega | grind
            · subst_vars; rw [← Int.add_assoc, farA_s (by omega)]; unfold cnd; rw [if_neg (by omega), show 4 + v9 - 4 = v9 by omega]
          · try dsimp only
            omega
        · skip
          refine w_rt ?_
          refine ⟨?_, rfl⟩
          rw [e2, show (4 + v9).toNat = 12 by omega]; rfl
      · try dsimp only
        refine ⟨?_, ?_, ?_⟩
        · first | omega | (subst_vars; first | rfl | assumption) | assumption
        · first | omega | (subst_vars; first | rfl | assumption) | assumption
        · rw [e, hv7, show ((4 : Int) + 0).toNat = 4 by decide]
          have ev : v4 = llen a n := by omega
          have k : ∀ j : Nat, v4.toNat + j ≤ 4 → farA T a n (wy (tC T) (tp T n) p) (v4.toNat + j) = farA T a n (wy (tC T) (tp T n) p) v4.toNat := by
            intro j
            induction j with
            | zero => intro _; rfl
            | succ j ih =>
              intro hj
              show fs T a n _ (farA T a n _ (v4.toNat + j)) (cnd a n ((v4.toNat + j : Nat) : Int)) = _
              rw [ih (by omega)]
              refine fs_out ?_
              unfold cnd
              rw [if_pos (by omega), llen_out hw (by omega)]
              exact isi_neg (by omega)
          have := k (4 - v4.toNat) (by omega)
          rw [show v4.toNat + (4 - v4.toNat) = 4 by omega] at this
          rw [this]
      · try dsimp only
        omega
  · try dsimp only
    refine ⟨?_, ?_, ?_⟩
    · first | omega | (subst_vars; first | rfl | assumption) | assumption
    · first | omega | (subst_vars; first | rfl | assumption) | assumption
    · first | omega | (subst_vars; first | rfl | assumption) | assumption
  · try dsimp only
    omega

/-- who is come to after so many -/
def skN (T : TT) (a : AS) (p n : Int) : Nat → Int
  | 0 => n
  | i + 1 => farb T a (skN T a p n i) (wy (tC T) (tp T (skN T a p n i)) p)
/-- at whom one stops: first, and whether it is found there -/
def skF (T : TT) (a : AS) (p n : Int) : Nat → Nat → Int × Int
  | 0, i => if fst4 a a.1 (skN T a p n i) ≠ -1 ∧ wy (tC T) (tp T (skN T a p n i)) p ≤ wT T (skN T a p n i) (fst4 a a.1 (skN T a p n i)) then (fst4 a a.1 (skN T a p n i), (i : Int)) else (-1, (i : Int))
  | f + 1, i => if fst4 a a.1 (skN T a p n i) = -1 then (-1, (i : Int)) else if wy (tC T) (tp T (skN T a p n i)) p ≤ wT T (skN T a p n i) (fst4 a a.1 (skN T a p n i)) then (fst4 a a.1 (skN T a p n i), (i : Int)) else skF T a p n f (i + 1)
def skf (T : TT) (a : AS) (n p : Int) : Int := (skF T a p n 20 0).1
def skt (T : TT) (a : AS) (n p : Int) : Int := (skF T a p n 20 0).2
theorem skF_r (hw : WA T a) (w : WT T) (p n : Int) : ∀ f i, ((skF T a p n f i).1 = -1 ∨ (0 ≤ (skF T a p n f i).1 ∧ (skF T a p n f i).1 < tN T ∧ isi a (skF T a p n f i).1 = 1)) ∧ (i : Int) ≤ (skF T a p n f i).2 ∧ (skF T a p n f i).2 ≤ (i : Int) + f
  | 0, i => by
    have := hw.f4 w (n := skN T a p n i)
    unfold skF; split
    · exact ⟨this, by show (i : Int) ≤ i; omega, by show (i : Int) ≤ i + (0 : Nat); omega⟩
    · exact ⟨Or.inl rfl, by show (i : Int) ≤ i; omega, by show (i : Int) ≤ i + (0 : Nat); omega⟩
  | f + 1, i => by
    have := hw.f4 w (n := skN T a p n i)
    unfold skF; split
    · exact ⟨Or.inl rfl, by show (i : Int) ≤ i; omega, by show (i : Int) ≤ i + (f + 1 : Nat); omega⟩
    · split
      · exact ⟨this, by show (i : Int) ≤ i; omega, by show (i : Int) ≤ i + (f + 1 : Nat); omega⟩
      · have h := skF_r hw w p n f (i + 1)
        exact ⟨h.1, by omega, by omega⟩
theorem skf_r (hw : WA T a) (w : WT T) (n p : Int) : (skf T a n p = -1 ∨ (0 ≤ skf T a n p ∧ skf T a n p < tN T ∧ isi a (skf T a n p) = 1)) ∧ 0 ≤ skt T a n p ∧ skt T a n p ≤ 20 := by
  have h := skF_r hw w p n 20 0
  unfold skf skt
  omega
/-- one more is asked: there is one -/
theorem sk_next (hw : WA T a) (w : WT T) {n p : Int} (h1 : 0 ≤ n) (h2 : n < tN T) (hf : fst4 a a.1 n ≠ -1) (hx : ¬ wy (tC T) (tp T n) p ≤ wT T n (fst4 a a.1 n)) : 0 ≤ farb T a n (wy (tC T) (tp T n) p) ∧ farb T a n (wy (tC T) (tp T n) p) < tN T := by
  have r := farb_rng hw w n (wy (tC T) (tp T n) p)
  have : farb T a n (wy (tC T) (tp T n) p) ≠ -1 := by
    rcases fst4_k a a.1 n with h | ⟨k, k1, k2, k3, k4, k5⟩
    · exact absurd h hf
    · have f4 := hw.f4 w (n := n)
      refine farb_some hw w h1 h2 (i := k.toNat) (by omega) (o := fst4 a a.1 n) ?_ (by omega) (by omega)
      unfold cnd
      rw [if_pos (by omega), Int.toNat_of_nonneg k1, k3]
  omega
theorem skF_e1 {p n : Int} {f i : Nat} (h : fst4 a a.1 (skN T a p n i) = -1) : skF T a p n f i = (-1, (i : Int)) := by
  cases f with
  | zero => unfold skF; rw [if_neg (fun z => z.1 h)]
  | succ f => unfold skF; rw [if_pos h]
theorem skF_e2 {p n : Int} {f i : Nat} (h : fst4 a a.1 (skN T a p n i) ≠ -1) (k : wy (tC T) (tp T (skN T a p n i)) p ≤ wT T (skN T a p n i) (fst4 a a.1 (skN T a p n i))) : skF T a p n f i = (fst4 a a.1 (skN T a p n i), (i : Int)) := by
  cases f with
  | zero => unfold skF; rw [if_pos ⟨h, k⟩]
  | succ f => unfold skF; rw [if_neg h, if_pos k]
theorem skF_e3 {p n : Int} {f i : Nat} (h : fst4 a a.1 (skN T a p n i) ≠ -1) (k : ¬ wy (tC T) (tp T (skN T a p n i)) p ≤ wT T (skN T a p n i) (fst4 a a.1 (skN T a p n i))) : skF T a p n (f + 1) i = skF T a p n f (i + 1) := by
  rw [skF, if_neg h, if_neg k]
theorem skF_e4 {p n : Int} {i : Nat} (k : ¬ wy (tC T) (tp T (skN T a p n i)) p ≤ wT T (skN T a p n i) (fst4 a a.1 (skN T a p n i))) : skF T a p n 0 i = (-1, (i : Int)) := by
  unfold skF; rw [if_neg (fun z => k z.2)]
theorem x_seek (w : WT T) (hw : WA T a) (hA_G : XA 27 a G) (hT_G : XT T G) {n p : Int} : WP (fX1_seek 29 n p G) (fun r G' => (∀ c, c ≠ 29 → c ≠ 30 → G' c = G c) ∧ ((isi a n = 1 ∧ 0 ≤ p ∧ p < tC T ∧ r = (if skf T a n p = -1 then 0 else 1) ∧ G' 29 3 = skf T a n p ∧ G' 29 4 = skt T a n p ∧ ∀ j : Int, 0 ≤ j → j < skt T a n p → G' 30 j.toNat = skN T a p n (j.toNat + 1)) ∨ (¬ (isi a n = 1 ∧ 0 ≤ p ∧ p < tC T) ∧ r = 0 ∧ G' 29 3 = -1))) := by
  have wr := w.rg
  unfold fX1_seek
  simp only [rf_4_5, rf_29_0, rf_29_1, rf_29_2]
  refine w_bh (fun G1 hG1 => ?_)
  refine w_bh (fun G2 hG2 => ?_)
  have fr2 : ∀ c, c ≠ 29 → c ≠ 30 → G2 c = G c := fun c x y => by rw [hG2, up_ne x, hG1, up_ne x]
  have hA_G2 : XA 27 a G2 := hA_G.fr (fr2 27 (by decide) (by decide)) (fr2 28 (by decide) (by decide))
  have hT_G2 : XT T G2 := hT_G.fr (fr2 4 (by decide) (by decide)) (fr2 5 (by decide) (by decide)) (fr2 6 (by decide) (by decide)) (fr2 9 (by decide) (by decide))
  refine w_bp (x_isIn hA_G2 hw.1) (fun v3 hv3 => ?_)
  have qv3 := hw.inr (n := n)
  refine w_ite (fun c_1 => ?_) (fun c_1 => ?_)
  · skip
    refine w_rz (by omega) ?_
    refine ⟨fr2, Or.inr ⟨by omega, rfl, by rw [hG2, hG1]; simp [up_at]⟩⟩
  · skip
    refine w_bp (x_isPlace hT_G2) (fun v4 hv4 => ?_)
    have qv4 : ((0 ≤ p ∧ p < tC T) ∧ v4 = 1) ∨ (¬ (0 ≤ p ∧ p < tC T) ∧ v4 = 0) := by rw [hv4]; exact ite01 _
    refine w_ite (fun c_2 => ?_) (fun c_2 => ?_)
    · skip
      refine w_rz (by omega) ?_
      refine ⟨fr2, Or.inr ⟨by omega, rfl, by rw [hG2, hG1]; simp [up_at]⟩⟩
    · skip
      refine w_bd (fun v5 hv5 => ?_)
      refine w_bd (fun v6 hv6 => ?_)
      refine w_lpIIH (fun (v7 : Int) (v8 : Int) (G9 : Hp) => (0 ≤ v8) ∧ (v8 ≤ 21) ∧ (∀ c, c ≠ 29 → c ≠ 30 → G9 c = G c) ∧ (G9 29 3 = -1) ∧ ((v8 ≤ 20 ∧ G9 29 4 = v8 ∧ v7 = skN T a p n v8.toNat ∧ (0 ≤ v7 ∧ v7 < tN T) ∧ skF T a p n 20 0 = skF T a p n (20 - v8).toNat v8.toNat) ∨ (v8 = 21 ∧ G9 29 4 = 20 ∧ skF T a p n 20 0 = (-1, 20))) ∧ (∀ j : Int, 0 ≤ j → j < v8 → j < 20 → G9 30 j.toNat = skN T a p n (j.toNat + 1))) (fun (v7 : Int) (v8 : Int) (G9 : Hp) => (21 - v8).toNat) (fun rc10 v7 v8 G9 hI hrc10 => ?_) _ _ _ ?_ ?_
      · skip
        obtain ⟨i0, i1, fr, f3, st, rw_⟩ := hI
        have hA_G9 : XA 27 a G9 := hA_G.fr (fr 27 (by decide) (by decide)) (fr 28 (by decide) (by decide))
        have hT_G9 : XT T G9 := hT_G.fr (fr 4 (by decide) (by decide)) (fr 5 (by decide) (by decide)) (fr 6 (by decide) (by decide)) (fr 9 (by decide) (by decide))
        refine w_ite (fun c_3 => ?_) (fun c_3 => ?_)
        · skip
          refine w_rz (by omega) ?_
          have ee := (st.resolve_left (fun z => absurd z.1 (by omega))).2.2
          have e4 := (st.resolve_left (fun z => absurd z.1 (by omega))).2.1
          have k1 : skf T a n p = -1 := by unfold skf; rw [ee]
          have k2 : skt T a n p = 20 := by unfold skt; rw [ee]
          refine ⟨fr, Or.inl ⟨by omega, by omega, by omega, by rw [if_pos k1], by rw [k1]; exact f3, by rw [k2]; exact e4, fun j j1 j2 => rw_ j j1 (by omega) (by omega)⟩⟩
        · skip
          obtain ⟨s1, s2, s3, s4, s5⟩ := st.resolve_right (fun z => absurd z.1 (by omega))
          refine w_ite (fun c_4 => ?_) (fun c_4 => ?_)
          · skip
            refine w_rz (by omega) ?_
            omega
          · skip
            refine w_bp (x_first hA_G9 hw w) (fun v11 hv11 => ?_)
            have qv11 := hw.f4 w (n := v7)
            refine w_bd (fun v12 hv12 => ?_)
            refine w_ite (fun c_5 => ?_) (fun c_5 => ?_)
            · skip
              refine w_rz (by omega) ?_
              have ee := s5.trans (skF_e1 (by rw [← s3]; omega))
              have k1 : skf T a n p = -1 := by unfold skf; rw [ee]
              have k2 : skt T a n p = v8 := by unfold skt; rw [ee]; show ((v8.toNat : Nat) : Int) = v8; omega
              refine ⟨fr, Or.inl ⟨by omega, by omega, by omega, by rw [if_pos k1], by rw [k1]; exact f3, by rw [k2]; exact s2, fun j j1 j2 => rw_ j j1 (by omega) (by omega)⟩⟩
            · skip
              refine w_rdv (x_place hT_G9 w (by omega) (by omega)) (fun v13 hv13 => ?_)
              have qv13 := w.pl (i := v7) (by omega) (by omega)
              refine w_bp (x_way hT_G9 w ⟨by omega, by omega⟩ ⟨by omega, by omega⟩) (fun v14 hv14 => ?_)
              have qv14 := wy_rng (C := tC T) (f := v13) (t := p) (by omega) (by omega) (by omega) (by omega) (by omega)
              refine w_bd (fun v15 hv15 => ?_)
              refine w_rdv (x_place hT_G9 w (by omega) (by omega)) (fun v16 hv16 => ?_)
              have qv16 := w.pl (i := v7) (by omega) (by omega)
              refine w_rdv (x_place hT_G9 w (by omega) (by omega)) (fun v17 hv17 => ?_)
              have qv17 := w.pl (i := v12) (by omega) (by omega)
              refine w_bp (x_way hT_G9 w ⟨by omega, by omega⟩ ⟨by omega, by omega⟩) (fun v18 hv18 => ?_)
              have qv18 := wy_rng (C := tC T) (f := v16) (t := v17) (by omega) (by omega) (by omega) (by omega) (by omega)
              have e18 : v18 = wT T v7 v12 := by rw [hv18, hv16, hv17]; rfl
              have e15 : v15 = wy (tC T) (tp T v7) p := by rw [hv15, hv14, hv13]
              refine w_ite (fun c_6 => ?_) (fun c_6 => ?_)
              · skip
                have nx := sk_next hw w (n := v7) (p := p) (by omega) (by omega) (by omega) (by rw [← hv11, ← hv12]; omega)
                have ne := skF_e3 (T := T) (a := a) (p := p) (n := n) (f := (20 - v8).toNat - 1) (i := v8.toNat) (by rw [← s3]; omega) (by rw [← s3]; rw [← hv11, ← hv12]; omega)
                have n4 := skF_e4 (T := T) (a := a) (p := p) (n := n) (i := v8.toNat) (by rw [← s3]; rw [← hv11, ← hv12]; omega)
                refine w_jn ?_
                refine w_ite (fun c_7 => ?_) (fun c_7 => ?_)
                · skip
                  refine w_bp (x_farb w hw hA_G9 hT_G9 (by omega) (by omega)) (fun v23 hv23 => ?_)
                  have qv23 := farb_rng hw w v7 v15
                  refine w_bd (fun v24 hv24 => ?_)
                  refine w_wr (by omega) (by omega) (fun G25 hG25 => ?_)
                  refine w_bh (fun G26 hG26 => ?_)
                  simp (disch := omega) only [iadd_id, isub_id, imul_id] at hG26
                  refine w_bd (fun v22 hv22 => ?_)
                  simp (disch := omega) only [iadd_id, isub_id, imul_id] at hv22
                  refine hrc10 _ _ _ ?_ ?_
                  · try dsimp only
                    refine ⟨?_, ?_, ?_, ?_, ?_, ?_⟩
                    · first | omega | grind
                    · first | omega | grind
                    · first | (intro c x y; rw [hG26, up_ne x, hG25, up_ne y]; exact fr c x y) | exact fr
                    · first | (rw [hG26, hG25]; simp [up_at]; exact f3) | exact f3
                    · by_cases q : v8 < 20
                      · first
                        | (exfalso; omega)
                        | (have e1 : (20 - v8).toNat - 1 + 1 = (20 - v8).toNat := by omega
                           have e2 : (20 - v22).toNat = (20 - v8).toNat - 1 := by omega
                           have e3 : v22.toNat = v8.toNat + 1 := by omega
                           have e5 : v24 = skN T a p n (v8.toNat + 1) := by rw [hv24, hv23, hv15, hv14, hv13]; show _ = farb T a (skN T a p n v8.toNat) (wy (tC T) (tp T (skN T a p n v8.toNat)) p); rw [← s3]
                           refine Or.inl ⟨by omega, by rw [hG26]; simp [up_at]; omega, by rw [e3]; exact e5, ?_, by rw [s5, e2, e3, ← ne, e1]⟩
                           rw [hv24, hv23, hv15, hv14, hv13]; exact nx)
                      · first
                        | (exfalso; omega)
                        | (refine Or.inr ⟨by omega, by omega, ?_⟩
                           rw [s5, show (20 - v8).toNat = 0 by omega, n4, show v8.toNat = 20 by omega]; rfl)
                    · first
                      | (intro j j1 j2 j3
                         rw [hG26, up_ne (by decide), hG25, up_at]
                         by_cases q : j = v8
                         · rw [if_pos ⟨rfl, by omega⟩, q, hv24, hv23, hv15, hv14, hv13]; show _ = farb T a (skN T a p n v8.toNat) (wy (tC T) (tp T (skN T a p n v8.toNat)) p); rw [← s3]
                         · rw [if_neg (by omega)]; exact rw_ j j1 (by omega) j3)
                      | (intro j j1 j2 j3; exact rw_ j j1 (by omega) j3)
                  · try dsimp only
                    omega
                · skip
                  refine w_bd (fun v22 hv22 => ?_)
                  simp (disch := omega) only [iadd_id, isub_id, imul_id] at hv22
                  refine hrc10 _ _ _ ?_ ?_
                  · try dsimp only
                    refine ⟨?_, ?_, ?_, ?_, ?_, ?_⟩
                    · first | omega | grind
                    · first | omega | grind
                    · first | (intro c x y; rw [hG26, up_ne x, hG25, up_ne y]; exact fr c x y) | exact fr
                    · first | (rw [hG26, hG25]; simp [up_at]; exact f3) | exact f3
                    · by_cases q : v8 < 20
                      · first
                        | (exfalso; omega)
                        | (have e1 : (20 - v8).toNat - 1 + 1 = (20 - v8).toNat := by omega
                           have e2 : (20 - v22).toNat = (20 - v8).toNat - 1 := by omega
                           have e3 : v22.toNat = v8.toNat + 1 := by omega
                           have e5 : v24 = skN T a p n (v8.toNat + 1) := by rw [hv24, hv23, hv15, hv14, hv13]; show _ = farb T a (skN T a p n v8.toNat) (wy (tC T) (tp T (skN T a p n v8.toNat)) p); rw [← s3]
                           refine Or.inl ⟨by omega, by rw [hG26]; simp [up_at]; omega, by rw [e3]; exact e5, ?_, by rw [s5, e2, e3, ← ne, e1]⟩
                           rw [hv24, hv23, hv15, hv14, hv13]; exact nx)
                      · first
                        | (exfalso; omega)
                        | (refine Or.inr ⟨by omega, by omega, ?_⟩
                           rw [s5, show (20 - v8).toNat = 0 by omega, n4, show v8.toNat = 20 by omega]; rfl)
                    · first
                      | (intro j j1 j2 j3
                         rw [hG26, up_ne (by decide), hG25, up_at]
                         by_cases q : j = v8
                         · rw [if_pos ⟨rfl, by omega⟩, q, hv24, hv23, hv15, hv14, hv13]; show _ = farb T a (skN T a p n v8.toNat) (wy (tC T) (tp T (skN T a p n v8.toNat)) p); rw [← s3]
                         · rw [if_neg (by omega)]; exact rw_ j j1 (by omega) j3)
                      | (intro j j1 j2 j3; exact rw_ j j1 (by omega) j3)
                  · try dsimp only
                    omega
              · skip
                refine w_bh (fun G27 hG27 => ?_)
                refine w_rz (by omega) ?_
                have ee := s5.trans (skF_e2 (by rw [← s3]; omega) (by rw [← s3]; rw [← hv11, ← hv12]; omega))
                rw [← s3] at ee
                have k1 : skf T a n p = fst4 a a.1 v7 := by unfold skf; rw [ee]
                have k2 : skt T a n p = v8 := by unfold skt; rw [ee]; show ((v8.toNat : Nat) : Int) = v8; omega
                refine ⟨fun c x y => by rw [hG27, up_ne x]; exact fr c x y, Or.inl ⟨by omega, by omega, by omega, by rw [if_neg (by omega)], by rw [k1, hG27, ← hv11, ← hv12]; simp [up_at], by rw [k2, hG27]; simp [up_at]; exact s2, fun j j1 j2 => by rw [hG27, up_ne (by decide)]; exact rw_ j j1 (by omega) (by omega)⟩⟩
      · try dsimp only
        refine ⟨?_, ?_, ?_, ?_, ?_, ?_⟩
        · first | omega | (subst_vars; first | rfl | assumption) | assumption
        · first | omega | (subst_vars; first | rfl | assumption) | assumption
        · exact fr2
        · rw [hG2, hG1]; simp [up_at]
        · refine Or.inl ⟨by omega, by rw [hG2, hv6]; simp [up_at], by rw [hv6, hv5]; rfl, by omega, by rw [hv6]; rfl⟩
        · intro j j1 j2; omega
      · try dsimp only
        omega

theorem m_finds (w : WT T) (hw : WA T a) (hb : b ≤ 3410) (hR_G : MR b a G) (hM_G : MT T G) {n p : Int} (h1 : 0 ≤ n) (h2 : n < tN T) (hp : 0 ≤ p ∧ p ≤ 1000) : WP (fX12_finds 111 b n p G) (fun r G' => (∀ c, c ≠ 111 → c ≠ 126 → G' c = G c) ∧ (∀ k, k ≠ 21 → G' 111 k = G 111 k) ∧ r = skf T a n p ∧ G' 111 21 = skt T a n p ∧ ∀ j : Int, 0 ≤ j → j < skt T a n p → G' 126 j.toNat = skN T a p n (j.toNat + 1)) := by
  have wr := w.rg
  unfold fX12_finds
  simp only [rf_111_22]
  refine w_bh (fun G1 hG1 => ?_)
  refine w_bd (fun v2 hv2 => ?_)
  refine w_bd (fun v3 hv3 => ?_)
  refine w_lpIIH (fun (v4 : Int) (v5 : Int) (G6 : Hp) => (0 ≤ v5) ∧ (v5 ≤ 21) ∧ (∀ c, c ≠ 111 → c ≠ 126 → G6 c = G c) ∧ (∀ k, k ≠ 21 → G6 111 k = G 111 k) ∧ ((v5 ≤ 20 ∧ G6 111 21 = v5 ∧ v4 = skN T a p n v5.toNat ∧ (0 ≤ v4 ∧ v4 < tN T) ∧ skF T a p n 20 0 = skF T a p n (20 - v5).toNat v5.toNat) ∨ (v5 = 21 ∧ G6 111 21 = 20 ∧ skF T a p n 20 0 = (-1, 20))) ∧ (∀ j : Int, 0 ≤ j → j < v5 → j < 20 → G6 126 j.toNat = skN T a p n (j.toNat + 1))) (fun (v4 : Int) (v5 : Int) (G6 : Hp) => (21 - v5).toNat) (fun rc7 v4 v5 G6 hI hrc7 => ?_) _ _ _ ?_ ?_
  · skip
    obtain ⟨i0, i1, fr, f1, st, rw_⟩ := hI
    have hR_G6 : MR b a G6 := hR_G.fr (fr 123 (by decide) (by decide))
    have hM_G6 : MT T G6 := hM_G.fr (fr 117 (by decide) (by decide)) (fr 125 (by decide) (by decide))
    refine w_ite (fun c_1 => ?_) (fun c_1 => ?_)
    · skip
      refine w_rt ?_
      have ee := (st.resolve_left (fun z => absurd z.1 (by omega))).2.2
      have e4 := (st.resolve_left (fun z => absurd z.1 (by omega))).2.1
      have k1 : skf T a n p = -1 := by unfold skf; rw [ee]
      have k2 : skt T a n p = 20 := by unfold skt; rw [ee]
      refine ⟨fr, f1, by rw [k1], by rw [k2]; exact e4, fun j j1 j2 => rw_ j j1 (by omega) (by omega)⟩
    · skip
      obtain ⟨s1, s2, s3, s4, s5⟩ := st.resolve_right (fun z => absurd z.1 (by omega))
      refine w_bp (m_firstOf (b := b) (by omega) w hw hR_G6 (by omega) (by omega)) (fun v8 hv8 => ?_)
      have qv8 := hw.f4 w (n := v4)
      refine w_bd (fun v9 hv9 => ?_)
      refine w_ite (fun c_2 => ?_) (fun c_2 => ?_)
      · skip
        refine w_rt ?_
        have ee := s5.trans (skF_e1 (by rw [← s3]; omega))
        have k1 : skf T a n p = -1 := by unfold skf; rw [ee]
        have k2 : skt T a n p = v5 := by unfold skt; rw [ee]; show ((v5.toNat : Nat) : Int) = v5; omega
        refine ⟨fr, f1, by rw [k1], by rw [k2]; exact s2, fun j j1 j2 => rw_ j j1 (by omega) (by omega)⟩
      · skip
        refine w_bp (m_placeOf hM_G6 w (by omega) (by omega)) (fun v10 hv10 => ?_)
        have qv10 := w.pl (i := v4) (by omega) (by omega)
        refine w_bp (m_way hM_G6 w ⟨by omega, by omega⟩ ⟨by omega, by omega⟩) (fun v11 hv11 => ?_)
        have qv11 := wy_rng (C := tC T) (f := v10) (t := p) (by omega) (by omega) (by omega) (by omega) (by omega)
        refine w_bp (m_wayTo hM_G6 w (by omega) (by omega) (by omega) (by omega)) (fun v12 hv12 => ?_)
        have qv12 := wT_rng w (n := v4) (o := v9) (by omega) (by omega) (by omega) (by omega)
        refine w_ite (fun c_3 => ?_) (fun c_3 => ?_)
        · skip
          have nx := sk_next hw w (n := v4) (p := p) (by omega) (by omega) (by omega) (by rw [← hv8, ← hv9, ← hv12, ← hv10, ← hv11]; omega)
          have ne := skF_e3 (T := T) (a := a) (p := p) (n := n) (f := (20 - v5).toNat - 1) (i := v5.toNat) (by rw [← s3]; omega) (by rw [← s3]; rw [← hv8, ← hv9, ← hv12, ← hv10, ← hv11]; omega)
          have n4 := skF_e4 (T := T) (a := a) (p := p) (n := n) (i := v5.toNat) (by rw [← s3]; rw [← hv8, ← hv9, ← hv12, ← hv10, ← hv11]; omega)
          refine w_jn ?_
          refine w_ite (fun c_4 => ?_) (fun c_4 => ?_)
          · skip
            refine w_bp (m_asksOn w hw hb hR_G6 hM_G6 (by omega) (by omega) hp) (fun v17 hv17 => ?_)
            have qv17 := farb_rng hw w v4 (wy (tC T) (tp T v4) p)
            refine w_bd (fun v18 hv18 => ?_)
            refine w_wr (by omega) (by omega) (fun G19 hG19 => ?_)
            have k19 : G19 111 21 = v5 := by rw [hG19, up_ne (by decide)]; exact s2
            refine w_bh (fun G20 hG20 => ?_)
            simp (disch := omega) only [iadd_id, isub_id, imul_id] at hG20
            refine w_bd (fun v16 hv16 => ?_)
            simp (disch := omega) only [iadd_id, isub_id, imul_id] at hv16
            refine hrc7 _ _ _ ?_ ?_
            · try dsimp only
              refine ⟨?_, ?_, ?_, ?_, ?_, ?_⟩
              · first | omega | grind
              · first | omega | grind
              · first | (intro c x y; rw [hG20, up_ne x, hG19, up_ne y]; exact fr c x y) | exact fr
              · first | (intro k x; rw [hG20, hG19]; simp [up_at, x]; exact f1 k x) | exact f1
              · by_cases q : v5 < 20
                · first
                  | (exfalso; omega)
                  | (have e1 : (20 - v5).toNat - 1 + 1 = (20 - v5).toNat := by omega
                     have e2 : (20 - v16).toNat = (20 - v5).toNat - 1 := by omega
                     have e3 : v16.toNat = v5.toNat + 1 := by omega
                     have e5 : v18 = skN T a p n (v5.toNat + 1) := by rw [hv18, hv17]; show _ = farb T a (skN T a p n v5.toNat) (wy (tC T) (tp T (skN T a p n v5.toNat)) p); rw [← s3]
                     refine Or.inl ⟨by omega, by rw [hG20]; simp [up_at]; omega, by rw [e3]; exact e5, ?_, by rw [s5, e2, e3, ← ne, e1]⟩
                     rw [hv18, hv17]; exact nx)
                · first
                  | (exfalso; omega)
                  | (refine Or.inr ⟨by omega, by omega, ?_⟩
                     rw [s5, show (20 - v5).toNat = 0 by omega, n4, show v5.toNat = 20 by omega]; rfl)
              · first
                | (intro j j1 j2 j3
                   rw [hG20, up_ne (by decide), hG19, up_at]
                   by_cases q : j = v5
                   · rw [if_pos ⟨rfl, by omega⟩, q, hv18, hv17]; show _ = farb T a (skN T a p n v5.toNat) (wy (tC T) (tp T (skN T a p n v5.toNat)) p); rw [← s3]
                   · rw [if_neg (by omega)]; exact rw_ j j1 (by omega) j3)
                | (intro j j1 j2 j3; exact rw_ j j1 (by omega) j3)
            · try dsimp only
              omega
          · skip
            refine w_bd (fun v16 hv16 => ?_)
            simp (disch := omega) only [iadd_id, isub_id, imul_id] at hv16
            refine hrc7 _ _ _ ?_ ?_
            · try dsimp only
              refine ⟨?_, ?_, ?_, ?_, ?_, ?_⟩
              · first | omega | grind
              · first | omega | grind
              · first | (intro c x y; rw [hG20, up_ne x, hG19, up_ne y]; exact fr c x y) | exact fr
              · first | (intro k x; rw [hG20, hG19]; simp [up_at, x]; exact f1 k x) | exact f1
              · by_cases q : v5 < 20
                · first
                  | (exfalso; omega)
                  | (have e1 : (20 - v5).toNat - 1 + 1 = (20 - v5).toNat := by omega
                     have e2 : (20 - v16).toNat = (20 - v5).toNat - 1 := by omega
                     have e3 : v16.toNat = v5.toNat + 1 := by omega
                     have e5 : v18 = skN T a p n (v5.toNat + 1) := by rw [hv18, hv17]; show _ = farb T a (skN T a p n v5.toNat) (wy (tC T) (tp T (skN T a p n v5.toNat)) p); rw [← s3]
                     refine Or.inl ⟨by omega, by rw [hG20]; simp [up_at]; omega, by rw [e3]; exact e5, ?_, by rw [s5, e2, e3, ← ne, e1]⟩
                     rw [hv18, hv17]; exact nx)
                · first
                  | (exfalso; omega)
                  | (refine Or.inr ⟨by omega, by omega, ?_⟩
                     rw [s5, show (20 - v5).toNat = 0 by omega, n4, show v5.toNat = 20 by omega]; rfl)
              · first
                | (intro j j1 j2 j3
                   rw [hG20, up_ne (by decide), hG19, up_at]
                   by_cases q : j = v5
                   · rw [if_pos ⟨rfl, by omega⟩, q, hv18, hv17]; show _ = farb T a (skN T a p n v5.toNat) (wy (tC T) (tp T (skN T a p n v5.toNat)) p); rw [← s3]
                   · rw [if_neg (by omega)]; exact rw_ j j1 (by omega) j3)
                | (intro j j1 j2 j3; exact rw_ j j1 (by omega) j3)
            · try dsimp only
              omega
        · skip
          refine w_rt ?_
          have ee := s5.trans (skF_e2 (by rw [← s3]; omega) (by rw [← s3]; rw [← hv8, ← hv9, ← hv12, ← hv10, ← hv11]; omega))
          rw [← s3] at ee
          have k1 : skf T a n p = fst4 a a.1 v4 := by unfold skf; rw [ee]
          have k2 : skt T a n p = v5 := by unfold skt; rw [ee]; show ((v5.toNat : Nat) : Int) = v5; omega
          refine ⟨fr, f1, by rw [k1, hv9, hv8], by rw [k2]; exact s2, fun j j1 j2 => rw_ j j1 (by omega) (by omega)⟩
  · try dsimp only
    refine ⟨?_, ?_, ?_, ?_, ?_, ?_⟩
    · first | omega | (subst_vars; first | rfl | assumption) | assumption
    · first | omega | (subst_vars; first | rfl | assumption) | assumption
    · intro c x y; rw [hG1, up_ne x]
    · intro k x; rw [hG1]; simp [up_at, x]
    · refine Or.inl ⟨by omega, by rw [hG1, hv3]; simp [up_at], by rw [hv3, hv2]; rfl, by omega, by rw [hv3]; rfl⟩
    · intro j j1 j2; omega
  · try dsimp only
    omega


end FAR
