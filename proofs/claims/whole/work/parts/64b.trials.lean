section TRI
variable {b : Nat} {a : AS} {G : Hp} {T : TT}
/-! rounds -/
noncomputable def rn (T : TT) (a : AS) : Nat → AS
  | 0 => a
  | i + 1 => eRd T (rn T a i)
theorem rn_w (w : WT T) (hw : WA T a) : ∀ i, WA T (rn T a i)
  | 0 => hw
  | i + 1 => WA_eRn (rn_w w hw i) w _
theorem rn_s {i : Int} (h : 0 ≤ i) : rn T a (i + 1).toNat = eRd T (rn T a i.toNat) := by rw [toN1 h, rn]
def RS (T : TT) (a : AS) (r : Int) : Prop := (r = -1 ∧ ∀ i : Nat, i ≤ 30 → ¬ AE (rn T a (i + 1)) (rn T a i)) ∨ (0 ≤ r ∧ r ≤ 30 ∧ AE (rn T a (r.toNat + 1)) (rn T a r.toNat) ∧ ∀ i : Nat, (i : Int) < r → ¬ AE (rn T a (i + 1)) (rn T a i))
theorem RS_u {r r' : Int} (h : RS T a r) (h' : RS T a r') : r = r' := by
  rcases h with h | h
  · rcases h' with k | k
    · rw [h.1, k.1]
    · exact absurd k.2.2.1 (h.2 r'.toNat (by omega))
  · rcases h' with k | k
    · exact absurd h.2.2.1 (k.2 r.toNat (by omega))
    · rcases Int.lt_trichotomy r r' with z | z | z
      · exact absurd h.2.2.1 (k.2.2.2 r.toNat (by omega))
      · exact z
      · exact absurd k.2.2.1 (h.2.2.2 r'.toNat (by omega))
theorem alike_iff {a' : AS} (h : okv a) (h' : okv a') : (∀ i, i < 130 → lay a i = lay a' i) ↔ AE a a' := by
  constructor
  · intro e
    have hi : ∀ n : Int, 0 ≤ n → n < 8 → isi a n = isi a' n := fun n h1 h2 => by rw [← lay_in h1 h2, ← lay_in h1 h2]; exact e _ (by omega)
    refine ⟨?_, fun n k => ?_, fun n => ?_, fun n k => ?_, fun k => ?_⟩
    · refine v_ext h.1 (by have := h.2; omega) h'.1 (by have := h'.2; omega) (fun m hm => ?_)
      rcases Nat.lt_or_ge m 8 with c | c
      · have := hi m (by omega) (by omega)
        rw [isi_bt (by omega) (by omega), isi_bt (by omega) (by omega), Int.toNat_natCast] at this
        rw [this]
      · rw [bt_low h.1 (n := 8) (by have := h.2; omega) c, bt_low h'.1 (n := 8) (by have := h'.2; omega) c]
    · by_cases c : 0 ≤ n ∧ n < 8 ∧ 0 ≤ k ∧ k < 4
      · rw [← lay_lst c.1 c.2.1 c.2.2.1 c.2.2.2, ← lay_lst c.1 c.2.1 c.2.2.1 c.2.2.2]; exact e _ (by omega)
      · unfold lst; rw [if_neg c, if_neg c]
    · by_cases c : 0 ≤ n ∧ n < 8
      · rw [← lay_ahd c.1 c.2, ← lay_ahd c.1 c.2]; exact e _ (by omega)
      · unfold ahd; rw [if_neg c, if_neg c]
    · by_cases c : 0 ≤ n ∧ n < 8 ∧ 0 ≤ k ∧ k < 8
      · rw [← lay_fng c.1 c.2.1 c.2.2.1 c.2.2.2, ← lay_fng c.1 c.2.1 c.2.2.1 c.2.2.2]; exact e _ (by omega)
      · unfold fng; rw [if_neg c, if_neg c]
    · by_cases c : 0 ≤ k ∧ k < 10
      · rw [← lay_hld c.1 c.2, ← lay_hld c.1 c.2]; exact e _ (by omega)
      · unfold hld; rw [if_neg c, if_neg c]
  · intro e i _
    unfold lay
    simp only [e.i, e.n, e.2.1, e.2.2.1, e.2.2.2.1, e.2.2.2.2]
theorem m_areAlike {a' : AS} {p q : Nat} (hp : p ≤ 3410) (hq : q ≤ 3410) (h1 : MR p a G) (h2 : MR q a' G) (k1 : okv a) (k2 : okv a') : WP (fX12_areAlike 111 p q G) (fun r G' => G' = G ∧ ((r = 1 ∧ AE a a') ∨ (r = 0 ∧ ¬ AE a a'))) := by
  unfold fX12_areAlike
  simp only [rf_111_17]
  refine w_bd (fun v1 hv1 => ?_)
  refine w_bd (fun v2 hv2 => ?_)
  refine w_lpII (fun (v3 : Int) (v4 : Int) => (0 ≤ v4) ∧ (v4 ≤ 130) ∧ ((v3 = 1 ∧ ∀ i : Nat, (i : Int) < v4 → lay a i = lay a' i) ∨ (v3 = 0 ∧ ∃ i : Nat, i < 130 ∧ lay a i ≠ lay a' i))) (fun (v3 : Int) (v4 : Int) => (130 - v4).toNat) (fun rc5 v3 v4 hI hrc5 => ?_) _ _ ?_ ?_
  · skip
    obtain ⟨i0, i1, st⟩ := hI
    have r1 : v4 < 130 → G 123 ((p : Int) + v4).toNat = lay a v4.toNat := fun z => by rw [show ((p : Int) + v4).toNat = p + v4.toNat by omega]; exact h1 _ (by omega)
    have r2 : v4 < 130 → G 123 ((q : Int) + v4).toNat = lay a' v4.toNat := fun z => by rw [show ((q : Int) + v4).toNat = q + v4.toNat by omega]; exact h2 _ (by omega)
    refine w_ite (fun c_1 => ?_) (fun c_1 => ?_)
    · skip
      refine w_jn ?_
      refine w_jn ?_
      refine w_ite (fun c_2 => ?_) (fun c_2 => ?_)
      · skip
        refine w_bd (fun v8 hv8 => ?_)
        refine w_bd (fun v9 hv9 => ?_)
        simp (disch := omega) only [iadd_id, isub_id, imul_id] at hv9
        refine hrc5 _ _ ?_ ?_
        · try dsimp only
          refine ⟨?_, ?_, ?_⟩
          · first | omega | grind
          · first | omega | grind
          · rw [hv9]
            first
            | (left; rcases st with ⟨s1, s2⟩ | z
               · refine ⟨hv8, fun i x => ?_⟩
                 by_cases u : (i : Int) = v4
                 · rw [show i = v4.toNat by omega, ← r1 (by omega), ← r2 (by omega), ← hv11, ← hv12]; assumption
                 · exact s2 i (by omega)
               · omega)
            | (right; refine ⟨hv8, ?_⟩
               rcases st with ⟨s1, s2⟩ | z
               · first
                 | (exfalso; omega)
                 | exact ⟨v4.toNat, by omega, by rw [← r1 (by omega), ← r2 (by omega), ← hv11, ← hv12]; assumption⟩
               · exact z.2)
        · try dsimp only
          omega
      · skip
        try rw [show iadd p v4 = (p + v4) by simp (disch := omega) only [iadd_id, isub_id, imul_id]]
        refine w_rd (by omega) (by omega) (fun v11 hv11 => ?_)
        try rw [show iadd q v4 = (q + v4) by simp (disch := omega) only [iadd_id, isub_id, imul_id]]
        refine w_rd (by omega) (by omega) (fun v12 hv12 => ?_)
        refine w_ite (fun c_3 => ?_) (fun c_3 => ?_)
        · skip
          refine w_bd (fun v8 hv8 => ?_)
          refine w_bd (fun v9 hv9 => ?_)
          simp (disch := omega) only [iadd_id, isub_id, imul_id] at hv9
          refine hrc5 _ _ ?_ ?_
          · try dsimp only
            refine ⟨?_, ?_, ?_⟩
            · first | omega | grind
            · first | omega | grind
            · rw [hv9]
              first
              | (left; rcases st with ⟨s1, s2⟩ | z
                 · refine ⟨hv8, fun i x => ?_⟩
                   by_cases u : (i : Int) = v4
                   · rw [show i = v4.toNat by omega, ← r1 (by omega), ← r2 (by omega), ← hv11, ← hv12]; assumption
                   · exact s2 i (by omega)
                 · omega)
              | (right; refine ⟨hv8, ?_⟩
                 rcases st with ⟨s1, s2⟩ | z
                 · first
                   | (exfalso; omega)
                   | exact ⟨v4.toNat, by omega, by rw [← r1 (by omega), ← r2 (by omega), ← hv11, ← hv12]; assumption⟩
                 · exact z.2)
          · try dsimp only
            omega
        · skip
          refine w_bd (fun v8 hv8 => ?_)
          refine w_bd (fun v9 hv9 => ?_)
          simp (disch := omega) only [iadd_id, isub_id, imul_id] at hv9
          refine hrc5 _ _ ?_ ?_
          · try dsimp only
            refine ⟨?_, ?_, ?_⟩
            · first | omega | grind
            · first | omega | grind
            · rw [hv9]
              first
              | (left; rcases st with ⟨s1, s2⟩ | z
                 · refine ⟨hv8, fun i x => ?_⟩
                   by_cases u : (i : Int) = v4
                   · rw [show i = v4.toNat by omega, ← r1 (by omega), ← r2 (by omega), ← hv11, ← hv12]; assumption
                   · exact s2 i (by omega)
                 · omega)
              | (right; refine ⟨hv8, ?_⟩
                 rcases st with ⟨s1, s2⟩ | z
                 · first
                   | (exfalso; omega)
                   | exact ⟨v4.toNat, by omega, by rw [← r1 (by omega), ← r2 (by omega), ← hv11, ← hv12]; assumption⟩
                 · exact z.2)
          · try dsimp only
            omega
    · skip
      refine w_rz (by rcases st with z | z <;> omega) ?_
      refine ⟨rfl, ?_⟩
      rcases st with ⟨s1, s2⟩ | ⟨s1, i, i1, i2⟩
      · left; exact ⟨s1, (alike_iff k1 k2).mp (fun i hi => s2 i (by omega))⟩
      · right; exact ⟨s1, fun z => i2 ((alike_iff k1 k2).mpr z i i1)⟩
  · try dsimp only
    refine ⟨?_, ?_, ?_⟩
    · first | omega | (subst_vars; first | rfl | assumption) | assumption
    · first | omega | (subst_vars; first | rfl | assumption) | assumption
    · left; exact ⟨hv1, fun i x => by omega⟩
  · try dsimp only
    omega

theorem x_roundsTillRest (w : WT T) (hw : WA T a) (hA_G : XA 27 a G) (hT_G : XT T G) : WP (fX9_roundsTillRest 34 G) (fun r G' => FT G G' ∧ XA 27 a G' ∧ RS T a r) := by
  have wr := w.rg
  unfold fX9_roundsTillRest
  simp only [rf_34_1, rf_34_2, rf_34_4, rf_34_5]
  refine w_bn (x_copyFrom (q := 35) (p := 27) rf35 rf27 (by omega) (by omega) (by omega) hA_G) (fun _ G1 q1 => ?_)
  obtain ⟨f1, g1, x1⟩ := q1
  have A1 : XA 27 a G1 := hA_G.fr (f1 27 (by decide) (by decide)) (f1 28 (by decide) (by decide))
  have FT1 : FT G G1 := FT.c (q := 35) (by omega) f1
  refine w_bd (fun v2 hv2 => ?_)
  refine w_bd (fun v3 hv3 => ?_)
  refine w_lpIIH (fun (v4 : Int) (v5 : Int) (G6 : Hp) => (0 ≤ v5) ∧ (v5 ≤ 31) ∧ (FT G G6) ∧ (XA 35 a G6) ∧ (XA 27 (rn T a v5.toNat) G6) ∧ ((v4 = -1 ∧ ∀ i : Nat, (i : Int) < v5 → ¬ AE (rn T a (i + 1)) (rn T a i)) ∨ (0 ≤ v4 ∧ RS T a v4))) (fun (v4 : Int) (v5 : Int) (G6 : Hp) => (31 - v5).toNat) (fun rc7 v4 v5 G6 hI hrc7 => ?_) _ _ _ ?_ ?_
  · skip
    obtain ⟨i0, i1, f6, k6, x6, st⟩ := hI
    refine w_jn ?_
    refine w_ite (fun c_1 => ?_) (fun c_1 => ?_)
    · skip
      refine w_bn (x_copyFrom (q := 27) (p := 35) rf27 rf35 (by omega) (by omega) (by omega) k6) (fun _ G9 q9 => ?_)
      obtain ⟨f9, g9, x9⟩ := q9
      refine w_rt ?_
      refine ⟨f6.tr (FT.c (q := 27) (by omega) f9), x9, ?_⟩
      rcases st with z | z
      · first | exact Or.inl ⟨z.1, fun i hi => z.2 i (by omega)⟩ | (exfalso; omega)
      · exact z.2
    · skip
      refine w_ite (fun c_2 => ?_) (fun c_2 => ?_)
      · skip
        refine w_bn (x_copyFrom (q := 37) (p := 27) rf37 rf27 (by omega) (by omega) (by omega) x6) (fun _ G11 q11 => ?_)
        obtain ⟨f11, g11, b11⟩ := q11
        have x11 : XA 27 (rn T a v5.toNat) G11 := x6.fr (f11 27 (by decide) (by decide)) (f11 28 (by decide) (by decide))
        have F11 : FT G G11 := f6.tr (FT.c (q := 37) (by omega) f11)
        refine w_bn (x_doRound w (rn_w w hw v5.toNat) x11 (F11.t hT_G)) (fun _ G12 q12 => ?_)
        obtain ⟨f12, x12⟩ := q12
        have b12 : XA 37 (rn T a v5.toNat) G12 := b11.fr (f12 37 (by decide) (by decide) (by decide) (by decide) (by decide)) (f12 38 (by decide) (by decide) (by decide) (by decide) (by decide))
        have k12 : XA 35 a G12 := k6.fr (by rw [f12 35 (by decide) (by decide) (by decide) (by decide) (by decide), f11 35 (by decide) (by decide)]) (by rw [f12 36 (by decide) (by decide) (by decide) (by decide) (by decide), f11 36 (by decide) (by decide)])
        refine w_bpq (x_isLike (p := 27) (q := 37) rf37 rf27 x12 b12) (fun v13 g13 q13 => ?_)
        replace q13 := q13.2
        refine w_jn ?_
        refine w_ite (fun c_3 => ?_) (fun c_3 => ?_)
        · skip
          refine w_bd (fun v16 hv16 => ?_)
          simp (disch := omega) only [iadd_id, isub_id, imul_id] at hv16
          refine hrc7 _ _ _ ?_ ?_
          · try dsimp only
            refine ⟨?_, ?_, ?_, ?_, ?_, ?_⟩
            · first | omega | grind
            · first | omega | grind
            · exact F11.tr (FT.d f12)
            · exact k12
            · rw [hv16, rn_s i0]; exact x12
            · rw [hv16]
              have s2 := st.resolve_right (fun z => by omega)
              have e1 : rn T a (v5.toNat + 1) = eRd T (rn T a v5.toNat) := rfl
              first
              | (right; rcases q13 with z | z
                 · rw [hv17]; exact ⟨i0, Or.inr ⟨i0, by omega, by rw [e1]; exact z.2, s2.2⟩⟩
                 · omega)
              | (left; refine ⟨s2.1, fun i x => ?_⟩
                 by_cases u : (i : Int) = v5
                 · rcases q13 with z | z
                   · omega
                   · rw [show i = v5.toNat by omega, e1]; exact z.2
                 · exact s2.2 i (by omega))
          · try dsimp only
            omega
        · skip
          refine w_bd (fun v17 hv17 => ?_)
          refine w_bd (fun v16 hv16 => ?_)
          simp (disch := omega) only [iadd_id, isub_id, imul_id] at hv16
          refine hrc7 _ _ _ ?_ ?_
          · try dsimp only
            refine ⟨?_, ?_, ?_, ?_, ?_, ?_⟩
            · first | omega | grind
            · first | omega | grind
            · exact F11.tr (FT.d f12)
            · exact k12
            · rw [hv16, rn_s i0]; exact x12
            · rw [hv16]
              have s2 := st.resolve_right (fun z => by omega)
              have e1 : rn T a (v5.toNat + 1) = eRd T (rn T a v5.toNat) := rfl
              first
              | (right; rcases q13 with z | z
                 · rw [hv17]; exact ⟨i0, Or.inr ⟨i0, by omega, by rw [e1]; exact z.2, s2.2⟩⟩
                 · omega)
              | (left; refine ⟨s2.1, fun i x => ?_⟩
                 by_cases u : (i : Int) = v5
                 · rcases q13 with z | z
                   · omega
                   · rw [show i = v5.toNat by omega, e1]; exact z.2
                 · exact s2.2 i (by omega))
          · try dsimp only
            omega
      · skip
        refine w_bn (x_copyFrom (q := 27) (p := 35) rf27 rf35 (by omega) (by omega) (by omega) k6) (fun _ G9 q9 => ?_)
        obtain ⟨f9, g9, x9⟩ := q9
        refine w_rt ?_
        refine ⟨f6.tr (FT.c (q := 27) (by omega) f9), x9, ?_⟩
        rcases st with z | z
        · first | exact Or.inl ⟨z.1, fun i hi => z.2 i (by omega)⟩ | (exfalso; omega)
        · exact z.2
  · try dsimp only
    refine ⟨?_, ?_, ?_, ?_, ?_, ?_⟩
    · first | omega | (subst_vars; first | rfl | assumption) | assumption
    · first | omega | (subst_vars; first | rfl | assumption) | assumption
    · exact FT1
    · exact x1
    · rw [hv3]; exact A1
    · left; exact ⟨hv2, fun i x => by omega⟩
  · try dsimp only
    omega

theorem m_rests (w : WT T) (hw : WA T a) (hR_G : MR 0 a G) (hM_G : MT T G) : WP (fX12_rests 111 G) (fun r G' => FRS G G' ∧ RS T a r) := by
  have wr := w.rg
  unfold fX12_rests
  refine w_bh (fun G1 hG1 => ?_)
  have hR_G1 : MR 0 a G1 := hR_G.fr (by rw [hG1, up_ne (by decide)])
  have hM_G1 : MT T G1 := hM_G.fr (by rw [hG1, up_ne (by decide)]) (by rw [hG1, up_ne (by decide)])
  refine w_bn (m_copy (s := 0) (t := 3255) (by omega) (by omega) (by omega) hR_G1) (fun _ G2 q2 => ?_)
  obtain ⟨f2, g2, x2, -⟩ := q2
  refine w_bd (fun v3 hv3 => ?_)
  refine w_lpIH (fun (v4 : Int) (G5 : Hp) => (0 ≤ v4) ∧ (v4 ≤ 31) ∧ (FRS G1 G5) ∧ (MR 3255 (rn T a v4.toNat) G5) ∧ (∀ i : Nat, (i : Int) < v4 → ¬ AE (rn T a (i + 1)) (rn T a i))) (fun (v4 : Int) (G5 : Hp) => (31 - v4).toNat) (fun rc6 v4 G5 hI hrc6 => ?_) _ _ ?_ ?_
  · skip
    obtain ⟨i0, i1, f5, x5, st⟩ := hI
    refine w_ite (fun c_1 => ?_) (fun c_1 => ?_)
    · skip
      refine w_rt ?_
      refine ⟨(show FRS G G1 by rw [hG1]; exact FRS.th).tr f5, Or.inl ⟨rfl, fun i hi => st i (by omega)⟩⟩
    · skip
      refine w_bn (m_copy (s := 3255) (t := 3410) (by omega) (by omega) (by omega) x5) (fun _ G7 q7 => ?_)
      obtain ⟨f7, g7, y7, x7⟩ := q7
      have F7 : FRS G1 G7 := f5.tr ⟨fun c _ y _ _ _ => f7 c y, fun k _ _ _ => by rw [f7 111 (by decide)], fun i x => g7 i (by omega)⟩
      refine w_bn (m_rounds (b := 3255) w (rn_w w hw v4.toNat) (by omega) x7 (F7.t hM_G1)) (fun _ G8 q8 => ?_)
      obtain ⟨f8, x8⟩ := q8
      have y8 : MR 3410 (rn T a v4.toNat) G8 := y7.ou (q := 3255) (by omega) f8.2.2
      refine w_bpq (m_areAlike (p := 3255) (q := 3410) (by omega) (by omega) x8 y8 (WA_eRn (rn_w w hw v4.toNat) w _).1 (rn_w w hw v4.toNat).1) (fun v9 g9 q9 => ?_)
      replace q9 := q9.2
      refine w_ite (fun c_2 => ?_) (fun c_2 => ?_)
      · skip
        refine w_bd (fun v10 hv10 => ?_)
        simp (disch := omega) only [iadd_id, isub_id, imul_id] at hv10
        refine hrc6 _ _ ?_ ?_
        · try dsimp only
          refine ⟨?_, ?_, ?_, ?_, ?_⟩
          · first | omega | grind
          · first | omega | grind
          · exact F7.tr (FRS.M (Nat.le_refl _) f8)
          · rw [hv10, rn_s i0]; exact x8
          · intro i x
            by_cases u : (i : Int) = v4
            · rcases q9 with z | z
              · omega
              · rw [show i = v4.toNat by omega]; exact z.2
            · exact st i (by omega)
        · try dsimp only
          omega
      · skip
        refine w_rt ?_
        refine ⟨(show FRS G G1 by rw [hG1]; exact FRS.th).tr (F7.tr (FRS.M (Nat.le_refl _) f8)), Or.inr ⟨i0, by omega, ?_, st⟩⟩
        rcases q9 with z | z
        · exact z.2
        · omega
  · try dsimp only
    refine ⟨?_, ?_, ?_, ?_, ?_⟩
    · first | omega | (subst_vars; first | rfl | assumption) | assumption
    · first | omega | (subst_vars; first | rfl | assumption) | assumption
    · exact ⟨fun c _ y _ _ _ => f2 c y, fun k _ _ _ => by rw [f2 111 (by decide)], fun i x => g2 i (Or.inl x)⟩
    · rw [hv3]; exact x2
    · intro i x; omega
  · try dsimp only
    omega

noncomputable def amB (T : TT) (a : AS) : Int := bits (fun k => isi a k = 1 ∧ fst4 a a.1 k ≠ own T a.1 (tp T k + 1)) 8
noncomputable def beB (T : TT) (a : AS) : Int := bits (fun k => isi a k = 1 ∧ prv T a k ≠ k ∧ ahd a k ≠ prv T a k) 8
noncomputable def asB (T : TT) (a : AS) : Int := bits (fun k => hld a k ≠ -1 ∧ hld a k ≠ own T a.1 (tl T k)) (tK T).toNat
noncomputable def aft (T : TT) (a : AS) (what : Int) : Int := if what = 0 then ordd T a else if what = 1 then amB T a else if what = 2 then beB T a else asB T a
theorem ordd_01 : ordd T a = 0 ∨ ordd T a = 1 := by unfold ordd; split <;> simp
theorem x_afterRounds (w : WT T) (hw : WA T a) (hA_G : XA 27 a G) (hT_G : XT T G) {m what : Int} (hm : 0 ≤ m ∧ m ≤ 30) (hwh : 0 ≤ what ∧ what ≤ 3) : WP (fX9_afterRounds 34 m what G) (fun r G' => FT G G' ∧ XA 27 a G' ∧ r = aft T (rn T a m.toNat) what) := by
  have wr := w.rg
  unfold fX9_afterRounds
  simp only [rf_34_1, rf_34_2, rf_34_3, rf_34_4]
  refine w_bn (x_copyFrom (q := 35) (p := 27) rf35 rf27 (by omega) (by omega) (by omega) hA_G) (fun _ G1 q1 => ?_)
  obtain ⟨f1, g1, x1⟩ := q1
  have A1 : XA 27 a G1 := hA_G.fr (f1 27 (by decide) (by decide)) (f1 28 (by decide) (by decide))
  have FT1 : FT G G1 := FT.c (q := 35) (by omega) f1
  refine w_bd (fun v2 hv2 => ?_)
  refine w_lpIH (fun (v3 : Int) (G4 : Hp) => (0 ≤ v3) ∧ (v3 ≤ m) ∧ (FT G G4) ∧ (XA 35 a G4) ∧ (XA 27 (rn T a v3.toNat) G4)) (fun (v3 : Int) (G4 : Hp) => (30 - v3).toNat) (fun rc5 v3 G4 hI hrc5 => ?_) _ _ ?_ ?_
  · skip
    obtain ⟨i0, i1, f4, k4, x4⟩ := hI
    have hT_G4 := f4.t hT_G
    have w4 := rn_w w hw v3.toNat
    refine w_ite (fun c_1 => ?_) (fun c_1 => ?_)
    · skip
      refine w_bn (x_doRound w w4 x4 hT_G4) (fun _ G23 q23 => ?_)
      obtain ⟨f23, x23⟩ := q23
      refine w_bd (fun v24 hv24 => ?_)
      simp (disch := omega) only [iadd_id, isub_id, imul_id] at hv24
      refine hrc5 _ _ ?_ ?_
      · try dsimp only
        refine ⟨?_, ?_, ?_, ?_, ?_⟩
        · first | omega | grind
        · first | omega | grind
        · exact f4.tr (FT.d f23)
        · exact k4.fr (f23 35 (by decide) (by decide) (by decide) (by decide) (by decide)) (f23 36 (by decide) (by decide) (by decide) (by decide) (by decide))
        · rw [hv24, rn_s i0]; exact x23
      · try dsimp only
        omega
    · skip
      refine w_jn ?_
      refine w_ite (fun c_2 => ?_) (fun c_2 => ?_)
      · skip
        refine w_bp (x_isOrdered w w4 x4 hT_G4) (fun v11 hv11 => ?_)
        have o01 := ordd_01 (T := T) (a := rn T a v3.toNat)
        refine w_jn ?_
        refine w_ite (fun c_3 => ?_) (fun c_3 => ?_)
        · skip
          refine w_bd (fun v14 hv14 => ?_)
          refine w_bn (x_copyFrom (q := 27) (p := 35) rf27 rf35 (by omega) (by omega) (by omega) k4) (fun _ G8 q8 => ?_)
          obtain ⟨f8, g8, x8⟩ := q8
          refine w_rt ?_
          refine ⟨f4.tr (FT.c (q := 27) (by omega) f8), x8, ?_⟩
          rw [show m.toNat = v3.toNat by omega]
          unfold aft; rw [if_pos (by omega)]; omega
        · skip
          refine w_bd (fun v14 hv14 => ?_)
          refine w_bn (x_copyFrom (q := 27) (p := 35) rf27 rf35 (by omega) (by omega) (by omega) k4) (fun _ G8 q8 => ?_)
          obtain ⟨f8, g8, x8⟩ := q8
          refine w_rt ?_
          refine ⟨f4.tr (FT.c (q := 27) (by omega) f8), x8, ?_⟩
          rw [show m.toNat = v3.toNat by omega]
          unfold aft; rw [if_pos (by omega)]; omega
      · skip
        refine w_ite (fun c_4 => ?_) (fun c_4 => ?_)
        · skip
          refine w_bp (x_amissNodes w w4 x4 hT_G4) (fun v16 hv16 => ?_)
          refine w_bd (fun v17 hv17 => ?_)
          refine w_bn (x_copyFrom (q := 27) (p := 35) rf27 rf35 (by omega) (by omega) (by omega) k4) (fun _ G8 q8 => ?_)
          obtain ⟨f8, g8, x8⟩ := q8
          refine w_rt ?_
          refine ⟨f4.tr (FT.c (q := 27) (by omega) f8), x8, ?_⟩
          rw [show m.toNat = v3.toNat by omega]
          unfold aft; rw [if_neg (by omega), if_pos (by omega), hv17, hv16]; rfl
        · skip
          refine w_ite (fun c_5 => ?_) (fun c_5 => ?_)
          · skip
            refine w_bp (x_behindNodes w w4 x4 hT_G4) (fun v19 hv19 => ?_)
            refine w_bd (fun v20 hv20 => ?_)
            refine w_bn (x_copyFrom (q := 27) (p := 35) rf27 rf35 (by omega) (by omega) (by omega) k4) (fun _ G8 q8 => ?_)
            obtain ⟨f8, g8, x8⟩ := q8
            refine w_rt ?_
            refine ⟨f4.tr (FT.c (q := 27) (by omega) f8), x8, ?_⟩
            rw [show m.toNat = v3.toNat by omega]
            unfold aft; rw [if_neg (by omega), if_neg (by omega), if_pos (by omega), hv20, hv19]; rfl
          · skip
            refine w_bp (x_astrayKeys w w4 x4 hT_G4) (fun v21 hv21 => ?_)
            refine w_bd (fun v22 hv22 => ?_)
            refine w_bn (x_copyFrom (q := 27) (p := 35) rf27 rf35 (by omega) (by omega) (by omega) k4) (fun _ G8 q8 => ?_)
            obtain ⟨f8, g8, x8⟩ := q8
            refine w_rt ?_
            refine ⟨f4.tr (FT.c (q := 27) (by omega) f8), x8, ?_⟩
            rw [show m.toNat = v3.toNat by omega]
            unfold aft; rw [if_neg (by omega), if_neg (by omega), if_neg (by omega), hv22, hv21]; rfl
  · try dsimp only
    refine ⟨?_, ?_, ?_, ?_, ?_⟩
    · first | omega | (subst_vars; first | rfl | assumption) | assumption
    · first | omega | (subst_vars; first | rfl | assumption) | assumption
    · exact FT1
    · exact x1
    · rw [hv2]; exact A1
  · try dsimp only
    omega

theorem m_after (w : WT T) (hw : WA T a) (hR_G : MR 0 a G) (hM_G : MT T G) {m what : Int} : WP (fX12_after 111 m what G) (fun r G' => FRS G G' ∧ r = if (0 ≤ m ∧ m ≤ 30) ∧ 0 ≤ what ∧ what ≤ 3 then aft T (rn T a m.toNat) what else -1) := by
  have wr := w.rg
  unfold fX12_after
  refine w_bh (fun G1 hG1 => ?_)
  have hR_G1 : MR 0 a G1 := hR_G.fr (by rw [hG1, up_ne (by decide)])
  have hM_G1 : MT T G1 := hM_G.fr (by rw [hG1, up_ne (by decide)]) (by rw [hG1, up_ne (by decide)])
  refine w_bp (m_within) (fun v2 hv2 => ?_)
  have qv2 : ((0 ≤ m ∧ m ≤ 30) ∧ v2 = 1) ∨ (¬ (0 ≤ m ∧ m ≤ 30) ∧ v2 = 0) := by rw [hv2]; exact ite01 _
  refine w_ite (fun c_1 => ?_) (fun c_1 => ?_)
  · skip
    refine w_rt ?_
    exact ⟨by rw [hG1]; exact FRS.th, by rw [if_neg (by omega)]⟩
  · skip
    refine w_bp (m_within) (fun v3 hv3 => ?_)
    have qv3 : ((0 ≤ what ∧ what ≤ 3) ∧ v3 = 1) ∨ (¬ (0 ≤ what ∧ what ≤ 3) ∧ v3 = 0) := by rw [hv3]; exact ite01 _
    refine w_ite (fun c_2 => ?_) (fun c_2 => ?_)
    · skip
      refine w_rt ?_
      exact ⟨by rw [hG1]; exact FRS.th, by rw [if_neg (by omega)]⟩
    · skip
      refine w_bn (m_copy (s := 0) (t := 3255) (by omega) (by omega) (by omega) hR_G1) (fun _ G4 q4 => ?_)
      obtain ⟨f4, g4, x4, -⟩ := q4
      refine w_bd (fun v5 hv5 => ?_)
      refine w_lpIH (fun (v6 : Int) (G7 : Hp) => (0 ≤ v6) ∧ (v6 ≤ m) ∧ (FRS G1 G7) ∧ (MR 3255 (rn T a v6.toNat) G7)) (fun (v6 : Int) (G7 : Hp) => (30 - v6).toNat) (fun rc8 v6 G7 hI hrc8 => ?_) _ _ ?_ ?_
      · skip
        obtain ⟨i0, i1, f7, x7⟩ := hI
        have hM_G7 := f7.t hM_G1
        have w7 := rn_w w hw v6.toNat
        refine w_ite (fun c_3 => ?_) (fun c_3 => ?_)
        · skip
          refine w_bn (m_rounds (b := 3255) w w7 (by omega) x7 hM_G7) (fun _ G13 q13 => ?_)
          obtain ⟨f13, x13⟩ := q13
          refine w_bd (fun v14 hv14 => ?_)
          simp (disch := omega) only [iadd_id, isub_id, imul_id] at hv14
          refine hrc8 _ _ ?_ ?_
          · try dsimp only
            refine ⟨?_, ?_, ?_, ?_⟩
            · first | omega | grind
            · first | omega | grind
            · exact f7.tr (FRS.M (Nat.le_refl _) f13)
            · rw [hv14, rn_s i0]; exact x13
          · try dsimp only
            omega
        · skip
          refine w_ite (fun c_4 => ?_) (fun c_4 => ?_)
          · skip
            refine w_bp (m_isOrdered w w7 (b := 3255) (by omega) x7 hM_G7) (fun v12 hv12 => ?_)
            have o01 := ordd_01 (T := T) (a := rn T a v6.toNat)
            refine w_ite (fun c_5 => ?_) (fun c_5 => ?_)
            · skip
              refine w_rt ?_
              refine ⟨(show FRS G G1 by rw [hG1]; exact FRS.th).tr f7, ?_⟩
              rw [if_pos (by omega), show m.toNat = v6.toNat by omega]
              unfold aft; rw [if_pos (by omega)]; omega
            · skip
              refine w_rt ?_
              refine ⟨(show FRS G G1 by rw [hG1]; exact FRS.th).tr f7, ?_⟩
              rw [if_pos (by omega), show m.toNat = v6.toNat by omega]
              unfold aft; rw [if_pos (by omega)]; omega
          · skip
            refine w_ite (fun c_6 => ?_) (fun c_6 => ?_)
            · skip
              refine w_bp (m_amissBy w w7 (b := 3255) (by omega) x7 hM_G7) (fun v11 hv11 => ?_)
              refine w_rt ?_
              refine ⟨(show FRS G G1 by rw [hG1]; exact FRS.th).tr f7, ?_⟩
              rw [if_pos (by omega), show m.toNat = v6.toNat by omega]
              unfold aft; rw [if_neg (by omega), if_pos (by omega), hv11]; rfl
            · skip
              refine w_ite (fun c_7 => ?_) (fun c_7 => ?_)
              · skip
                refine w_bp (m_behindBy w w7 (b := 3255) (by omega) x7 hM_G7) (fun v10 hv10 => ?_)
                refine w_rt ?_
                refine ⟨(show FRS G G1 by rw [hG1]; exact FRS.th).tr f7, ?_⟩
                rw [if_pos (by omega), show m.toNat = v6.toNat by omega]
                unfold aft; rw [if_neg (by omega), if_neg (by omega), if_pos (by omega), hv10]; rfl
              · skip
                refine w_bp (m_astrayBy w w7 (b := 3255) (by omega) x7 hM_G7) (fun v9 hv9 => ?_)
                refine w_rt ?_
                refine ⟨(show FRS G G1 by rw [hG1]; exact FRS.th).tr f7, ?_⟩
                rw [if_pos (by omega), show m.toNat = v6.toNat by omega]
                unfold aft; rw [if_neg (by omega), if_neg (by omega), if_neg (by omega), hv9]; rfl
      · try dsimp only
        refine ⟨?_, ?_, ?_, ?_⟩
        · first | omega | (subst_vars; first | rfl | assumption) | assumption
        · first | omega | (subst_vars; first | rfl | assumption) | assumption
        · exact ⟨fun c _ y _ _ _ => f4 c y, fun k _ _ _ => by rw [f4 111 (by decide)], fun i x => g4 i (Or.inl x)⟩
        · rw [hv5]; exact x4
      · try dsimp only
        omega

end TRI
