section LOO
variable {b : Nat} {a : AS} {G : Hp} {T : TT}
/-! what asking leaves as it was -/
def FRS (G G' : Hp) : Prop := (∀ c, c ≠ 111 → c ≠ 123 → c ≠ 126 → c ≠ 127 → c ≠ 128 → G' c = G c) ∧ (∀ k, k ≠ 0 → k ≠ 21 → k ≠ 25 → G' 111 k = G 111 k) ∧ (∀ i, i < 3255 → G' 123 i = G 123 i)
theorem FRS.rf (G : Hp) : FRS G G := ⟨fun _ _ _ _ _ _ => rfl, fun _ _ _ _ => rfl, fun _ _ => rfl⟩
theorem FRS.tr {G1 G2 : Hp} (h : FRS G G1) (k : FRS G1 G2) : FRS G G2 := ⟨fun c x y z u v => (k.1 c x y z u v).trans (h.1 c x y z u v), fun j x y z => (k.2.1 j x y z).trans (h.2.1 j x y z), fun i x => (k.2.2 i x).trans (h.2.2 i x)⟩
theorem FRS.th : FRS G (up G 111 0 0) := ⟨fun c x _ _ _ _ => up_ne x, fun k x _ _ => by rw [up_at, if_neg (by omega)], fun i _ => by rw [up_ne (by decide)]⟩
theorem FRS.M {G' : Hp} {q : Nat} (hq : 3255 ≤ q) (h : FRM q G G') : FRS G G' := ⟨fun c x y z u _ => h.1 c x y z u, fun k _ x _ => h.2.1 k x, fun i x => h.2.2 i (Or.inl (by omega))⟩
theorem FRS.t {G' : Hp} (h : FRS G G') (k : MT T G) : MT T G' := k.fr (h.1 117 (by decide) (by decide) (by decide) (by decide) (by decide)) (h.1 125 (by decide) (by decide) (by decide) (by decide) (by decide))
theorem MR.lo {G' : Hp} (h : MR b a G) (hb : b + 130 ≤ 3255) (k : ∀ i, i < 3255 → G' 123 i = G 123 i) : MR b a G' := fun i hi => by rw [k _ (by omega)]; exact h i hi
theorem MR.ou {G' : Hp} {q : Nat} (h : MR b a G) (hb : b + 130 ≤ q ∨ q + 130 ≤ b) (k : ∀ i, i < q ∨ q + 130 ≤ i → G' 123 i = G 123 i) : MR b a G' := fun i hi => by rw [k _ (by omega)]; exact h i hi
/-! far ways, toil -/
def frS (T : TT) (a : AS) (n : Int) : Nat → Int
  | 0 => 0
  | k + 1 => if skf T a n (tl T k) ≠ -1 ∧ frS T a n k < skt T a n (tl T k) then skt T a n (tl T k) else frS T a n k
theorem frS_s {n k : Int} (h : 0 ≤ k) : frS T a n (k + 1).toNat = if skf T a n (tl T k) ≠ -1 ∧ frS T a n k.toNat < skt T a n (tl T k) then skt T a n (tl T k) else frS T a n k.toNat := by
  rw [toN1 h, frS]; simp only [Int.toNat_of_nonneg h]
noncomputable def toi (T : TT) (a : AS) (n : Int) : Nat → Int := smS (fun k => skf T a n (tl T k) ≠ -1) (fun k => skt T a n (tl T k))
theorem m_stepsTo (w : WT T) (hw : WA T a) (hb : b ≤ 3410) (hR_G : MR b a G) (hM_G : MT T G) {n p : Int} (h1 : 0 ≤ n) (h2 : n < tN T) (hp : 0 ≤ p ∧ p ≤ 1000) : WP (fX12_stepsTo 111 b n p G) (fun r G' => (∀ c, c ≠ 111 → c ≠ 126 → G' c = G c) ∧ (∀ k, k ≠ 21 → G' 111 k = G 111 k) ∧ ((skf T a n p = -1 ∧ r = -1) ∨ (skf T a n p ≠ -1 ∧ r = skt T a n p)) ∧ ∀ j : Int, 0 ≤ j → j < skt T a n p → G' 126 j.toNat = skN T a p n (j.toNat + 1)) := by
  unfold fX12_stepsTo
  refine w_bn (m_finds w hw hb hR_G hM_G h1 h2 hp) (fun v1 G2 q => ?_)
  obtain ⟨f, g, e1, e2, e3⟩ := q
  have s := (skf_r hw w n p).1
  refine w_bd (fun v3 hv3 => ?_)
  refine w_ite (fun c => ?_) (fun c => ?_)
  · exact w_rt ⟨f, g, Or.inl ⟨by omega, rfl⟩, e3⟩
  · exact w_rt ⟨f, g, Or.inr ⟨by omega, e2⟩, e3⟩
theorem x_mostSteps (w : WT T) (hw : WA T a) (hA_G : XA 27 a G) (hT_G : XT T G) {n : Int} (hn : isi a n = 1) : WP (fX2_mostSteps 33 n G) (fun r G' => (∀ c, c ≠ 29 → c ≠ 30 → G' c = G c) ∧ r = frS T a n (tK T).toNat) := by
  have wr := w.rg
  unfold fX2_mostSteps
  simp only [rf_4_8, rf_33_0, rf_33_2]
  refine w_bd (fun v1 hv1 => ?_)
  refine w_bd (fun v2 hv2 => ?_)
  refine w_lpIIH (fun (v3 : Int) (v4 : Int) (G5 : Hp) => (0 ≤ v4) ∧ (v4 ≤ tK T) ∧ (∀ c, c ≠ 29 → c ≠ 30 → G5 c = G c) ∧ (0 ≤ v3 ∧ v3 ≤ 20) ∧ (v3 = frS T a n v4.toNat)) (fun (v3 : Int) (v4 : Int) (G5 : Hp) => (10 - v4).toNat) (fun rc6 v3 v4 G5 hI hrc6 => ?_) _ _ _ ?_ ?_
  · skip
    obtain ⟨i0, i1, f5, bz, e⟩ := hI
    have hA_G5 : XA 27 a G5 := hA_G.fr (f5 27 (by decide) (by decide)) (f5 28 (by decide) (by decide))
    have hT_G5 : XT T G5 := (FRD.of f5).tt hT_G
    have k3 : G5 4 3 = tK T := hT_G5.2.2.2.1
    refine w_ite (fun c_1 => ?_) (fun c_1 => ?_)
    · skip
      refine w_rdv (x_lie hT_G5 w (by omega) (by omega)) (fun v7 hv7 => ?_)
      have qv7 := w.li (i := v4) (by omega) (by omega)
      refine w_bn (x_seek2 w hw hA_G5 hT_G5 (n := n) (p := v7)) (fun v8 G9 q9 => ?_)
      obtain ⟨f9, sy9, sn9⟩ := q9
      have sk9 := sy9 (by rw [hv7]; exact ⟨hn, hw.tlC w hn (by omega) (by omega)⟩)
      rw [hv7] at sk9
      have sr9 := skf_r hw w n (tl T v4)
      refine w_jn ?_
      refine w_ite (fun c_2 => ?_) (fun c_2 => ?_)
      · skip
        refine w_bd (fun v12 hv12 => ?_)
        simp (disch := omega) only [iadd_id, isub_id, imul_id] at hv12
        refine hrc6 _ _ _ ?_ ?_
        · try dsimp only
          refine ⟨?_, ?_, ?_, ?_, ?_⟩
          · first | omega | grind
          · first | omega | grind
          · intro c x y; rw [f9 c x y]; exact f5 c x y
          · first | omega | (split at hv13 <;> omega)
          · rw [hv12, frS_s i0]
            first
            | (rw [if_neg (by omega)]; exact e)
            | (have m13 : (v3 < G9 29 4 ∧ v13 = G9 29 4) ∨ (¬ v3 < G9 29 4 ∧ v13 = v3) := by
                 by_cases z : v3 < G9 29 4
                 · exact Or.inl ⟨z, hv13.trans (if_pos z)⟩
                 · exact Or.inr ⟨z, hv13.trans (if_neg z)⟩
               rcases m13 with z | z
               · rw [if_pos (by omega)]; omega
               · rw [if_neg (by omega)]; omega)
        · try dsimp only
          omega
      · skip
        refine w_bd (fun v13 hv13 => ?_)
        refine w_bd (fun v12 hv12 => ?_)
        simp (disch := omega) only [iadd_id, isub_id, imul_id] at hv12
        refine hrc6 _ _ _ ?_ ?_
        · try dsimp only
          refine ⟨?_, ?_, ?_, ?_, ?_⟩
          · first | omega | grind
          · first | omega | grind
          · intro c x y; rw [f9 c x y]; exact f5 c x y
          · first | omega | (split at hv13 <;> omega)
          · rw [hv12, frS_s i0]
            first
            | (rw [if_neg (by omega)]; exact e)
            | (have m13 : (v3 < G9 29 4 ∧ v13 = G9 29 4) ∨ (¬ v3 < G9 29 4 ∧ v13 = v3) := by
                 by_cases z : v3 < G9 29 4
                 · exact Or.inl ⟨z, hv13.trans (if_pos z)⟩
                 · exact Or.inr ⟨z, hv13.trans (if_neg z)⟩
               rcases m13 with z | z
               · rw [if_pos (by omega)]; omega
               · rw [if_neg (by omega)]; omega)
        · try dsimp only
          omega
    · skip
      refine w_rt ?_
      exact ⟨f5, by rw [e, show v4.toNat = (tK T).toNat by omega]⟩
  · try dsimp only
    refine ⟨?_, ?_, ?_, ?_, ?_⟩
    · first | omega | (subst_vars; first | rfl | assumption) | assumption
    · first | omega | (subst_vars; first | rfl | assumption) | assumption
    · intro c x y; rfl
    · first | omega | (subst_vars; first | rfl | assumption) | assumption
    · rw [hv2, hv1]; rfl
  · try dsimp only
    omega

theorem x_allSteps (w : WT T) (hw : WA T a) (hA_G : XA 27 a G) (hT_G : XT T G) {n : Int} (hn : isi a n = 1) : WP (fX2_allSteps 33 n G) (fun r G' => (∀ c, c ≠ 29 → c ≠ 30 → G' c = G c) ∧ r = toi T a n (tK T).toNat) := by
  have wr := w.rg
  unfold fX2_allSteps
  simp only [rf_4_8, rf_33_0, rf_33_2]
  refine w_bd (fun v1 hv1 => ?_)
  refine w_bd (fun v2 hv2 => ?_)
  refine w_lpIIH (fun (v3 : Int) (v4 : Int) (G5 : Hp) => (0 ≤ v4) ∧ (v4 ≤ tK T) ∧ (∀ c, c ≠ 29 → c ≠ 30 → G5 c = G c) ∧ (0 ≤ v3 ∧ v3 ≤ 20 * v4) ∧ (v3 = toi T a n v4.toNat)) (fun (v3 : Int) (v4 : Int) (G5 : Hp) => (10 - v4).toNat) (fun rc6 v3 v4 G5 hI hrc6 => ?_) _ _ _ ?_ ?_
  · skip
    obtain ⟨i0, i1, f5, bz, e⟩ := hI
    have hA_G5 : XA 27 a G5 := hA_G.fr (f5 27 (by decide) (by decide)) (f5 28 (by decide) (by decide))
    have hT_G5 : XT T G5 := (FRD.of f5).tt hT_G
    have k3 : G5 4 3 = tK T := hT_G5.2.2.2.1
    refine w_ite (fun c_1 => ?_) (fun c_1 => ?_)
    · skip
      refine w_rdv (x_lie hT_G5 w (by omega) (by omega)) (fun v7 hv7 => ?_)
      have qv7 := w.li (i := v4) (by omega) (by omega)
      refine w_bn (x_seek2 w hw hA_G5 hT_G5 (n := n) (p := v7)) (fun v8 G9 q9 => ?_)
      obtain ⟨f9, sy9, sn9⟩ := q9
      have sk9 := sy9 (by rw [hv7]; exact ⟨hn, hw.tlC w hn (by omega) (by omega)⟩)
      rw [hv7] at sk9
      have sr9 := skf_r hw w n (tl T v4)
      refine w_jn ?_
      refine w_ite (fun c_2 => ?_) (fun c_2 => ?_)
      · skip
        refine w_bd (fun v12 hv12 => ?_)
        simp (disch := omega) only [iadd_id, isub_id, imul_id] at hv12
        refine hrc6 _ _ _ ?_ ?_
        · try dsimp only
          refine ⟨?_, ?_, ?_, ?_, ?_⟩
          · first | omega | grind
          · first | omega | grind
          · intro c x y; rw [f9 c x y]; exact f5 c x y
          · first | omega | (split at hv13 <;> omega)
          · unfold toi; rw [hv12]; first | (rw [smS_f (p := fun k => skf T a n (tl T k) ≠ -1) i0 (fun z => z (by omega))]; exact e) | (rw [smS_t (p := fun k => skf T a n (tl T k) ≠ -1) i0 (show skf T a n (tl T v4) ≠ -1 by omega), hv13, e, sk9.2.1]; rfl)
        · try dsimp only
          omega
      · skip
        refine w_bd (fun v13 hv13 => ?_)
        simp (disch := omega) only [iadd_id, isub_id, imul_id] at hv13
        refine w_bd (fun v12 hv12 => ?_)
        simp (disch := omega) only [iadd_id, isub_id, imul_id] at hv12
        refine hrc6 _ _ _ ?_ ?_
        · try dsimp only
          refine ⟨?_, ?_, ?_, ?_, ?_⟩
          · first | omega | grind
          · first | omega | grind
          · intro c x y; rw [f9 c x y]; exact f5 c x y
          · first | omega | (split at hv13 <;> omega)
          · unfold toi; rw [hv12]; first | (rw [smS_f (p := fun k => skf T a n (tl T k) ≠ -1) i0 (fun z => z (by omega))]; exact e) | (rw [smS_t (p := fun k => skf T a n (tl T k) ≠ -1) i0 (show skf T a n (tl T v4) ≠ -1 by omega), hv13, e, sk9.2.1]; rfl)
        · try dsimp only
          omega
    · skip
      refine w_rt ?_
      exact ⟨f5, by rw [e, show v4.toNat = (tK T).toNat by omega]⟩
  · try dsimp only
    refine ⟨?_, ?_, ?_, ?_, ?_⟩
    · first | omega | (subst_vars; first | rfl | assumption) | assumption
    · first | omega | (subst_vars; first | rfl | assumption) | assumption
    · intro c x y; rfl
    · first | omega | (subst_vars; first | rfl | assumption) | assumption
    · rw [hv2, hv1]; rfl
  · try dsimp only
    omega

theorem m_far (w : WT T) (hw : WA T a) (hR_G : MR 0 a G) (hM_G : MT T G) {n : Int} : WP (fX12_far 111 n G) (fun r G' => FRS G G' ∧ r = if isi a n = 1 then frS T a n (tK T).toNat else -1) := by
  have wr := w.rg
  unfold fX12_far
  simp only [rf_111_20]
  refine w_bh (fun G1 hG1 => ?_)
  have hR_G1 : MR 0 a G1 := hR_G.fr (by rw [hG1, up_ne (by decide)])
  have hM_G1 : MT T G1 := hM_G.fr (by rw [hG1, up_ne (by decide)]) (by rw [hG1, up_ne (by decide)])
  refine w_bp (m_isThere w hw hR_G1 hM_G1) (fun v2 hv2 => ?_)
  have q2 := hw.inr (n := n)
  refine w_ite (fun c_1 => ?_) (fun c_1 => ?_)
  · skip
    refine w_rt ?_
    exact ⟨by rw [hG1]; exact FRS.th, by rw [if_neg (by omega)]⟩
  · skip
    refine w_bd (fun v3 hv3 => ?_)
    refine w_bd (fun v4 hv4 => ?_)
    refine w_lpIIH (fun (v5 : Int) (v6 : Int) (G7 : Hp) => (0 ≤ v6) ∧ (v6 ≤ tK T) ∧ (∀ c, c ≠ 111 → c ≠ 126 → G7 c = G1 c) ∧ (∀ k, k ≠ 21 → G7 111 k = G1 111 k) ∧ (0 ≤ v5 ∧ v5 ≤ 20) ∧ (v5 = frS T a n v6.toNat)) (fun (v5 : Int) (v6 : Int) (G7 : Hp) => (10 - v6).toNat) (fun rc8 v5 v6 G7 hI hrc8 => ?_) _ _ _ ?_ ?_
    · skip
      obtain ⟨i0, i1, f7, g7, bz, e⟩ := hI
      have hR_G7 : MR 0 a G7 := hR_G1.fr (f7 123 (by decide) (by decide))
      have hM_G7 : MT T G7 := hM_G1.fr (f7 117 (by decide) (by decide)) (f7 125 (by decide) (by decide))
      refine w_bp (m_keys hM_G7) (fun v9 hv9 => ?_)
      refine w_ite (fun c_2 => ?_) (fun c_2 => ?_)
      · skip
        refine w_rdv (show rd G7 125 10 v6 = some (tl T v6) from (rd_in (by omega) (by omega)).trans (congrArg some (hM_G7.2.2.2.2.2 v6 (by omega) (by omega)))) (fun v10 hv10 => ?_)
        have qv10 := w.li (i := v6) (by omega) (by omega)
        refine w_bn (m_stepsTo w hw (b := 0) (by omega) hR_G7 hM_G7 (n := n) (p := v10) (by omega) (by omega) (by omega)) (fun v11 G12 q12 => ?_)
        obtain ⟨f12, g12, e12, p12⟩ := q12
        rw [hv10] at e12
        have sr12 := skf_r hw w n (tl T v6)
        refine w_bd (fun v13 hv13 => ?_)
        refine w_jn ?_
        refine w_ite (fun c_3 => ?_) (fun c_3 => ?_)
        · skip
          refine w_bd (fun v16 hv16 => ?_)
          refine w_bd (fun v17 hv17 => ?_)
          simp (disch := omega) only [iadd_id, isub_id, imul_id] at hv17
          refine hrc8 _ _ _ ?_ ?_
          · try dsimp only
            refine ⟨?_, ?_, ?_, ?_, ?_, ?_⟩
            · first | omega | grind
            · first | omega | grind
            · intro c x y; rw [f12 c x y]; exact f7 c x y
            · intro k x; rw [g12 k x]; exact g7 k x
            · first | omega | grind
            · rw [hv17, frS_s i0]; first | (rw [if_pos (by omega)]; omega) | (rw [if_neg (by omega)]; omega)
          · try dsimp only
            omega
        · skip
          refine w_bd (fun v16 hv16 => ?_)
          refine w_bd (fun v17 hv17 => ?_)
          simp (disch := omega) only [iadd_id, isub_id, imul_id] at hv17
          refine hrc8 _ _ _ ?_ ?_
          · try dsimp only
            refine ⟨?_, ?_, ?_, ?_, ?_, ?_⟩
            · first | omega | grind
            · first | omega | grind
            · intro c x y; rw [f12 c x y]; exact f7 c x y
            · intro k x; rw [g12 k x]; exact g7 k x
            · first | omega | grind
            · rw [hv17, frS_s i0]; first | (rw [if_pos (by omega)]; omega) | (rw [if_neg (by omega)]; omega)
          · try dsimp only
            omega
      · skip
        refine w_rt ?_
        refine ⟨(show FRS G G1 by rw [hG1]; exact FRS.th).tr ⟨fun c x y z u v => f7 c x z, fun k x y z => g7 k y, fun i x => by rw [f7 123 (by decide) (by decide)]⟩, ?_⟩
        rw [if_pos (by omega), e, show v6.toNat = (tK T).toNat by omega]
    · try dsimp only
      refine ⟨?_, ?_, ?_, ?_, ?_, ?_⟩
      · first | omega | (subst_vars; first | rfl | assumption) | assumption
      · first | omega | (subst_vars; first | rfl | assumption) | assumption
      · intro c x y; rfl
      · intro k x; rfl
      · first | omega | (subst_vars; first | rfl | assumption) | assumption
      · rw [hv4, hv3]; rfl
    · try dsimp only
      omega

theorem m_toil (w : WT T) (hw : WA T a) (hR_G : MR 0 a G) (hM_G : MT T G) {n : Int} : WP (fX12_toil 111 n G) (fun r G' => FRS G G' ∧ r = if isi a n = 1 then toi T a n (tK T).toNat else -1) := by
  have wr := w.rg
  unfold fX12_toil
  simp only [rf_111_20]
  refine w_bh (fun G1 hG1 => ?_)
  have hR_G1 : MR 0 a G1 := hR_G.fr (by rw [hG1, up_ne (by decide)])
  have hM_G1 : MT T G1 := hM_G.fr (by rw [hG1, up_ne (by decide)]) (by rw [hG1, up_ne (by decide)])
  refine w_bp (m_isThere w hw hR_G1 hM_G1) (fun v2 hv2 => ?_)
  have q2 := hw.inr (n := n)
  refine w_ite (fun c_1 => ?_) (fun c_1 => ?_)
  · skip
    refine w_rt ?_
    exact ⟨by rw [hG1]; exact FRS.th, by rw [if_neg (by omega)]⟩
  · skip
    refine w_bd (fun v3 hv3 => ?_)
    refine w_bd (fun v4 hv4 => ?_)
    refine w_lpIIH (fun (v5 : Int) (v6 : Int) (G7 : Hp) => (0 ≤ v6) ∧ (v6 ≤ tK T) ∧ (∀ c, c ≠ 111 → c ≠ 126 → G7 c = G1 c) ∧ (∀ k, k ≠ 21 → G7 111 k = G1 111 k) ∧ (0 ≤ v5 ∧ v5 ≤ 20 * v6) ∧ (v5 = toi T a n v6.toNat)) (fun (v5 : Int) (v6 : Int) (G7 : Hp) => (10 - v6).toNat) (fun rc8 v5 v6 G7 hI hrc8 => ?_) _ _ _ ?_ ?_
    · skip
      obtain ⟨i0, i1, f7, g7, bz, e⟩ := hI
      have hR_G7 : MR 0 a G7 := hR_G1.fr (f7 123 (by decide) (by decide))
      have hM_G7 : MT T G7 := hM_G1.fr (f7 117 (by decide) (by decide)) (f7 125 (by decide) (by decide))
      refine w_bp (m_keys hM_G7) (fun v9 hv9 => ?_)
      refine w_ite (fun c_2 => ?_) (fun c_2 => ?_)
      · skip
        refine w_rdv (show rd G7 125 10 v6 = some (tl T v6) from (rd_in (by omega) (by omega)).trans (congrArg some (hM_G7.2.2.2.2.2 v6 (by omega) (by omega)))) (fun v10 hv10 => ?_)
        have qv10 := w.li (i := v6) (by omega) (by omega)
        refine w_bn (m_stepsTo w hw (b := 0) (by omega) hR_G7 hM_G7 (n := n) (p := v10) (by omega) (by omega) (by omega)) (fun v11 G12 q12 => ?_)
        obtain ⟨f12, g12, e12, p12⟩ := q12
        rw [hv10] at e12
        have sr12 := skf_r hw w n (tl T v6)
        refine w_bd (fun v13 hv13 => ?_)
        refine w_jn ?_
        refine w_ite (fun c_3 => ?_) (fun c_3 => ?_)
        · skip
          refine w_bd (fun v16 hv16 => ?_)
          simp (disch := omega) only [iadd_id, isub_id, imul_id] at hv16
          refine w_bd (fun v17 hv17 => ?_)
          simp (disch := omega) only [iadd_id, isub_id, imul_id] at hv17
          refine hrc8 _ _ _ ?_ ?_
          · try dsimp only
            refine ⟨?_, ?_, ?_, ?_, ?_, ?_⟩
            · first | omega | grind
            · first | omega | grind
            · intro c x y; rw [f12 c x y]; exact f7 c x y
            · intro k x; rw [g12 k x]; exact g7 k x
            · first | omega | grind
            · unfold toi at e ⊢
              rw [hv17]
              rcases e12 with z | z
              · rw [smS_f (p := fun k => skf T a n (tl T k) ≠ -1) i0 (fun y => y z.1)]; omega
              · rw [smS_t (p := fun k => skf T a n (tl T k) ≠ -1) i0 z.1]; (try dsimp only); omega
          · try dsimp only
            omega
        · skip
          refine w_bd (fun v16 hv16 => ?_)
          simp (disch := omega) only [iadd_id, isub_id, imul_id] at hv16
          refine w_bd (fun v17 hv17 => ?_)
          simp (disch := omega) only [iadd_id, isub_id, imul_id] at hv17
          refine hrc8 _ _ _ ?_ ?_
          · try dsimp only
            refine ⟨?_, ?_, ?_, ?_, ?_, ?_⟩
            · first | omega | grind
            · first | omega | grind
            · intro c x y; rw [f12 c x y]; exact f7 c x y
            · intro k x; rw [g12 k x]; exact g7 k x
            · first | omega | grind
            · unfold toi at e ⊢
              rw [hv17]
              rcases e12 with z | z
              · rw [smS_f (p := fun k => skf T a n (tl T k) ≠ -1) i0 (fun y => y z.1)]; omega
              · rw [smS_t (p := fun k => skf T a n (tl T k) ≠ -1) i0 z.1]; (try dsimp only); omega
          · try dsimp only
            omega
      · skip
        refine w_rt ?_
        refine ⟨(show FRS G G1 by rw [hG1]; exact FRS.th).tr ⟨fun c x y z u v => f7 c x z, fun k x y z => g7 k y, fun i x => by rw [f7 123 (by decide) (by decide)]⟩, ?_⟩
        rw [if_pos (by omega), e, show v6.toNat = (tK T).toNat by omega]
    · try dsimp only
      refine ⟨?_, ?_, ?_, ?_, ?_, ?_⟩
      · first | omega | (subst_vars; first | rfl | assumption) | assumption
      · first | omega | (subst_vars; first | rfl | assumption) | assumption
      · intro c x y; rfl
      · intro k x; rfl
      · first | omega | (subst_vars; first | rfl | assumption) | assumption
      · rw [hv4, hv3]; rfl
    · try dsimp only
      omega

/-! moves -/
theorem flip_all : ∀ v : Fin 256, ∀ n : Fin 8, ixor (v.val : Int) (ishl 1 (n.val : Int)) = if bt v.val n.val = 1 then v.val - bt v.val n.val * 2 ^ n.val else v.val + (1 - bt v.val n.val) * 2 ^ n.val := by decide +kernel
def flp (a : AS) (n : Int) : Int := if isi a n = 1 then gou a n else ent a n
theorem flip_is (h : okv a) {n : Int} (h1 : 0 ≤ n) (h2 : n < 8) : ixor a.1 (ishl 1 n) = flp a n := by
  have := flip_all ⟨a.1.toNat, by have := h.1; have := h.2; omega⟩ ⟨n.toNat, by omega⟩
  simp only [Int.toNat_of_nonneg h.1, Int.toNat_of_nonneg h1] at this
  rw [this]; unfold flp gou ent; rw [isi_bt h1 h2]
def dFlp (a : AS) (n : Int) : AS := mkA (flp a n) (lst a) (ahd a) (fng a) (hld a)
theorem dFlp_isi (h : okv a) {n : Int} (h1 : 0 ≤ n) (h2 : n < 8) (m : Int) : isi (dFlp a n) m = if m = n then 1 - isi a n else isi a m := by
  unfold dFlp; rw [mk_isi]
  by_cases c : 0 ≤ m ∧ m < 8
  · rw [if_pos c]
    unfold flp
    rcases isi_01 a n with q | q
    · rw [if_neg (by omega), ent_bt h h1 h2 c.1 c.2, q]; rfl
    · rw [if_pos q, gou_bt h h1 h2 c.1 c.2, q]; rfl
  · rw [if_neg c, if_neg (by omega)]; unfold isi; rw [if_neg c]
theorem dFlp_iN (hw : WA T a) {n : Int} (h1 : 0 ≤ n) (h2 : n < tN T) (h3 : n < 8) : inN T (dFlp a n).1 := by
  have r : 0 ≤ flp a n ∧ flp a n < 256 := by
    unfold flp; split
    · exact gou_ok hw.1 h1 h3
    · exact ent_ok hw.1 h1 h3
  refine ⟨r.1, r.2, fun m m1 m2 z => ?_⟩
  have e := dFlp_isi hw.1 h1 h3 m
  rw [isi_bt m1 m2] at e
  rw [z] at e
  split at e
  · omega
  · exact hw.2.1 m e.symm
theorem MR_Fl {v : Int} (h : MR b a G) (hv : okv a) {n : Int} (h1 : 0 ≤ n) (h2 : n < 8) (hz : v = 1 - isi a n) : MR b (dFlp a n) (up G 123 ((b : Int) + 15 * n).toNat v) := by
  have hl : ∀ m k, lst (dFlp a n) m k = lst a m k := fun m k => by unfold dFlp; rw [mk_lst]; unfold lst; grind
  have ha : ∀ m, ahd (dFlp a n) m = ahd a m := fun m => by unfold dFlp; rw [mk_ahd]; unfold ahd; grind
  have hf : ∀ m k, fng (dFlp a n) m k = fng a m k := fun m k => by unfold dFlp; rw [mk_fng]; unfold fng; grind
  have hh : ∀ k, hld (dFlp a n) k = hld a k := fun k => by unfold dFlp; rw [mk_hld]; unfold hld; grind
  refine MR_of (fun m x1 x2 => ?_) (fun m x1 x2 => ?_) (fun m j x1 x2 x3 x4 => ?_) (fun m x1 x2 => ?_) (fun m j x1 x2 x3 x4 => ?_) (fun j x1 x2 => ?_)
  · rw [up_at, dFlp_isi hv h1 h2, h.i x1 x2]
    by_cases e : m = n
    · rw [if_pos ⟨rfl, by omega⟩, if_pos e]; exact hz
    · rw [if_neg (by omega), if_neg e]
  · rw [up_at, llen_c (fun k => hl m k), h.n x1 x2, if_neg (by omega)]
  · rw [up_at, hl, h.l x1 x2 x3 x4, if_neg (by omega)]
  · rw [up_at, ha, h.ah x1 x2, if_neg (by omega)]
  · rw [up_at, hf, h.f x1 x2 x3 x4, if_neg (by omega)]
  · rw [up_at, hh, h.h x1 x2, if_neg (by omega)]
theorem x_movedKeys (w : WT T) (hw : WA T a) (hA_G : XA 27 a G) (hT_G : XT T G) {n : Int} (h1 : 0 ≤ n) (h2 : n < tN T) : fX2_movedKeys 33 n G = some (cnt (fun k => own T a.1 (tl T k) ≠ own T (flp a n) (tl T k)) (tK T).toNat, G) := by
  have wr := w.rg
  have k3 : G 4 3 = tK T := hT_G.2.2.2.1
  unfold fX2_movedKeys
  simp only [rf_4_8, rf_33_0, rf_33_1]
  refine WP_eq ?_
  refine w_bd (fun v1 hv1 => ?_)
  refine w_bd (fun v2 hv2 => ?_)
  have e2 : v2 = flp a n := by rw [hv2, hA_G.1]; exact flip_is hw.1 h1 (by omega)
  refine w_bd (fun v3 hv3 => ?_)
  refine w_lpII (fun (v4 : Int) (v5 : Int) => (0 ≤ v5) ∧ (v5 ≤ tK T) ∧ (v4 = cnt (fun k => own T a.1 (tl T k) ≠ own T (flp a n) (tl T k)) v5.toNat)) (fun (v4 : Int) (v5 : Int) => (10 - v5).toNat) (fun rc6 v4 v5 hI hrc6 => ?_) _ _ ?_ ?_
  · skip
    obtain ⟨i0, i1, e⟩ := hI
    have cr := cnt_r (fun k => own T a.1 (tl T k) ≠ own T (flp a n) (tl T k)) v5.toNat
    refine w_ite (fun c_1 => ?_) (fun c_1 => ?_)
    · skip
      refine w_rdv (x_lie hT_G w (by omega) (by omega)) (fun v7 hv7 => ?_)
      have qv7 := w.li (i := v5) (by omega) (by omega)
      refine w_bp (x_ownerIn w hw hA_G hT_G (p := v7) (by omega)) (fun v8 hv8 => ?_)
      have ev8 : v8 = own T a.1 v7 := hv8
      rw [hv7] at ev8
      refine w_rdv (x_lie hT_G w (by omega) (by omega)) (fun v9 hv9 => ?_)
      have qv9 := w.li (i := v5) (by omega) (by omega)
      refine w_bp (x_ownerOf w hT_G (v := v2) (by rw [e2]; exact dFlp_iN hw h1 h2 (by omega)) (by omega)) (fun v10 hv10 => ?_)
      have ev10 : v10 = own T (flp a n) v9 := by rw [hv10, e2]
      rw [hv9] at ev10
      refine w_jn ?_
      refine w_ite (fun c_2 => ?_) (fun c_2 => ?_)
      · skip
        refine w_bd (fun v13 hv13 => ?_)
        simp (disch := omega) only [iadd_id, isub_id, imul_id] at hv13
        refine hrc6 _ _ ?_ ?_
        · try dsimp only
          refine ⟨?_, ?_, ?_⟩
          · first | omega | grind
          · first | omega | grind
          · first
            | (rw [hv13, cnt_f (p := fun k => own T a.1 (tl T k) ≠ own T (flp a n) (tl T k)) i0 (show ¬ (own T a.1 (tl T v5) ≠ own T (flp a n) (tl T v5)) by omega)]; exact e)
            | (rw [hv13, hv14, e, cnt_t (p := fun k => own T a.1 (tl T k) ≠ own T (flp a n) (tl T k)) i0 (show own T a.1 (tl T v5) ≠ own T (flp a n) (tl T v5) by omega)]; done)
            | (rw [hv13, hv14, e, cnt_f (p := fun k => own T a.1 (tl T k) ≠ own T (flp a n) (tl T k)) i0 (show ¬ (own T a.1 (tl T v5) ≠ own T (flp a n) (tl T v5)) by omega)]; omega)
        · try dsimp only
          omega
      · skip
        refine w_bd (fun v14 hv14 => ?_)
        simp (disch := omega) only [iadd_id, isub_id, imul_id] at hv14
        refine w_bd (fun v13 hv13 => ?_)
        simp (disch := omega) only [iadd_id, isub_id, imul_id] at hv13
        refine hrc6 _ _ ?_ ?_
        · try dsimp only
          refine ⟨?_, ?_, ?_⟩
          · first | omega | grind
          · first | omega | grind
          · first
            | (rw [hv13, cnt_f (p := fun k => own T a.1 (tl T k) ≠ own T (flp a n) (tl T k)) i0 (show ¬ (own T a.1 (tl T v5) ≠ own T (flp a n) (tl T v5)) by omega)]; exact e)
            | (rw [hv13, hv14, e, cnt_t (p := fun k => own T a.1 (tl T k) ≠ own T (flp a n) (tl T k)) i0 (show own T a.1 (tl T v5) ≠ own T (flp a n) (tl T v5) by omega)]; done)
            | (rw [hv13, hv14, e, cnt_f (p := fun k => own T a.1 (tl T k) ≠ own T (flp a n) (tl T k)) i0 (show ¬ (own T a.1 (tl T v5) ≠ own T (flp a n) (tl T v5)) by omega)]; omega)
        · try dsimp only
          omega
    · skip
      refine w_rt ?_
      refine ⟨?_, rfl⟩
      rw [e, show v5.toNat = (tK T).toNat by omega]
  · try dsimp only
    refine ⟨?_, ?_, ?_⟩
    · first | omega | (subst_vars; first | rfl | assumption) | assumption
    · first | omega | (subst_vars; first | rfl | assumption) | assumption
    · first | omega | (subst_vars; first | rfl | assumption) | assumption
  · try dsimp only
    omega

theorem m_moves (w : WT T) (hw : WA T a) (hR_G : MR 0 a G) (hM_G : MT T G) {n : Int} : WP (fX12_moves 111 n G) (fun r G' => FRS G G' ∧ r = if 0 ≤ n ∧ n < tN T then cnt (fun k => own T a.1 (tl T k) ≠ own T (flp a n) (tl T k)) (tK T).toNat else -1) := by
  have wr := w.rg
  unfold fX12_moves
  simp only [rf_111_17]
  refine w_bh (fun G1 hG1 => ?_)
  have hR_G1 : MR 0 a G1 := hR_G.fr (by rw [hG1, up_ne (by decide)])
  have hM_G1 : MT T G1 := hM_G.fr (by rw [hG1, up_ne (by decide)]) (by rw [hG1, up_ne (by decide)])
  refine w_bp (m_isNode hM_G1) (fun v2 hv2 => ?_)
  have qv2 : ((0 ≤ n ∧ n < tN T) ∧ v2 = 1) ∨ (¬ (0 ≤ n ∧ n < tN T) ∧ v2 = 0) := by rw [hv2]; exact ite01 _
  refine w_ite (fun c_1 => ?_) (fun c_1 => ?_)
  · skip
    refine w_rt ?_
    exact ⟨by rw [hG1]; exact FRS.th, by rw [if_neg (by omega)]⟩
  · skip
    refine w_bn (m_copy (s := 0) (t := 3255) (by omega) (by omega) (by omega) hR_G1) (fun _ G3 q3 => ?_)
    obtain ⟨f3, g3, x3, hR_G3⟩ := q3
    have hM_G3 : MT T G3 := hM_G1.fr (f3 117 (by decide)) (f3 125 (by decide))
    have n8 : 0 ≤ n ∧ n < tN T ∧ n < 8 := by omega
    refine w_bp (m_isIn (b := 0) hR_G3 (by omega) (by omega)) (fun v4 hv4 => ?_)
    have qv4 := hw.inr (n := n)
    refine w_jn ?_
    refine w_ite (fun c_2 => ?_) (fun c_2 => ?_)
    · skip
      try rw [show iadd (iadd 3255 (imul 15 n)) 0 = ((3255 + (15 * n)) + 0) by simp (disch := omega) only [iadd_id, isub_id, imul_id]]
      refine w_wr (by omega) (by omega) (fun G7 hG7 => ?_)
      have hR_G7 : MR 0 a G7 := hR_G3.lo (by omega) (fun i x => by rw [hG7, up_at, if_neg (by omega)])
      have hM_G7 : MT T G7 := hM_G3.fr (by rw [hG7, up_ne (by decide)]) (by rw [hG7, up_ne (by decide)])
      have x7 : MR 3255 (dFlp a n) G7 := by
        rw [hG7, Int.add_zero]
        exact MR_Fl x3 hw.1 n8.1 n8.2.2 (by omega)
      refine w_bd (fun v8 hv8 => ?_)
      refine w_bd (fun v9 hv9 => ?_)
      refine w_lpII (fun (v10 : Int) (v11 : Int) => (0 ≤ v11) ∧ (v11 ≤ tK T) ∧ (v10 = cnt (fun k => own T a.1 (tl T k) ≠ own T (flp a n) (tl T k)) v11.toNat)) (fun (v10 : Int) (v11 : Int) => (10 - v11).toNat) (fun rc12 v10 v11 hI hrc12 => ?_) _ _ ?_ ?_
      · skip
        obtain ⟨i0, i1, e⟩ := hI
        have cr := cnt_r (fun k => own T a.1 (tl T k) ≠ own T (flp a n) (tl T k)) v11.toNat
        refine w_bp (m_keys hM_G7) (fun v13 hv13 => ?_)
        refine w_ite (fun c_3 => ?_) (fun c_3 => ?_)
        · skip
          refine w_bp (m_ownerOf w hw.iN (b := 0) (by omega) hR_G7 hM_G7 (by omega) (by omega)) (fun v14 hv14 => ?_)
          refine w_bp (m_ownerOf w (dFlp_iN hw n8.1 n8.2.1 n8.2.2) (b := 3255) (by omega) x7 hM_G7 (by omega) (by omega)) (fun v15 hv15 => ?_)
          have e15 : v15 = own T (flp a n) (tl T v11) := hv15
          refine w_jn ?_
          refine w_ite (fun c_4 => ?_) (fun c_4 => ?_)
          · skip
            refine w_bd (fun v18 hv18 => ?_)
            simp (disch := omega) only [iadd_id, isub_id, imul_id] at hv18
            refine w_bd (fun v19 hv19 => ?_)
            simp (disch := omega) only [iadd_id, isub_id, imul_id] at hv19
            refine hrc12 _ _ ?_ ?_
            · try dsimp only
              refine ⟨?_, ?_, ?_⟩
              · first | omega | grind
              · first | omega | grind
              · first
                | (rw [hv19, cnt_f (p := fun k => own T a.1 (tl T k) ≠ own T (flp a n) (tl T k)) i0 (show ¬ (own T a.1 (tl T v11) ≠ own T (flp a n) (tl T v11)) by omega)]; exact e)
                | (rw [hv19, hv18, e, cnt_t (p := fun k => own T a.1 (tl T k) ≠ own T (flp a n) (tl T k)) i0 (show own T a.1 (tl T v11) ≠ own T (flp a n) (tl T v11) by omega)]; done)
                | (rw [hv19, hv18, e, cnt_f (p := fun k => own T a.1 (tl T k) ≠ own T (flp a n) (tl T k)) i0 (show ¬ (own T a.1 (tl T v11) ≠ own T (flp a n) (tl T v11)) by omega)]; omega)
            · try dsimp only
              omega
          · skip
            refine w_bd (fun v18 hv18 => ?_)
            simp (disch := omega) only [iadd_id, isub_id, imul_id] at hv18
            refine w_bd (fun v19 hv19 => ?_)
            simp (disch := omega) only [iadd_id, isub_id, imul_id] at hv19
            refine hrc12 _ _ ?_ ?_
            · try dsimp only
              refine ⟨?_, ?_, ?_⟩
              · first | omega | grind
              · first | omega | grind
              · first
                | (rw [hv19, cnt_f (p := fun k => own T a.1 (tl T k) ≠ own T (flp a n) (tl T k)) i0 (show ¬ (own T a.1 (tl T v11) ≠ own T (flp a n) (tl T v11)) by omega)]; exact e)
                | (rw [hv19, hv18, e, cnt_t (p := fun k => own T a.1 (tl T k) ≠ own T (flp a n) (tl T k)) i0 (show own T a.1 (tl T v11) ≠ own T (flp a n) (tl T v11) by omega)]; done)
                | (rw [hv19, hv18, e, cnt_f (p := fun k => own T a.1 (tl T k) ≠ own T (flp a n) (tl T k)) i0 (show ¬ (own T a.1 (tl T v11) ≠ own T (flp a n) (tl T v11)) by omega)]; omega)
            · try dsimp only
              omega
        · skip
          refine w_rt ?_
          refine ⟨(show FRS G G1 by rw [hG1]; exact FRS.th).tr ⟨fun c x y z u v => by rw [hG7, up_ne y, f3 c y], fun k x y z => by rw [hG7, up_ne (by decide), f3 111 (by decide)], fun i x => by rw [hG7, up_at, if_neg (by omega), g3 i (Or.inl x)]⟩, ?_⟩
          rw [if_pos ⟨n8.1, n8.2.1⟩, e, show v11.toNat = (tK T).toNat by omega]
      · try dsimp only
        refine ⟨?_, ?_, ?_⟩
        · first | omega | (subst_vars; first | rfl | assumption) | assumption
        · first | omega | (subst_vars; first | rfl | assumption) | assumption
        · first | omega | (subst_vars; first | rfl | assumption) | assumption
      · try dsimp only
        omega
    · skip
      try rw [show iadd (iadd 3255 (imul 15 n)) 0 = ((3255 + (15 * n)) + 0) by simp (disch := omega) only [iadd_id, isub_id, imul_id]]
      refine w_wr (by omega) (by omega) (fun G7 hG7 => ?_)
      have hR_G7 : MR 0 a G7 := hR_G3.lo (by omega) (fun i x => by rw [hG7, up_at, if_neg (by omega)])
      have hM_G7 : MT T G7 := hM_G3.fr (by rw [hG7, up_ne (by decide)]) (by rw [hG7, up_ne (by decide)])
      have x7 : MR 3255 (dFlp a n) G7 := by
        rw [hG7, Int.add_zero]
        exact MR_Fl x3 hw.1 n8.1 n8.2.2 (by omega)
      refine w_bd (fun v8 hv8 => ?_)
      refine w_bd (fun v9 hv9 => ?_)
      refine w_lpII (fun (v10 : Int) (v11 : Int) => (0 ≤ v11) ∧ (v11 ≤ tK T) ∧ (v10 = cnt (fun k => own T a.1 (tl T k) ≠ own T (flp a n) (tl T k)) v11.toNat)) (fun (v10 : Int) (v11 : Int) => (10 - v11).toNat) (fun rc12 v10 v11 hI hrc12 => ?_) _ _ ?_ ?_
      · skip
        obtain ⟨i0, i1, e⟩ := hI
        have cr := cnt_r (fun k => own T a.1 (tl T k) ≠ own T (flp a n) (tl T k)) v11.toNat
        refine w_bp (m_keys hM_G7) (fun v13 hv13 => ?_)
        refine w_ite (fun c_5 => ?_) (fun c_5 => ?_)
        · skip
          refine w_bp (m_ownerOf w hw.iN (b := 0) (by omega) hR_G7 hM_G7 (by omega) (by omega)) (fun v14 hv14 => ?_)
          refine w_bp (m_ownerOf w (dFlp_iN hw n8.1 n8.2.1 n8.2.2) (b := 3255) (by omega) x7 hM_G7 (by omega) (by omega)) (fun v15 hv15 => ?_)
          have e15 : v15 = own T (flp a n) (tl T v11) := hv15
          refine w_jn ?_
          refine w_ite (fun c_6 => ?_) (fun c_6 => ?_)
          · skip
            refine w_bd (fun v18 hv18 => ?_)
            simp (disch := omega) only [iadd_id, isub_id, imul_id] at hv18
            refine w_bd (fun v19 hv19 => ?_)
            simp (disch := omega) only [iadd_id, isub_id, imul_id] at hv19
            refine hrc12 _ _ ?_ ?_
            · try dsimp only
              refine ⟨?_, ?_, ?_⟩
              · first | omega | grind
              · first | omega | grind
              · first
                | (rw [hv19, cnt_f (p := fun k => own T a.1 (tl T k) ≠ own T (flp a n) (tl T k)) i0 (show ¬ (own T a.1 (tl T v11) ≠ own T (flp a n) (tl T v11)) by omega)]; exact e)
                | (rw [hv19, hv18, e, cnt_t (p := fun k => own T a.1 (tl T k) ≠ own T (flp a n) (tl T k)) i0 (show own T a.1 (tl T v11) ≠ own T (flp a n) (tl T v11) by omega)]; done)
                | (rw [hv19, hv18, e, cnt_f (p := fun k => own T a.1 (tl T k) ≠ own T (flp a n) (tl T k)) i0 (show ¬ (own T a.1 (tl T v11) ≠ own T (flp a n) (tl T v11)) by omega)]; omega)
            · try dsimp only
              omega
          · skip
            refine w_bd (fun v18 hv18 => ?_)
            simp (disch := omega) only [iadd_id, isub_id, imul_id] at hv18
            refine w_bd (fun v19 hv19 => ?_)
            simp (disch := omega) only [iadd_id, isub_id, imul_id] at hv19
            refine hrc12 _ _ ?_ ?_
            · try dsimp only
              refine ⟨?_, ?_, ?_⟩
              · first | omega | grind
              · first | omega | grind
              · first
                | (rw [hv19, cnt_f (p := fun k => own T a.1 (tl T k) ≠ own T (flp a n) (tl T k)) i0 (show ¬ (own T a.1 (tl T v11) ≠ own T (flp a n) (tl T v11)) by omega)]; exact e)
                | (rw [hv19, hv18, e, cnt_t (p := fun k => own T a.1 (tl T k) ≠ own T (flp a n) (tl T k)) i0 (show own T a.1 (tl T v11) ≠ own T (flp a n) (tl T v11) by omega)]; done)
                | (rw [hv19, hv18, e, cnt_f (p := fun k => own T a.1 (tl T k) ≠ own T (flp a n) (tl T k)) i0 (show ¬ (own T a.1 (tl T v11) ≠ own T (flp a n) (tl T v11)) by omega)]; omega)
            · try dsimp only
              omega
        · skip
          refine w_rt ?_
          refine ⟨(show FRS G G1 by rw [hG1]; exact FRS.th).tr ⟨fun c x y z u v => by rw [hG7, up_ne y, f3 c y], fun k x y z => by rw [hG7, up_ne (by decide), f3 111 (by decide)], fun i x => by rw [hG7, up_at, if_neg (by omega), g3 i (Or.inl x)]⟩, ?_⟩
          rw [if_pos ⟨n8.1, n8.2.1⟩, e, show v11.toNat = (tK T).toNat by omega]
      · try dsimp only
        refine ⟨?_, ?_, ?_⟩
        · first | omega | (subst_vars; first | rfl | assumption) | assumption
        · first | omega | (subst_vars; first | rfl | assumption) | assumption
        · first | omega | (subst_vars; first | rfl | assumption) | assumption
      · try dsimp only
        omega

end LOO
