/-! WHAT IS SEEN -/
section SEE
variable {b : Nat} {a : AS} {G : Hp} {T : TT}
abbrev SE : Type := Int × (Int → Int) × (Int → Int) × (Int → Int)
def XS (q : Nat) (S : SE) (G : Hp) : Prop := G q 4 = S.1 ∧ ∀ i : Int, 0 ≤ i → i < S.1 → G (q + 1) i.toNat = S.2.1 i ∧ G (q + 2) i.toNat = S.2.2.1 i ∧ G (q + 3) i.toNat = S.2.2.2 i
def MSe (b : Nat) (S : SE) (G : Hp) : Prop := G 123 (b + 130) = S.1 ∧ ∀ i : Int, 0 ≤ i → i < S.1 → G 123 ((b : Int) + 131 + 3 * i).toNat = S.2.1 i ∧ G 123 ((b : Int) + 131 + 3 * i + 1).toNat = S.2.2.1 i ∧ G 123 ((b : Int) + 131 + 3 * i + 2).toNat = S.2.2.2 i
def WS (T : TT) (S : SE) : Prop := (0 ≤ S.1 ∧ S.1 ≤ 8) ∧ ∀ i : Int, 0 ≤ i → i < S.1 → (0 ≤ S.2.1 i ∧ S.2.1 i < tC T) ∧ (0 ≤ S.2.2.1 i ∧ S.2.2.1 i ≤ 20) ∧ (S.2.2.2 i = 0 ∨ S.2.2.2 i = 1)
def ft1 (T : TT) (a : AS) (S : SE) (n i : Int) : Prop := skf T a n (S.2.1 i) ≠ -1 ∧ (S.2.2.2 i = 1 ↔ S.2.2.1 i ≤ skt T a n (S.2.1 i))
def ftn (T : TT) (a : AS) (S : SE) (n : Int) : Prop := ∀ i : Int, 0 ≤ i → i < S.1 → ft1 T a S n i
def who (T : TT) (a : AS) (S : SE) (n : Int) : Prop := isi a n = 1 ∧ ftn T a S n
def FQ (G G' : Hp) : Prop := ∀ c, c ≠ 29 → c ≠ 30 → c ≠ 43 → G' c = G c
theorem FQ.rf (G : Hp) : FQ G G := fun _ _ _ _ => rfl
theorem FQ.tr {G1 G2 : Hp} (h : FQ G G1) (k : FQ G1 G2) : FQ G G2 := fun c x y z => (k c x y z).trans (h c x y z)
theorem FQ.A {G' : Hp} (h : FQ G G') (k : XA 27 a G) : XA 27 a G' := k.fr (h 27 (by decide) (by decide) (by decide)) (h 28 (by decide) (by decide) (by decide))
theorem FQ.t {G' : Hp} (h : FQ G G') (k : XT T G) : XT T G' := k.fr (h 4 (by decide) (by decide) (by decide)) (h 5 (by decide) (by decide) (by decide)) (h 6 (by decide) (by decide) (by decide)) (h 9 (by decide) (by decide) (by decide))
theorem FQ.s {S : SE} {G' : Hp} (h : FQ G G') (k : XS 39 S G) : XS 39 S G' := by
  unfold XS; rw [h 39 (by decide) (by decide) (by decide), h 40 (by decide) (by decide) (by decide), h 41 (by decide) (by decide) (by decide), h 42 (by decide) (by decide) (by decide)]; exact k
theorem MSe.fr {S : SE} {G' : Hp} (k : MSe b S G) (h : G' 123 = G 123) : MSe b S G' := by unfold MSe; rw [h]; exact k
theorem x_fits (w : WT T) (hw : WA T a) (hA_G : XA 27 a G) (hT_G : XT T G) {S : SE} (hS : WS T S) (xs : XS 39 S G) {n : Int} (hn : isi a n = 1) : WP (fX5_fits 39 29 n G) (fun r G' => FQ G G' ∧ ((r = 1 ∧ ftn T a S n) ∨ (r = 0 ∧ ¬ ftn T a S n))) := by
  have wr := w.rg
  have hS1 := hS.1
  unfold fX5_fits
  simp only [rf_39_0, rf_39_1, rf_39_2]
  refine w_bd (fun v1 hv1 => ?_)
  refine w_lpIH (fun (v2 : Int) (G3 : Hp) => (0 ≤ v2) ∧ (v2 ≤ S.1) ∧ (FQ G G3) ∧ (∀ i : Int, 0 ≤ i → i < v2 → ft1 T a S n i)) (fun (v2 : Int) (G3 : Hp) => (8 - v2).toNat) (fun rc4 v2 G3 hI hrc4 => ?_) _ _ ?_ ?_
  · skip
    obtain ⟨i0, i1, f3, st⟩ := hI
    have hA_G3 := f3.A hA_G
    have hT_G3 := f3.t hT_G
    have ks := f3.s xs
    have n3 : G3 39 4 = S.1 := ks.1
    refine w_ite (fun c_1 => ?_) (fun c_1 => ?_)
    · skip
      refine w_ite (fun c_2 => ?_) (fun c_2 => ?_)
      · skip
        refine w_rdv (show rd G3 40 8 v2 = some (S.2.1 v2) from (rd_in (by omega) (by omega)).trans (congrArg some (ks.2 v2 i0 (by omega)).1)) (fun v5 hv5 => ?_)
        have sp := (hS.2 v2 i0 (by omega))
        refine w_bn (x_seek2 w hw hA_G3 hT_G3 (n := n) (p := v5)) (fun v6 G7 q7 => ?_)
        obtain ⟨f7, sy7, sn7⟩ := q7
        have sk7 := sy7 (by rw [hv5]; exact ⟨hn, sp.1⟩)
        rw [hv5] at sk7
        have F7 : FQ G G7 := f3.tr (fun c x y _ => f7 c x y)
        have ks7 : XS 39 S G7 := F7.s xs
        have fd : ft1 T a S n v2 ↔ skf T a n (S.2.1 v2) ≠ -1 ∧ (S.2.2.2 v2 = 1 ↔ S.2.2.1 v2 ≤ skt T a n (S.2.1 v2)) := Iff.rfl
        refine w_ite (fun c_3 => ?_) (fun c_3 => ?_)
        · skip
          refine w_rz (by omega) ?_
          refine ⟨F7, Or.inr ⟨rfl, fun z => ?_⟩⟩
          have := fd.mp (z v2 i0 (by omega))
          omega
        · skip
          refine w_rdv (show rd G7 42 8 v2 = some (S.2.2.2 v2) from (rd_in (by omega) (by omega)).trans (congrArg some (ks7.2 v2 i0 (by omega)).2.2)) (fun v8 hv8 => ?_)
          refine w_rdv (show rd G7 41 8 v2 = some (S.2.2.1 v2) from (rd_in (by omega) (by omega)).trans (congrArg some (ks7.2 v2 i0 (by omega)).2.1)) (fun v9 hv9 => ?_)
          refine w_jn ?_
          refine w_ite (fun c_4 => ?_) (fun c_4 => ?_)
          · skip
            refine w_ite (fun c_5 => ?_) (fun c_5 => ?_)
            · skip
              refine w_bd (fun v12 hv12 => ?_)
              simp (disch := omega) only [iadd_id, isub_id, imul_id] at hv12
              refine hrc4 _ _ ?_ ?_
              · try dsimp only
                refine ⟨?_, ?_, ?_, ?_⟩
                · first | omega | grind
                · first | omega | grind
                · exact F7
                · intro i x y
                  by_cases u : i = v2
                  · rw [u, fd]; omega
                  · exact st i x (by omega)
              · try dsimp only
                omega
            · skip
              refine w_rz (by omega) ?_
              refine ⟨F7, Or.inr ⟨rfl, fun z => ?_⟩⟩
              have := fd.mp (z v2 i0 (by omega))
              omega
          · skip
            refine w_ite (fun c_6 => ?_) (fun c_6 => ?_)
            · skip
              refine w_bd (fun v12 hv12 => ?_)
              simp (disch := omega) only [iadd_id, isub_id, imul_id] at hv12
              refine hrc4 _ _ ?_ ?_
              · try dsimp only
                refine ⟨?_, ?_, ?_, ?_⟩
                · first | omega | grind
                · first | omega | grind
                · exact F7
                · intro i x y
                  by_cases u : i = v2
                  · rw [u, fd]; omega
                  · exact st i x (by omega)
              · try dsimp only
                omega
            · skip
              refine w_rz (by omega) ?_
              refine ⟨F7, Or.inr ⟨rfl, fun z => ?_⟩⟩
              have := fd.mp (z v2 i0 (by omega))
              omega
      · skip
        refine w_rz (by omega) ?_
        refine ⟨f3, Or.inl ⟨rfl, fun i x y => st i x (by omega)⟩⟩
    · skip
      refine w_rz (by omega) ?_
      refine ⟨f3, Or.inl ⟨rfl, fun i x y => st i x (by omega)⟩⟩
  · try dsimp only
    refine ⟨?_, ?_, ?_, ?_⟩
    · first | omega | (subst_vars; first | rfl | assumption) | assumption
    · first | omega | (subst_vars; first | rfl | assumption) | assumption
    · exact FQ.rf G
    · intro i x y; omega
  · try dsimp only
    omega

theorem x_suspects (w : WT T) (hw : WA T a) (hA_G : XA 27 a G) (hT_G : XT T G) {S : SE} (hS : WS T S) (xs : XS 39 S G) : WP (fX5_suspects 39 29 a.1 G) (fun r G' => FQ G G' ∧ r = bits (who T a S) 8) := by
  have wr := w.rg
  have va := hw.1
  unfold okv at va
  generalize hvv : a.1 = vv
  unfold fX5_suspects
  refine w_bd (fun v1 hv1 => ?_)
  refine w_bd (fun v2 hv2 => ?_)
  refine w_lpIIH (fun (v3 : Int) (v4 : Int) (G5 : Hp) => (0 ≤ v4) ∧ (v4 ≤ 8) ∧ (FQ G G5) ∧ (v3 = bits (who T a S) v4.toNat)) (fun (v3 : Int) (v4 : Int) (G5 : Hp) => (8 - v4).toNat) (fun rc6 v3 v4 G5 hI hrc6 => ?_) _ _ _ ?_ ?_
  · skip
    obtain ⟨i0, i1, f5, e⟩ := hI
    have bi : v4 < 8 → (iand (ishr vv v4) 1 = 1 ↔ isi a v4 = 1) := fun z => by rw [← hvv, bit_is va.1 (by omega) i0 (by omega), isi_bt i0 z]
    have wd : who T a S v4 ↔ isi a v4 = 1 ∧ ftn T a S v4 := Iff.rfl
    refine w_ite (fun c_1 => ?_) (fun c_1 => ?_)
    · skip
      refine w_jn ?_
      refine w_ite (fun c_2 => ?_) (fun c_2 => ?_)
      · skip
        refine w_bn (x_fits w hw (f5.A hA_G) (f5.t hT_G) hS (f5.s xs) (n := v4) ((bi (by omega)).mp (by assumption))) (fun v11 G12 q12 => ?_)
        obtain ⟨f12, q12⟩ := q12
        refine w_ite (fun c_3 => ?_) (fun c_3 => ?_)
        · skip
          refine w_bd (fun v10 hv10 => ?_)
          simp (disch := omega) only [iadd_id, isub_id, imul_id] at hv10
          refine hrc6 _ _ _ ?_ ?_
          · try dsimp only
            refine ⟨?_, ?_, ?_, ?_⟩
            · first | omega | grind
            · first | omega | grind
            · first | exact f5 | exact f5.tr f12
            · first
              | (rw [hv10, hv13, e]; exact bits_t (p := who T a S) i0 (by omega) (wd.mpr ⟨(bi (by omega)).mp (by assumption), by rcases q12 with z | z; exact z.2; omega⟩))
              | (rw [hv10, bits_f (p := who T a S) i0 (fun y => by first | (rcases q12 with z | z; omega; exact z.2 (wd.mp y).2) | (have := (bi (by omega)).mpr (wd.mp y).1; omega))]; exact e)
          · try dsimp only
            omega
        · skip
          refine w_bd (fun v13 hv13 => ?_)
          refine w_bd (fun v10 hv10 => ?_)
          simp (disch := omega) only [iadd_id, isub_id, imul_id] at hv10
          refine hrc6 _ _ _ ?_ ?_
          · try dsimp only
            refine ⟨?_, ?_, ?_, ?_⟩
            · first | omega | grind
            · first | omega | grind
            · first | exact f5 | exact f5.tr f12
            · first
              | (rw [hv10, hv13, e]; exact bits_t (p := who T a S) i0 (by omega) (wd.mpr ⟨(bi (by omega)).mp (by assumption), by rcases q12 with z | z; exact z.2; omega⟩))
              | (rw [hv10, bits_f (p := who T a S) i0 (fun y => by first | (rcases q12 with z | z; omega; exact z.2 (wd.mp y).2) | (have := (bi (by omega)).mpr (wd.mp y).1; omega))]; exact e)
          · try dsimp only
            omega
      · skip
        refine w_bd (fun v10 hv10 => ?_)
        simp (disch := omega) only [iadd_id, isub_id, imul_id] at hv10
        refine hrc6 _ _ _ ?_ ?_
        · try dsimp only
          refine ⟨?_, ?_, ?_, ?_⟩
          · first | omega | grind
          · first | omega | grind
          · first | exact f5 | exact f5.tr f12
          · first
            | (rw [hv10, hv13, e]; exact bits_t (p := who T a S) i0 (by omega) (wd.mpr ⟨(bi (by omega)).mp (by assumption), by rcases q12 with z | z; exact z.2; omega⟩))
            | (rw [hv10, bits_f (p := who T a S) i0 (fun y => by first | (rcases q12 with z | z; omega; exact z.2 (wd.mp y).2) | (have := (bi (by omega)).mpr (wd.mp y).1; omega))]; exact e)
        · try dsimp only
          omega
    · skip
      refine w_rt ?_
      exact ⟨f5, by rw [e, show v4.toNat = 8 by omega]⟩
  · try dsimp only
    refine ⟨?_, ?_, ?_, ?_⟩
    · first | omega | (subst_vars; first | rfl | assumption) | assumption
    · first | omega | (subst_vars; first | rfl | assumption) | assumption
    · exact FQ.rf G
    · first | omega | (subst_vars; first | rfl | assumption) | assumption
  · try dsimp only
    omega

def FSx (G G' : Hp) : Prop := (∀ c, c ≠ 111 → c ≠ 126 → c ≠ 128 → G' c = G c) ∧ ∀ k, k ≠ 21 → G' 111 k = G 111 k
theorem FSx.rf (G : Hp) : FSx G G := ⟨fun _ _ _ _ => rfl, fun _ _ => rfl⟩
theorem FSx.tr {G1 G2 : Hp} (h : FSx G G1) (k : FSx G1 G2) : FSx G G2 := ⟨fun c x y z => (k.1 c x y z).trans (h.1 c x y z), fun j x => (k.2 j x).trans (h.2 j x)⟩
theorem FSx.R {G' : Hp} (h : FSx G G') (k : MR 0 a G) : MR 0 a G' := k.fr (h.1 123 (by decide) (by decide) (by decide))
theorem FSx.t {G' : Hp} (h : FSx G G') (k : MT T G) : MT T G' := k.fr (h.1 117 (by decide) (by decide) (by decide)) (h.1 125 (by decide) (by decide) (by decide))
theorem FSx.S {G' : Hp} (h : FSx G G') : FRS G G' := ⟨fun c x _ z _ v => h.1 c x z v, fun k _ x _ => h.2 k x, fun i _ => by rw [h.1 123 (by decide) (by decide) (by decide)]⟩
theorem m_whoNow (w : WT T) (hw : WA T a) (hR_G : MR 0 a G) (hM_G : MT T G) {S : SE} (hS : WS T S) (ms : MSe 0 S G) : WP (fX12_whoNow 111 G) (fun r G' => FSx G G' ∧ r = bits (who T a S) 8) := by
  have wr := w.rg
  have hS1 := hS.1
  unfold fX12_whoNow
  simp only [rf_111_17]
  refine w_bd (fun v1 hv1 => ?_)
  refine w_bd (fun v2 hv2 => ?_)
  refine w_lpIIH (fun (v3 : Int) (v4 : Int) (G5 : Hp) => (0 ≤ v4) ∧ (v4 ≤ tN T) ∧ (FSx G G5) ∧ (v3 = bits (who T a S) v4.toNat)) (fun (v3 : Int) (v4 : Int) (G5 : Hp) => (8 - v4).toNat) (fun rc6 v3 v4 G5 hI hrc6 => ?_) _ _ _ ?_ ?_
  · skip
    obtain ⟨i0, i1, f5, e⟩ := hI
    have R5 := f5.R hR_G
    have hM_G5 := f5.t hM_G
    have wd : who T a S v4 ↔ isi a v4 = 1 ∧ ftn T a S v4 := Iff.rfl
    refine w_bp (m_nodes hM_G5) (fun v7 hv7 => ?_)
    refine w_ite (fun c_1 => ?_) (fun c_1 => ?_)
    · skip
      refine w_bp (m_isIn (b := 0) R5 (by omega) (by omega)) (fun v8 hv8 => ?_)
      have q8 := hw.inr (n := v4)
      refine w_bd (fun v9 hv9 => ?_)
      refine w_bd (fun v10 hv10 => ?_)
      refine w_lpIIH (fun (v11 : Int) (v12 : Int) (G13 : Hp) => (0 ≤ v12) ∧ (v12 ≤ S.1) ∧ (FSx G G13) ∧ ((v11 = 1 ∧ isi a v4 = 1 ∧ ∀ i : Int, 0 ≤ i → i < v12 → ft1 T a S v4 i) ∨ (v11 = 0 ∧ (isi a v4 = 0 ∨ ∃ i : Int, 0 ≤ i ∧ i < v12 ∧ ¬ ft1 T a S v4 i)))) (fun (v11 : Int) (v12 : Int) (G13 : Hp) => (8 - v12).toNat) (fun rc14 v11 v12 G13 hI hrc14 => ?_) _ _ _ ?_ ?_
      · skip
        obtain ⟨j0, j1, f13, st⟩ := hI
        have R13 := f13.R hR_G
        have M13 := f13.t hM_G
        have KSG13 : MSe 0 S G13 := ms.fr (f13.1 123 (by decide) (by decide) (by decide))
        refine w_rdv (show rd G13 123 3565 130 = some S.1 from (rd_in (by omega) (by omega)).trans (congrArg some (KSG13).1)) (fun v15 hv15 => ?_)
        refine w_ite (fun c_2 => ?_) (fun c_2 => ?_)
        · skip
          refine w_bd (fun v20 hv20 => ?_)
          simp (disch := omega) only [iadd_id, isub_id, imul_id] at hv20
          refine w_jn ?_
          refine w_ite (fun c_3 => ?_) (fun c_3 => ?_)
          · skip
            refine w_bd (fun v24 hv24 => ?_)
            refine w_jn ?_
            refine w_jn ?_
            refine w_ite (fun c_4 => ?_) (fun c_4 => ?_)
            · skip
              refine w_bd (fun v27 hv27 => ?_)
              refine w_bd (fun v28 hv28 => ?_)
              simp (disch := omega) only [iadd_id, isub_id, imul_id] at hv28
              refine hrc14 _ _ _ ?_ ?_
              · try dsimp only
                refine ⟨?_, ?_, ?_, ?_⟩
                · first | omega | grind
                · first | omega | grind
                · first | exact F38 | exact f13
                · rw [hv28]
                  first
                  | (right; refine ⟨by omega, ?_⟩
                     rcases st with z | ⟨s1, s2 | ⟨i, x, y, s2⟩⟩
                     · first | (exfalso; omega) | exact Or.inr ⟨v12, j0, by omega, fun z2 => by have := fd.mp z2; omega⟩
                     · exact Or.inl s2
                     · exact Or.inr ⟨i, x, by omega, s2⟩)
                  | (left; rcases st with ⟨s1, s2, s3⟩ | z
                     · refine ⟨by omega, s2, fun i x y => ?_⟩
                       by_cases u : i = v12
                       · rw [u, fd]; omega
                       · exact s3 i x (by omega)
                     · exfalso; omega)
              · try dsimp only
                omega
            · exfalso; omega
          · skip
            refine w_rdv (show rd G13 123 3565 v20 = some (S.2.1 v12) from (rd_in (by omega) (by omega)).trans (congrArg some (by have := ((KSG13).2 v12 j0 (by omega)).1; rw [hv20]; rw [show ((131 : Int) + 3 * v12).toNat = (((0 : Nat) : Int) + 131 + 3 * v12).toNat by omega]; exact this))) (fun v36 hv36 => ?_)
            have sp := hS.2 v12 j0 (by omega)
            have ii : isi a v4 = 1 := st.elim (fun z => z.2.1) (fun z => absurd z.1 (by assumption))
            refine w_bn (m_stepsTo w hw (b := 0) (by omega) R13 M13 (n := v4) (p := v36) (by omega) (by omega) (by omega)) (fun v37 G38 q38 => ?_)
            obtain ⟨f38, g38, e38, -⟩ := q38
            rw [hv36] at e38
            have sr := skf_r hw w v4 (S.2.1 v12)
            have F38 : FSx G G38 := f13.tr ⟨fun c x y _ => f38 c x y, g38⟩
            have KSG38 : MSe 0 S G38 := ms.fr (F38.1 123 (by decide) (by decide) (by decide))
            have fd : ft1 T a S v4 v12 ↔ skf T a v4 (S.2.1 v12) ≠ -1 ∧ (S.2.2.2 v12 = 1 ↔ S.2.2.1 v12 ≤ skt T a v4 (S.2.1 v12)) := Iff.rfl
            refine w_bd (fun v24 hv24 => ?_)
            refine w_jn ?_
            refine w_jn ?_
            refine w_ite (fun c_5 => ?_) (fun c_5 => ?_)
            · skip
              refine w_bd (fun v27 hv27 => ?_)
              refine w_bd (fun v28 hv28 => ?_)
              simp (disch := omega) only [iadd_id, isub_id, imul_id] at hv28
              refine hrc14 _ _ _ ?_ ?_
              · try dsimp only
                refine ⟨?_, ?_, ?_, ?_⟩
                · first | omega | grind
                · first | omega | grind
                · first | exact F38 | exact f13
                · rw [hv28]
                  first
                  | (right; refine ⟨by omega, ?_⟩
                     rcases st with z | ⟨s1, s2 | ⟨i, x, y, s2⟩⟩
                     · first | (exfalso; omega) | exact Or.inr ⟨v12, j0, by omega, fun z2 => by have := fd.mp z2; omega⟩
                     · exact Or.inl s2
                     · exact Or.inr ⟨i, x, by omega, s2⟩)
                  | (left; rcases st with ⟨s1, s2, s3⟩ | z
                     · refine ⟨by omega, s2, fun i x y => ?_⟩
                       by_cases u : i = v12
                       · rw [u, fd]; omega
                       · exact s3 i x (by omega)
                     · exfalso; omega)
              · try dsimp only
                omega
            · skip
              try rw [show iadd v20 1 = (v20 + 1) by simp (disch := omega) only [iadd_id, isub_id, imul_id]]
              refine w_rdv (show rd G38 123 3565 (v20 + 1) = some (S.2.2.1 v12) from (rd_in (by omega) (by omega)).trans (congrArg some (by have := ((KSG38).2 v12 j0 (by omega)).2.1; rw [hv20]; rw [show ((131 : Int) + 3 * v12 + 1).toNat = (((0 : Nat) : Int) + 131 + 3 * v12 + 1).toNat by omega]; exact this))) (fun v30 hv30 => ?_)
              refine w_jn ?_
              refine w_ite (fun c_6 => ?_) (fun c_6 => ?_)
              · skip
                try rw [show iadd v20 2 = (v20 + 2) by simp (disch := omega) only [iadd_id, isub_id, imul_id]]
                refine w_rdv (show rd G38 123 3565 (v20 + 2) = some (S.2.2.2 v12) from (rd_in (by omega) (by omega)).trans (congrArg some (by have := ((KSG38).2 v12 j0 (by omega)).2.2; rw [hv20]; rw [show ((131 : Int) + 3 * v12 + 2).toNat = (((0 : Nat) : Int) + 131 + 3 * v12 + 2).toNat by omega]; exact this))) (fun v33 hv33 => ?_)
                refine w_jn ?_
                refine w_ite (fun c_7 => ?_) (fun c_7 => ?_)
                · skip
                  refine w_ite (fun c_8 => ?_) (fun c_8 => ?_)
                  · exfalso; omega
                  · skip
                    refine w_bd (fun v27 hv27 => ?_)
                    refine w_bd (fun v28 hv28 => ?_)
                    simp (disch := omega) only [iadd_id, isub_id, imul_id] at hv28
                    refine hrc14 _ _ _ ?_ ?_
                    · try dsimp only
                      refine ⟨?_, ?_, ?_, ?_⟩
                      · first | omega | grind
                      · first | omega | grind
                      · first | exact F38 | exact f13
                      · rw [hv28]
                        first
                        | (right; refine ⟨by omega, ?_⟩
                           rcases st with z | ⟨s1, s2 | ⟨i, x, y, s2⟩⟩
                           · first | (exfalso; omega) | exact Or.inr ⟨v12, j0, by omega, fun z2 => by have := fd.mp z2; omega⟩
                           · exact Or.inl s2
                           · exact Or.inr ⟨i, x, by omega, s2⟩)
                        | (left; rcases st with ⟨s1, s2, s3⟩ | z
                           · refine ⟨by omega, s2, fun i x y => ?_⟩
                             by_cases u : i = v12
                             · rw [u, fd]; omega
                             · exact s3 i x (by omega)
                           · exfalso; omega)
                    · try dsimp only
                      omega
                · skip
                  refine w_ite (fun c_9 => ?_) (fun c_9 => ?_)
                  · skip
                    refine w_bd (fun v27 hv27 => ?_)
                    refine w_bd (fun v28 hv28 => ?_)
                    simp (disch := omega) only [iadd_id, isub_id, imul_id] at hv28
                    refine hrc14 _ _ _ ?_ ?_
                    · try dsimp only
                      refine ⟨?_, ?_, ?_, ?_⟩
                      · first | omega | grind
                      · first | omega | grind
                      · first | exact F38 | exact f13
                      · rw [hv28]
                        first
                        | (right; refine ⟨by omega, ?_⟩
                           rcases st with z | ⟨s1, s2 | ⟨i, x, y, s2⟩⟩
                           · first | (exfalso; omega) | exact Or.inr ⟨v12, j0, by omega, fun z2 => by have := fd.mp z2; omega⟩
                           · exact Or.inl s2
                           · exact Or.inr ⟨i, x, by omega, s2⟩)
                        | (left; rcases st with ⟨s1, s2, s3⟩ | z
                           · refine ⟨by omega, s2, fun i x y => ?_⟩
                             by_cases u : i = v12
                             · rw [u, fd]; omega
                             · exact s3 i x (by omega)
                           · exfalso; omega)
                    · try dsimp only
                      omega
                  · exfalso; omega
              · skip
                try rw [show iadd v20 2 = (v20 + 2) by simp (disch := omega) only [iadd_id, isub_id, imul_id]]
                refine w_rdv (show rd G38 123 3565 (v20 + 2) = some (S.2.2.2 v12) from (rd_in (by omega) (by omega)).trans (congrArg some (by have := ((KSG38).2 v12 j0 (by omega)).2.2; rw [hv20]; rw [show ((131 : Int) + 3 * v12 + 2).toNat = (((0 : Nat) : Int) + 131 + 3 * v12 + 2).toNat by omega]; exact this))) (fun v33 hv33 => ?_)
                refine w_jn ?_
                refine w_ite (fun c_10 => ?_) (fun c_10 => ?_)
                · skip
                  refine w_ite (fun c_11 => ?_) (fun c_11 => ?_)
                  · skip
                    refine w_bd (fun v27 hv27 => ?_)
                    refine w_bd (fun v28 hv28 => ?_)
                    simp (disch := omega) only [iadd_id, isub_id, imul_id] at hv28
                    refine hrc14 _ _ _ ?_ ?_
                    · try dsimp only
                      refine ⟨?_, ?_, ?_, ?_⟩
                      · first | omega | grind
                      · first | omega | grind
                      · first | exact F38 | exact f13
                      · rw [hv28]
                        first
                        | (right; refine ⟨by omega, ?_⟩
                           rcases st with z | ⟨s1, s2 | ⟨i, x, y, s2⟩⟩
                           · first | (exfalso; omega) | exact Or.inr ⟨v12, j0, by omega, fun z2 => by have := fd.mp z2; omega⟩
                           · exact Or.inl s2
                           · exact Or.inr ⟨i, x, by omega, s2⟩)
                        | (left; rcases st with ⟨s1, s2, s3⟩ | z
                           · refine ⟨by omega, s2, fun i x y => ?_⟩
                             by_cases u : i = v12
                             · rw [u, fd]; omega
                             · exact s3 i x (by omega)
                           · exfalso; omega)
                    · try dsimp only
                      omega
                  · exfalso; omega
                · skip
                  refine w_ite (fun c_12 => ?_) (fun c_12 => ?_)
                  · exfalso; omega
                  · skip
                    refine w_bd (fun v27 hv27 => ?_)
                    refine w_bd (fun v28 hv28 => ?_)
                    simp (disch := omega) only [iadd_id, isub_id, imul_id] at hv28
                    refine hrc14 _ _ _ ?_ ?_
                    · try dsimp only
                      refine ⟨?_, ?_, ?_, ?_⟩
                      · first | omega | grind
                      · first | omega | grind
                      · first | exact F38 | exact f13
                      · rw [hv28]
                        first
                        | (right; refine ⟨by omega, ?_⟩
                           rcases st with z | ⟨s1, s2 | ⟨i, x, y, s2⟩⟩
                           · first | (exfalso; omega) | exact Or.inr ⟨v12, j0, by omega, fun z2 => by have := fd.mp z2; omega⟩
                           · exact Or.inl s2
                           · exact Or.inr ⟨i, x, by omega, s2⟩)
                        | (left; rcases st with ⟨s1, s2, s3⟩ | z
                           · refine ⟨by omega, s2, fun i x y => ?_⟩
                             by_cases u : i = v12
                             · rw [u, fd]; omega
                             · exact s3 i x (by omega)
                           · exfalso; omega)
                    · try dsimp only
                      omega
        · skip
          refine w_jn ?_
          refine w_ite (fun c_13 => ?_) (fun c_13 => ?_)
          · skip
            refine w_bd (fun v18 hv18 => ?_)
            refine w_bd (fun v19 hv19 => ?_)
            simp (disch := omega) only [iadd_id, isub_id, imul_id] at hv19
            refine hrc6 _ _ _ ?_ ?_
            · try dsimp only
              refine ⟨?_, ?_, ?_, ?_⟩
              · first | omega | grind
              · first | omega | grind
              · exact f13
              · rw [hv19, hv18, e]
                rcases st with ⟨s1, s2, s3⟩ | ⟨s1, s2⟩
                · first | (exfalso; omega) | exact bits_t (p := who T a S) i0 (by omega) (wd.mpr ⟨s2, fun i x y => s3 i x (by omega)⟩)
                · first | (exfalso; omega) | exact bits_f0 (p := who T a S) i0 (by omega) (fun z => by
                    have z := wd.mp z
                    rcases s2 with s2 | ⟨i, x, y, s2⟩
                    · omega
                    · exact s2 (z.2 i x (by omega)))
            · try dsimp only
              omega
          · skip
            refine w_bd (fun v18 hv18 => ?_)
            refine w_bd (fun v19 hv19 => ?_)
            simp (disch := omega) only [iadd_id, isub_id, imul_id] at hv19
            refine hrc6 _ _ _ ?_ ?_
            · try dsimp only
              refine ⟨?_, ?_, ?_, ?_⟩
              · first | omega | grind
              · first | omega | grind
              · exact f13
              · rw [hv19, hv18, e]
                rcases st with ⟨s1, s2, s3⟩ | ⟨s1, s2⟩
                · first | (exfalso; omega) | exact bits_t (p := who T a S) i0 (by omega) (wd.mpr ⟨s2, fun i x y => s3 i x (by omega)⟩)
                · first | (exfalso; omega) | exact bits_f0 (p := who T a S) i0 (by omega) (fun z => by
                    have z := wd.mp z
                    rcases s2 with s2 | ⟨i, x, y, s2⟩
                    · omega
                    · exact s2 (z.2 i x (by omega)))
            · try dsimp only
              omega
      · try dsimp only
        refine ⟨?_, ?_, ?_, ?_⟩
        · first | omega | (subst_vars; first | rfl | assumption) | assumption
        · first | omega | (subst_vars; first | rfl | assumption) | assumption
        · exact f5
        · rcases isi_01 a v4 with z | z
          · right; exact ⟨by omega, Or.inl z⟩
          · left; exact ⟨by omega, z, fun i x y => by omega⟩
      · try dsimp only
        omega
    · skip
      refine w_rt ?_
      refine ⟨f5, ?_⟩
      rw [e, show v4.toNat = (tN T).toNat by omega]
      exact (bits_more (p := who T a S) 8 (by omega) (fun i x y z => by have := hw.inr (n := i); have := z.1; omega)).symm
  · try dsimp only
    refine ⟨?_, ?_, ?_, ?_⟩
    · first | omega | (subst_vars; first | rfl | assumption) | assumption
    · first | omega | (subst_vars; first | rfl | assumption) | assumption
    · exact FSx.rf G
    · first | omega | (subst_vars; first | rfl | assumption) | assumption
  · try dsimp only
    omega

end SEE
