section LOO
variable {b : Nat} {a : AS} {G : Hp} {T : TT}
/-! heirs -/
noncomputable def near (T : TT) (a : AS) (p n : Int) : Int := cnt (fun o => isi a o = 1 ∧ onw T p o < onw T p n) 8
def HE (T : TT) (a : AS) (p i r : Int) : Prop := (r = -1 ∧ ∀ n : Int, 0 ≤ n → n < tN T → isi a n = 1 → near T a p n ≠ i) ∨ (0 ≤ r ∧ r < tN T ∧ isi a r = 1 ∧ near T a p r = i)
theorem cnt_le {p q : Int → Prop} : ∀ n : Nat, (∀ i : Int, 0 ≤ i → i < n → p i → q i) → cnt p n ≤ cnt q n
  | 0, _ => Int.le_refl _
  | n + 1, h => by
    have ih := cnt_le n (fun i a b => h i a (by omega))
    show cnt p n + pif (p n) 1 0 ≤ cnt q n + pif (q n) 1 0
    by_cases c : p n
    · rw [pif_t c, pif_t (h n (by omega) (by omega) c)]; omega
    · rw [pif_f c]
      by_cases d : q n
      · rw [pif_t d]; omega
      · rw [pif_f d]; omega
theorem cnt_ins {p : Int → Prop} {o : Int} (h0 : 0 ≤ o) (ho : ¬ p o) : ∀ n : Nat, cnt (fun i => p i ∨ i = o) n = cnt p n + (if o < n then 1 else 0)
  | 0 => by rw [if_neg (by omega)]; rfl
  | n + 1 => by
    have ih := cnt_ins h0 ho n
    show cnt (fun i => p i ∨ i = o) n + pif (p n ∨ (n : Int) = o) 1 0 = cnt p n + pif (p n) 1 0 + _
    rw [ih]
    by_cases e : (n : Int) = o
    · rw [pif_t (Or.inr e), pif_f (by rw [e]; exact ho), if_neg (by omega), if_pos (by omega)]
    · by_cases c : p n
      · rw [pif_t (Or.inl c), pif_t c]; split <;> split <;> omega
      · rw [pif_f (fun z => by rcases z with z | z; exact c z; exact e z), pif_f c]; split <;> split <;> omega
theorem near_lt (w : WT T) {p n m : Int} (hn : isi a n = 1) (hn0 : 0 ≤ n) (hn8 : n < 8) (h : onw T p n < onw T p m) : near T a p n < near T a p m := by
  have e := cnt_ins (p := fun o => isi a o = 1 ∧ onw T p o < onw T p n) (o := n) hn0 (fun z => by have := z.2; omega) 8
  rw [if_pos (by omega)] at e
  have l := cnt_le (p := fun i => (isi a i = 1 ∧ onw T p i < onw T p n) ∨ i = n) (q := fun o => isi a o = 1 ∧ onw T p o < onw T p m) 8 (fun i _ _ z => by
    rcases z with z | z
    · exact ⟨z.1, by omega⟩
    · rw [z]; exact ⟨hn, h⟩)
  unfold near; omega
theorem HE_u (w : WT T) (hw : WA T a) {p i r r' : Int} (hp : 0 ≤ p) (hp2 : p ≤ tC T) (h : HE T a p i r) (h' : HE T a p i r') : r = r' := by
  have wr := w.rg
  rcases h with h | h
  · rcases h' with k | k
    · rw [h.1, k.1]
    · exact absurd k.2.2.2 (h.2 r' k.1 k.2.1 k.2.2.1)
  · rcases h' with k | k
    · exact absurd h.2.2.2 (k.2 r h.1 h.2.1 h.2.2.1)
    · rcases Int.lt_trichotomy (onw T p r) (onw T p r') with z | z | z
      · have := near_lt (a := a) w h.2.2.1 h.1 (by omega) z; omega
      · exact onw_inj w h.1 h.2.1 k.1 k.2.1 hp hp2 z
      · have := near_lt (a := a) w k.2.2.1 k.1 (by omega) z; omega
theorem x_nearerThan (w : WT T) (hw : WA T a) (hA_G : XA 27 a G) (hT_G : XT T G) {n p : Int} (h1 : 0 ≤ n) (h2 : n < tN T) (hp : 0 ≤ p ∧ p ≤ 1000) : fX2_nearerThan 33 n p G = some (near T a p n, G) := by
  have wr := w.rg
  unfold fX2_nearerThan
  simp only [rf_4_5, rf_33_0, rf_33_1]
  refine WP_eq ?_
  refine w_rdv (x_place hT_G w (by omega) (by omega)) (fun v1 hv1 => ?_)
  have qv1 := w.pl (i := n) (by omega) (by omega)
  refine w_bp (x_onward hT_G w ⟨by omega, by omega⟩ ⟨by omega, by omega⟩) (fun v2 hv2 => ?_)
  have ev2 : v2 = onw T p n := by rw [hv2, hv1]; rfl
  refine w_bd (fun v3 hv3 => ?_)
  refine w_bd (fun v4 hv4 => ?_)
  refine w_bd (fun v5 hv5 => ?_)
  refine w_lpII (fun (v6 : Int) (v7 : Int) => (0 ≤ v7) ∧ (v7 ≤ 8) ∧ (v6 = cnt (fun o => isi a o = 1 ∧ onw T p o < onw T p n) v7.toNat)) (fun (v6 : Int) (v7 : Int) => (8 - v7).toNat) (fun rc8 v6 v7 hI hrc8 => ?_) _ _ ?_ ?_
  · skip
    obtain ⟨i0, i1, e⟩ := hI
    have cr := cnt_r (fun o => isi a o = 1 ∧ onw T p o < onw T p n) v7.toNat
    refine w_ite (fun c_1 => ?_) (fun c_1 => ?_)
    · skip
      refine w_bp (x_isIn hA_G hw.1) (fun v9 hv9 => ?_)
      have qv9 := hw.inr (n := v7)
      refine w_jn ?_
      refine w_ite (fun c_2 => ?_) (fun c_2 => ?_)
      · skip
        refine w_bd (fun v12 hv12 => ?_)
        simp (disch := omega) only [iadd_id, isub_id, imul_id] at hv12
        refine hrc8 _ _ ?_ ?_
        · try dsimp only
          refine ⟨?_, ?_, ?_⟩
          · first | omega | grind
          · first | omega | grind
          · first
            | (rw [hv12, cnt_f (p := fun k => isi a k = 1 ∧ onw T p k < onw T p n) i0 (show ¬ (isi a v7 = 1 ∧ onw T p v7 < onw T p n) by omega)]; exact e)
            | (rw [hv12, hv15, e, cnt_t (p := fun k => isi a k = 1 ∧ onw T p k < onw T p n) i0 (show isi a v7 = 1 ∧ onw T p v7 < onw T p n by omega)]; done)
            | (rw [hv12, hv15, e, cnt_f (p := fun k => isi a k = 1 ∧ onw T p k < onw T p n) i0 (show ¬ (isi a v7 = 1 ∧ onw T p v7 < onw T p n) by omega)]; omega)
        · try dsimp only
          omega
      · skip
        refine w_rdv (x_place hT_G w (by omega) (by omega)) (fun v13 hv13 => ?_)
        have qv13 := w.pl (i := v7) (by omega) (by omega)
        refine w_bp (x_onward hT_G w ⟨by omega, by omega⟩ ⟨by omega, by omega⟩) (fun v14 hv14 => ?_)
        have ev14 : v14 = onw T p v7 := by rw [hv14, hv13]; rfl
        refine w_ite (fun c_3 => ?_) (fun c_3 => ?_)
        · skip
          refine w_bd (fun v15 hv15 => ?_)
          simp (disch := omega) only [iadd_id, isub_id, imul_id] at hv15
          refine w_bd (fun v12 hv12 => ?_)
          simp (disch := omega) only [iadd_id, isub_id, imul_id] at hv12
          refine hrc8 _ _ ?_ ?_
          · try dsimp only
            refine ⟨?_, ?_, ?_⟩
            · first | omega | grind
            · first | omega | grind
            · first
              | (rw [hv12, cnt_f (p := fun k => isi a k = 1 ∧ onw T p k < onw T p n) i0 (show ¬ (isi a v7 = 1 ∧ onw T p v7 < onw T p n) by omega)]; exact e)
              | (rw [hv12, hv15, e, cnt_t (p := fun k => isi a k = 1 ∧ onw T p k < onw T p n) i0 (show isi a v7 = 1 ∧ onw T p v7 < onw T p n by omega)]; done)
              | (rw [hv12, hv15, e, cnt_f (p := fun k => isi a k = 1 ∧ onw T p k < onw T p n) i0 (show ¬ (isi a v7 = 1 ∧ onw T p v7 < onw T p n) by omega)]; omega)
          · try dsimp only
            omega
        · skip
          refine w_bd (fun v12 hv12 => ?_)
          simp (disch := omega) only [iadd_id, isub_id, imul_id] at hv12
          refine hrc8 _ _ ?_ ?_
          · try dsimp only
            refine ⟨?_, ?_, ?_⟩
            · first | omega | grind
            · first | omega | grind
            · first
              | (rw [hv12, cnt_f (p := fun k => isi a k = 1 ∧ onw T p k < onw T p n) i0 (show ¬ (isi a v7 = 1 ∧ onw T p v7 < onw T p n) by omega)]; exact e)
              | (rw [hv12, hv15, e, cnt_t (p := fun k => isi a k = 1 ∧ onw T p k < onw T p n) i0 (show isi a v7 = 1 ∧ onw T p v7 < onw T p n by omega)]; done)
              | (rw [hv12, hv15, e, cnt_f (p := fun k => isi a k = 1 ∧ onw T p k < onw T p n) i0 (show ¬ (isi a v7 = 1 ∧ onw T p v7 < onw T p n) by omega)]; omega)
          · try dsimp only
            omega
    · skip
      refine w_rt ?_
      refine ⟨?_, rfl⟩
      rw [e, show v7.toNat = 8 by omega]; rfl
  · try dsimp only
    refine ⟨?_, ?_, ?_⟩
    · first | omega | (subst_vars; first | rfl | assumption) | assumption
    · first | omega | (subst_vars; first | rfl | assumption) | assumption
    · first | omega | (subst_vars; first | rfl | assumption) | assumption
  · try dsimp only
    omega

theorem x_heirOf (w : WT T) (hw : WA T a) (hA_G : XA 27 a G) (hT_G : XT T G) {k i : Int} (h1 : 0 ≤ k) (h2 : k < tK T) : WP (fX2_heirOf 33 k i G) (fun r G' => G' = G ∧ HE T a (tl T k) i r) := by
  have wr := w.rg
  unfold fX2_heirOf
  simp only [rf_4_8, rf_33_0, rf_33_1]
  refine w_bd (fun v1 hv1 => ?_)
  refine w_lpI (fun (v2 : Int) => (0 ≤ v2) ∧ (v2 ≤ 8) ∧ (∀ n : Int, 0 ≤ n → n < v2 → isi a n = 1 → near T a (tl T k) n ≠ i)) (fun (v2 : Int) => (8 - v2).toNat) (fun rc3 v2 hI hrc3 => ?_) _ ?_ ?_
  · skip
    obtain ⟨i0, i1, e⟩ := hI
    refine w_ite (fun c_1 => ?_) (fun c_1 => ?_)
    · skip
      refine w_bp (x_isIn hA_G hw.1) (fun v4 hv4 => ?_)
      have qv4 := hw.inr (n := v2)
      refine w_jn ?_
      refine w_ite (fun c_2 => ?_) (fun c_2 => ?_)
      · skip
        refine w_bd (fun v6 hv6 => ?_)
        simp (disch := omega) only [iadd_id, isub_id, imul_id] at hv6
        refine hrc3 _ ?_ ?_
        · try dsimp only
          refine ⟨?_, ?_, ?_⟩
          · first | omega | grind
          · first | omega | grind
          · intro n n1 n2 n3; by_cases u : n = v2
            · first | (exfalso; rw [u] at n3; omega) | (rw [u]; omega)
            · exact e n n1 (by omega) n3
        · try dsimp only
          omega
      · skip
        refine w_rdv (x_lie hT_G w (by omega) (by omega)) (fun v7 hv7 => ?_)
        have qv7 := w.li (i := k) (by omega) (by omega)
        refine w_bp (x_nearerThan w hw hA_G hT_G (n := v2) (p := v7) (by omega) (by omega) (by omega)) (fun v8 hv8 => ?_)
        rw [hv7] at hv8
        refine w_ite (fun c_3 => ?_) (fun c_3 => ?_)
        · skip
          refine w_rt ?_
          refine ⟨rfl, Or.inr ⟨by omega, by omega, by omega, by omega⟩⟩
        · skip
          refine w_bd (fun v6 hv6 => ?_)
          simp (disch := omega) only [iadd_id, isub_id, imul_id] at hv6
          refine hrc3 _ ?_ ?_
          · try dsimp only
            refine ⟨?_, ?_, ?_⟩
            · first | omega | grind
            · first | omega | grind
            · intro n n1 n2 n3; by_cases u : n = v2
              · first | (exfalso; rw [u] at n3; omega) | (rw [u]; omega)
              · exact e n n1 (by omega) n3
          · try dsimp only
            omega
    · skip
      refine w_rt ?_
      refine ⟨rfl, Or.inl ⟨rfl, fun n n1 n2 => e n n1 (by omega)⟩⟩
  · try dsimp only
    refine ⟨?_, ?_, ?_⟩
    · first | omega | (subst_vars; first | rfl | assumption) | assumption
    · first | omega | (subst_vars; first | rfl | assumption) | assumption
    · intro n n1 n2; omega
  · try dsimp only
    omega

theorem m_heirs (w : WT T) (hw : WA T a) (hR_G : MR 0 a G) (hM_G : MT T G) {k i : Int} : WP (fX12_heirs 111 k i G) (fun r G' => G' = up G 111 0 0 ∧ ((0 ≤ k ∧ k < tK T ∧ HE T a (tl T k) i r) ∨ (¬ (0 ≤ k ∧ k < tK T) ∧ r = -1))) := by
  have wr := w.rg
  unfold fX12_heirs
  simp only [rf_111_20]
  refine w_bh (fun G1 hG1 => ?_)
  have hR_G1 : MR 0 a G1 := hR_G.fr (by rw [hG1, up_ne (by decide)])
  have hM_G1 : MT T G1 := hM_G.fr (by rw [hG1, up_ne (by decide)]) (by rw [hG1, up_ne (by decide)])
  refine w_bp (m_isKey hM_G1) (fun v2 hv2 => ?_)
  have qv2 : ((0 ≤ k ∧ k < tK T) ∧ v2 = 1) ∨ (¬ (0 ≤ k ∧ k < tK T) ∧ v2 = 0) := by rw [hv2]; exact ite01 _
  refine w_ite (fun c_1 => ?_) (fun c_1 => ?_)
  · skip
    refine w_rt ?_
    refine ⟨hG1, Or.inr ⟨by omega, rfl⟩⟩
  · skip
    refine w_ite (fun c_2 => ?_) (fun c_2 => ?_)
    · skip
      refine w_rt ?_
      refine ⟨hG1, Or.inl ⟨by omega, by omega, Or.inl ⟨rfl, fun n n1 n2 n3 z => ?_⟩⟩⟩
      have := cnt_r (fun o => isi a o = 1 ∧ onw T (tl T k) o < onw T (tl T k) n) 8
      have : near T a (tl T k) n = cnt (fun o => isi a o = 1 ∧ onw T (tl T k) o < onw T (tl T k) n) 8 := rfl
      omega
    · skip
      refine w_bd (fun v3 hv3 => ?_)
      refine w_bd (fun v4 hv4 => ?_)
      refine w_lpII (fun (v5 : Int) (v6 : Int) => (0 ≤ v6) ∧ (v6 ≤ tC T) ∧ (v5 = cnt (fun o => isi a o = 1 ∧ onw T (tl T k) o < v6) 8) ∧ (∀ n : Int, 0 ≤ n → n < tN T → isi a n = 1 → onw T (tl T k) n < v6 → near T a (tl T k) n ≠ i)) (fun (v5 : Int) (v6 : Int) => (256 - v6).toNat) (fun rc7 v5 v6 hI hrc7 => ?_) _ _ ?_ ?_
      · skip
        obtain ⟨i0, i1, e, ne⟩ := hI
        have lk := w.li (i := k) (by omega) (by omega)
        have cb := cnt_r (fun o => isi a o = 1 ∧ onw T (tl T k) o < v6) 8
        rw [← e] at cb
        refine w_bp (m_circle hM_G1) (fun v8 hv8 => ?_)
        refine w_ite (fun c_3 => ?_) (fun c_3 => ?_)
        · skip
          refine w_rdv (show rd G1 125 10 k = some (tl T k) from (rd_in (by omega) (by omega)).trans (congrArg some (hM_G1.2.2.2.2.2 k (by omega) (by omega)))) (fun v9 hv9 => ?_)
          have qv9 := w.li (i := k) (by omega) (by omega)
          try rw [show iadd v9 v6 = (v9 + v6) by simp (disch := omega) only [iadd_id, isub_id, imul_id]]
          refine w_bpq (m_inAt w (b := 0) (by omega) hR_G1 hM_G1 (p := v9 + v6) (by omega) (by omega)) (fun v10 g10 q10 => ?_)
          replace q10 := q10.2
          refine w_bd (fun v11 hv11 => ?_)
          refine w_jn ?_
          refine w_ite (fun c_4 => ?_) (fun c_4 => ?_)
          · skip
            refine w_jn ?_
            refine w_ite (fun c_5 => ?_) (fun c_5 => ?_)
            · skip
              refine w_bd (fun v15 hv15 => ?_)
              simp (disch := omega) only [iadd_id, isub_id, imul_id] at hv15
              refine w_bd (fun v16 hv16 => ?_)
              simp (disch := omega) only [iadd_id, isub_id, imul_id] at hv16
              refine hrc7 _ _ ?_ ?_
              · try dsimp only
                refine ⟨?_, ?_, ?_, ?_⟩
                · first | omega | grind
                · first | omega | grind
                · have fd : 0 ≤ v11 → (0 ≤ v11 ∧ v11 < tN T ∧ isi a v11 = 1 ∧ onw T (tl T k) v11 = v6) := fun z => by
                    rcases q10 with y | ⟨y1, y2, y3, y4⟩
                    · omega
                    · rw [hv9, at_onw w y1 y2 (by omega) (by omega) i0 (by omega)] at y4
                      rw [hv11]; exact ⟨y1, y2, y3, y4⟩
                  have fn : v11 < 0 → ∀ n : Int, 0 ≤ n → n < tN T → isi a n = 1 → onw T (tl T k) n ≠ v6 := fun z n n1 n2 n3 => by
                    rcases q10 with ⟨y1, y2⟩ | y
                    · have := y2 n n1 n2 n3
                      rw [ne_eq, hv9, at_onw w n1 n2 (by omega) (by omega) i0 (by omega)] at this
                      exact this
                    · omega
                  have nr : 0 ≤ v11 → near T a (tl T k) v11 = v5 := fun z => by
                    unfold near; rw [(fd z).2.2.2]; exact e.symm
                  rw [hv16, hv15]
                  first
                  | (rw [e]; have f2 := fn (by omega)
                     rw [Int.add_zero]
                     exact cnt_ext 8 (fun j j1 j2 => ⟨fun z => ⟨z.1, by have := z.2; omega⟩, fun z => ⟨z.1, by have y := hw.inr (n := j); have := f2 j j1 (by omega) z.1; have := z.2; omega⟩⟩))
                  | (have f1 := fd (by omega)
                     have ci := cnt_ins (p := fun o => isi a o = 1 ∧ onw T (tl T k) o < v6) (o := v11) f1.1 (fun z => by have := z.2; omega) 8
                     rw [if_pos (by omega), ← e] at ci
                     rw [← ci]
                     exact cnt_ext 8 (fun j j1 j2 => ⟨fun z => by
                       rcases z with z | z
                       · exact ⟨z.1, by have := z.2; omega⟩
                       · rw [z]; exact ⟨f1.2.2.1, by omega⟩, fun z => by
                       have y := hw.inr (n := j)
                       by_cases u : onw T (tl T k) j = v6
                       · right; exact onw_inj w (p := tl T k) j1 (by have := z.1; omega) f1.1 f1.2.1 (by omega) (by omega) (by omega)
                       · left; exact ⟨z.1, by have := z.2; omega⟩⟩))
                · have fd : 0 ≤ v11 → (0 ≤ v11 ∧ v11 < tN T ∧ isi a v11 = 1 ∧ onw T (tl T k) v11 = v6) := fun z => by
                    rcases q10 with y | ⟨y1, y2, y3, y4⟩
                    · omega
                    · rw [hv9, at_onw w y1 y2 (by omega) (by omega) i0 (by omega)] at y4
                      rw [hv11]; exact ⟨y1, y2, y3, y4⟩
                  have fn : v11 < 0 → ∀ n : Int, 0 ≤ n → n < tN T → isi a n = 1 → onw T (tl T k) n ≠ v6 := fun z n n1 n2 n3 => by
                    rcases q10 with ⟨y1, y2⟩ | y
                    · have := y2 n n1 n2 n3
                      rw [ne_eq, hv9, at_onw w n1 n2 (by omega) (by omega) i0 (by omega)] at this
                      exact this
                    · omega
                  have nr : 0 ≤ v11 → near T a (tl T k) v11 = v5 := fun z => by
                    unfold near; rw [(fd z).2.2.2]; exact e.symm
                  intro n n1 n2 n3 n4
                  by_cases u : onw T (tl T k) n = v6
                  · first
                    | (exfalso; exact fn (by omega) n n1 n2 n3 u)
                    | (have f1 := fd (by omega)
                       have e2 : n = v11 := onw_inj w (p := tl T k) n1 n2 f1.1 f1.2.1 (by omega) (by omega) (by omega)
                       rw [e2, nr (by omega)]; assumption)
                  · exact ne n n1 n2 n3 (by omega)
              · try dsimp only
                omega
            · skip
              refine w_bd (fun v15 hv15 => ?_)
              simp (disch := omega) only [iadd_id, isub_id, imul_id] at hv15
              refine w_bd (fun v16 hv16 => ?_)
              simp (disch := omega) only [iadd_id, isub_id, imul_id] at hv16
              refine hrc7 _ _ ?_ ?_
              · try dsimp only
                refine ⟨?_, ?_, ?_, ?_⟩
                · first | omega | grind
                · first | omega | grind
                · have fd : 0 ≤ v11 → (0 ≤ v11 ∧ v11 < tN T ∧ isi a v11 = 1 ∧ onw T (tl T k) v11 = v6) := fun z => by
                    rcases q10 with y | ⟨y1, y2, y3, y4⟩
                    · omega
                    · rw [hv9, at_onw w y1 y2 (by omega) (by omega) i0 (by omega)] at y4
                      rw [hv11]; exact ⟨y1, y2, y3, y4⟩
                  have fn : v11 < 0 → ∀ n : Int, 0 ≤ n → n < tN T → isi a n = 1 → onw T (tl T k) n ≠ v6 := fun z n n1 n2 n3 => by
                    rcases q10 with ⟨y1, y2⟩ | y
                    · have := y2 n n1 n2 n3
                      rw [ne_eq, hv9, at_onw w n1 n2 (by omega) (by omega) i0 (by omega)] at this
                      exact this
                    · omega
                  have nr : 0 ≤ v11 → near T a (tl T k) v11 = v5 := fun z => by
                    unfold near; rw [(fd z).2.2.2]; exact e.symm
                  rw [hv16, hv15]
                  first
                  | (rw [e]; have f2 := fn (by omega)
                     rw [Int.add_zero]
                     exact cnt_ext 8 (fun j j1 j2 => ⟨fun z => ⟨z.1, by have := z.2; omega⟩, fun z => ⟨z.1, by have y := hw.inr (n := j); have := f2 j j1 (by omega) z.1; have := z.2; omega⟩⟩))
                  | (have f1 := fd (by omega)
                     have ci := cnt_ins (p := fun o => isi a o = 1 ∧ onw T (tl T k) o < v6) (o := v11) f1.1 (fun z => by have := z.2; omega) 8
                     rw [if_pos (by omega), ← e] at ci
                     rw [← ci]
                     exact cnt_ext 8 (fun j j1 j2 => ⟨fun z => by
                       rcases z with z | z
                       · exact ⟨z.1, by have := z.2; omega⟩
                       · rw [z]; exact ⟨f1.2.2.1, by omega⟩, fun z => by
                       have y := hw.inr (n := j)
                       by_cases u : onw T (tl T k) j = v6
                       · right; exact onw_inj w (p := tl T k) j1 (by have := z.1; omega) f1.1 f1.2.1 (by omega) (by omega) (by omega)
                       · left; exact ⟨z.1, by have := z.2; omega⟩⟩))
                · have fd : 0 ≤ v11 → (0 ≤ v11 ∧ v11 < tN T ∧ isi a v11 = 1 ∧ onw T (tl T k) v11 = v6) := fun z => by
                    rcases q10 with y | ⟨y1, y2, y3, y4⟩
                    · omega
                    · rw [hv9, at_onw w y1 y2 (by omega) (by omega) i0 (by omega)] at y4
                      rw [hv11]; exact ⟨y1, y2, y3, y4⟩
                  have fn : v11 < 0 → ∀ n : Int, 0 ≤ n → n < tN T → isi a n = 1 → onw T (tl T k) n ≠ v6 := fun z n n1 n2 n3 => by
                    rcases q10 with ⟨y1, y2⟩ | y
                    · have := y2 n n1 n2 n3
                      rw [ne_eq, hv9, at_onw w n1 n2 (by omega) (by omega) i0 (by omega)] at this
                      exact this
                    · omega
                  have nr : 0 ≤ v11 → near T a (tl T k) v11 = v5 := fun z => by
                    unfold near; rw [(fd z).2.2.2]; exact e.symm
                  intro n n1 n2 n3 n4
                  by_cases u : onw T (tl T k) n = v6
                  · first
                    | (exfalso; exact fn (by omega) n n1 n2 n3 u)
                    | (have f1 := fd (by omega)
                       have e2 : n = v11 := onw_inj w (p := tl T k) n1 n2 f1.1 f1.2.1 (by omega) (by omega) (by omega)
                       rw [e2, nr (by omega)]; assumption)
                  · exact ne n n1 n2 n3 (by omega)
              · try dsimp only
                omega
          · skip
            refine w_ite (fun c_6 => ?_) (fun c_6 => ?_)
            · skip
              refine w_rt ?_
              have fd : 0 ≤ v11 → (0 ≤ v11 ∧ v11 < tN T ∧ isi a v11 = 1 ∧ onw T (tl T k) v11 = v6) := fun z => by
                rcases q10 with y | ⟨y1, y2, y3, y4⟩
                · omega
                · rw [hv9, at_onw w y1 y2 (by omega) (by omega) i0 (by omega)] at y4
                  rw [hv11]; exact ⟨y1, y2, y3, y4⟩
              have fn : v11 < 0 → ∀ n : Int, 0 ≤ n → n < tN T → isi a n = 1 → onw T (tl T k) n ≠ v6 := fun z n n1 n2 n3 => by
                rcases q10 with ⟨y1, y2⟩ | y
                · have := y2 n n1 n2 n3
                  rw [ne_eq, hv9, at_onw w n1 n2 (by omega) (by omega) i0 (by omega)] at this
                  exact this
                · omega
              have nr : 0 ≤ v11 → near T a (tl T k) v11 = v5 := fun z => by
                unfold near; rw [(fd z).2.2.2]; exact e.symm
              have f1 := fd (by omega)
              exact ⟨hG1, Or.inl ⟨by omega, by omega, Or.inr ⟨f1.1, f1.2.1, f1.2.2.1, by rw [nr (by omega)]; assumption⟩⟩⟩
            · skip
              refine w_jn ?_
              refine w_ite (fun c_7 => ?_) (fun c_7 => ?_)
              · skip
                refine w_bd (fun v15 hv15 => ?_)
                simp (disch := omega) only [iadd_id, isub_id, imul_id] at hv15
                refine w_bd (fun v16 hv16 => ?_)
                simp (disch := omega) only [iadd_id, isub_id, imul_id] at hv16
                refine hrc7 _ _ ?_ ?_
                · try dsimp only
                  refine ⟨?_, ?_, ?_, ?_⟩
                  · first | omega | grind
                  · first | omega | grind
                  · have fd : 0 ≤ v11 → (0 ≤ v11 ∧ v11 < tN T ∧ isi a v11 = 1 ∧ onw T (tl T k) v11 = v6) := fun z => by
                      rcases q10 with y | ⟨y1, y2, y3, y4⟩
                      · omega
                      · rw [hv9, at_onw w y1 y2 (by omega) (by omega) i0 (by omega)] at y4
                        rw [hv11]; exact ⟨y1, y2, y3, y4⟩
                    have fn : v11 < 0 → ∀ n : Int, 0 ≤ n → n < tN T → isi a n = 1 → onw T (tl T k) n ≠ v6 := fun z n n1 n2 n3 => by
                      rcases q10 with ⟨y1, y2⟩ | y
                      · have := y2 n n1 n2 n3
                        rw [ne_eq, hv9, at_onw w n1 n2 (by omega) (by omega) i0 (by omega)] at this
                        exact this
                      · omega
                    have nr : 0 ≤ v11 → near T a (tl T k) v11 = v5 := fun z => by
                      unfold near; rw [(fd z).2.2.2]; exact e.symm
                    rw [hv16, hv15]
                    first
                    | (rw [e]; have f2 := fn (by omega)
                       rw [Int.add_zero]
                       exact cnt_ext 8 (fun j j1 j2 => ⟨fun z => ⟨z.1, by have := z.2; omega⟩, fun z => ⟨z.1, by have y := hw.inr (n := j); have := f2 j j1 (by omega) z.1; have := z.2; omega⟩⟩))
                    | (have f1 := fd (by omega)
                       have ci := cnt_ins (p := fun o => isi a o = 1 ∧ onw T (tl T k) o < v6) (o := v11) f1.1 (fun z => by have := z.2; omega) 8
                       rw [if_pos (by omega), ← e] at ci
                       rw [← ci]
                       exact cnt_ext 8 (fun j j1 j2 => ⟨fun z => by
                         rcases z with z | z
                         · exact ⟨z.1, by have := z.2; omega⟩
                         · rw [z]; exact ⟨f1.2.2.1, by omega⟩, fun z => by
                         have y := hw.inr (n := j)
                         by_cases u : onw T (tl T k) j = v6
                         · right; exact onw_inj w (p := tl T k) j1 (by have := z.1; omega) f1.1 f1.2.1 (by omega) (by omega) (by omega)
                         · left; exact ⟨z.1, by have := z.2; omega⟩⟩))
                  · have fd : 0 ≤ v11 → (0 ≤ v11 ∧ v11 < tN T ∧ isi a v11 = 1 ∧ onw T (tl T k) v11 = v6) := fun z => by
                      rcases q10 with y | ⟨y1, y2, y3, y4⟩
                      · omega
                      · rw [hv9, at_onw w y1 y2 (by omega) (by omega) i0 (by omega)] at y4
                        rw [hv11]; exact ⟨y1, y2, y3, y4⟩
                    have fn : v11 < 0 → ∀ n : Int, 0 ≤ n → n < tN T → isi a n = 1 → onw T (tl T k) n ≠ v6 := fun z n n1 n2 n3 => by
                      rcases q10 with ⟨y1, y2⟩ | y
                      · have := y2 n n1 n2 n3
                        rw [ne_eq, hv9, at_onw w n1 n2 (by omega) (by omega) i0 (by omega)] at this
                        exact this
                      · omega
                    have nr : 0 ≤ v11 → near T a (tl T k) v11 = v5 := fun z => by
                      unfold near; rw [(fd z).2.2.2]; exact e.symm
                    intro n n1 n2 n3 n4
                    by_cases u : onw T (tl T k) n = v6
                    · first
                      | (exfalso; exact fn (by omega) n n1 n2 n3 u)
                      | (have f1 := fd (by omega)
                         have e2 : n = v11 := onw_inj w (p := tl T k) n1 n2 f1.1 f1.2.1 (by omega) (by omega) (by omega)
                         rw [e2, nr (by omega)]; assumption)
                    · exact ne n n1 n2 n3 (by omega)
                · try dsimp only
                  omega
              · skip
                refine w_bd (fun v15 hv15 => ?_)
                simp (disch := omega) only [iadd_id, isub_id, imul_id] at hv15
                refine w_bd (fun v16 hv16 => ?_)
                simp (disch := omega) only [iadd_id, isub_id, imul_id] at hv16
                refine hrc7 _ _ ?_ ?_
                · try dsimp only
                  refine ⟨?_, ?_, ?_, ?_⟩
                  · first | omega | grind
                  · first | omega | grind
                  · have fd : 0 ≤ v11 → (0 ≤ v11 ∧ v11 < tN T ∧ isi a v11 = 1 ∧ onw T (tl T k) v11 = v6) := fun z => by
                      rcases q10 with y | ⟨y1, y2, y3, y4⟩
                      · omega
                      · rw [hv9, at_onw w y1 y2 (by omega) (by omega) i0 (by omega)] at y4
                        rw [hv11]; exact ⟨y1, y2, y3, y4⟩
                    have fn : v11 < 0 → ∀ n : Int, 0 ≤ n → n < tN T → isi a n = 1 → onw T (tl T k) n ≠ v6 := fun z n n1 n2 n3 => by
                      rcases q10 with ⟨y1, y2⟩ | y
                      · have := y2 n n1 n2 n3
                        rw [ne_eq, hv9, at_onw w n1 n2 (by omega) (by omega) i0 (by omega)] at this
                        exact this
                      · omega
                    have nr : 0 ≤ v11 → near T a (tl T k) v11 = v5 := fun z => by
                      unfold near; rw [(fd z).2.2.2]; exact e.symm
                    rw [hv16, hv15]
                    first
                    | (rw [e]; have f2 := fn (by omega)
                       rw [Int.add_zero]
                       exact cnt_ext 8 (fun j j1 j2 => ⟨fun z => ⟨z.1, by have := z.2; omega⟩, fun z => ⟨z.1, by have y := hw.inr (n := j); have := f2 j j1 (by omega) z.1; have := z.2; omega⟩⟩))
                    | (have f1 := fd (by omega)
                       have ci := cnt_ins (p := fun o => isi a o = 1 ∧ onw T (tl T k) o < v6) (o := v11) f1.1 (fun z => by have := z.2; omega) 8
                       rw [if_pos (by omega), ← e] at ci
                       rw [← ci]
                       exact cnt_ext 8 (fun j j1 j2 => ⟨fun z => by
                         rcases z with z | z
                         · exact ⟨z.1, by have := z.2; omega⟩
                         · rw [z]; exact ⟨f1.2.2.1, by omega⟩, fun z => by
                         have y := hw.inr (n := j)
                         by_cases u : onw T (tl T k) j = v6
                         · right; exact onw_inj w (p := tl T k) j1 (by have := z.1; omega) f1.1 f1.2.1 (by omega) (by omega) (by omega)
                         · left; exact ⟨z.1, by have := z.2; omega⟩⟩))
                  · have fd : 0 ≤ v11 → (0 ≤ v11 ∧ v11 < tN T ∧ isi a v11 = 1 ∧ onw T (tl T k) v11 = v6) := fun z => by
                      rcases q10 with y | ⟨y1, y2, y3, y4⟩
                      · omega
                      · rw [hv9, at_onw w y1 y2 (by omega) (by omega) i0 (by omega)] at y4
                        rw [hv11]; exact ⟨y1, y2, y3, y4⟩
                    have fn : v11 < 0 → ∀ n : Int, 0 ≤ n → n < tN T → isi a n = 1 → onw T (tl T k) n ≠ v6 := fun z n n1 n2 n3 => by
                      rcases q10 with ⟨y1, y2⟩ | y
                      · have := y2 n n1 n2 n3
                        rw [ne_eq, hv9, at_onw w n1 n2 (by omega) (by omega) i0 (by omega)] at this
                        exact this
                      · omega
                    have nr : 0 ≤ v11 → near T a (tl T k) v11 = v5 := fun z => by
                      unfold near; rw [(fd z).2.2.2]; exact e.symm
                    intro n n1 n2 n3 n4
                    by_cases u : onw T (tl T k) n = v6
                    · first
                      | (exfalso; exact fn (by omega) n n1 n2 n3 u)
                      | (have f1 := fd (by omega)
                         have e2 : n = v11 := onw_inj w (p := tl T k) n1 n2 f1.1 f1.2.1 (by omega) (by omega) (by omega)
                         rw [e2, nr (by omega)]; assumption)
                    · exact ne n n1 n2 n3 (by omega)
                · try dsimp only
                  omega
        · skip
          refine w_rt ?_
          refine ⟨hG1, Or.inl ⟨by omega, by omega, Or.inl ⟨rfl, fun n n1 n2 n3 => ne n n1 n2 n3 (by have := onw_r w (p := tl T k) n1 n2 (by omega) (by omega); omega)⟩⟩⟩
      · try dsimp only
        refine ⟨?_, ?_, ?_, ?_⟩
        · first | omega | (subst_vars; first | rfl | assumption) | assumption
        · first | omega | (subst_vars; first | rfl | assumption) | assumption
        · rw [hv3, cnt_ext (q := fun _ => False) 8 (fun j j1 j2 => ⟨fun z => by have y := hw.inr (n := j); have := z.2; have t := onw_r w (p := tl T k) (n := j) (by omega) (by omega) (by have := w.li (i := k) (by omega) (by omega); omega) (by have := w.li (i := k) (by omega) (by omega); omega); omega, fun z => z.elim⟩)]
          have := cnt_more (p := fun _ => False) (m := 0) 8 (by omega) (fun _ _ _ z => z)
          rw [this]; rfl
        · intro n n1 n2 n3 n4; have := onw_r w (p := tl T k) n1 n2 (by have := w.li (i := k) (by omega) (by omega); omega) (by have := w.li (i := k) (by omega) (by omega); omega); omega
      · try dsimp only
        omega

/-! risk -/
def str (a : AS) (s : Int) : Prop := ∃ n : Int, 0 ≤ n ∧ n < 8 ∧ isi a n = 1 ∧ bt s n.toNat = 0 ∧ ∀ k : Int, 0 ≤ k → k < 4 → ¬ (isi a (lst a n k) = 1 ∧ bt s (lst a n k).toNat = 0)
def prk (a : AS) (many s : Int) : Prop := iand s (ixor a.1 (-1)) = 0 ∧ pcn s = many ∧ str a s
theorem fst4_none {v n : Int} : fst4 a v n = -1 ↔ ∀ k : Int, 0 ≤ k → k < 4 → ¬ (lst a n k ≠ -1 ∧ bt v (lst a n k).toNat = 1) := by
  unfold fst4
  constructor
  · intro h k k1 k2 z
    have hk : k = 0 ∨ k = 1 ∨ k = 2 ∨ k = 3 := by omega
    split at h
    · rename_i q; exact q.1 h
    · rename_i q0; split at h
      · rename_i q; exact q.1 h
      · rename_i q1; split at h
        · rename_i q; exact q.1 h
        · rename_i q2; split at h
          · rename_i q; exact q.1 h
          · rename_i q3
            rcases hk with rfl | rfl | rfl | rfl
            · exact q0 z
            · exact q1 z
            · exact q2 z
            · exact q3 z
  · intro h
    rw [if_neg (h 0 (by omega) (by omega)), if_neg (h 1 (by omega) (by omega)), if_neg (h 2 (by omega) (by omega)), if_neg (h 3 (by omega) (by omega))]
theorem x_leaves (w : WT T) (hw : WA T a) (hA_G : XA 27 a G) (hT_G : XT T G) {s : Int} (hs : 0 ≤ s ∧ s < 256) : WP (fX2_leavesOneAlone 33 (iand a.1 (ixor s (-1))) G) (fun r G' => G' = G ∧ ((r = 1 ∧ str a s) ∨ (r = 0 ∧ ¬ str a s))) := by
  have wr := w.rg
  have an := andn_bt hw.1.1 hw.1.2 hs.1 hs.2
  generalize iand a.1 (ixor s (-1)) = u at an
  obtain ⟨ur, ub⟩ := an
  have pt : ∀ n : Int, 0 ≤ n → n < 8 → bt u n.toNat = 1 → fst4 a u n = -1 → isi a n = 1 ∧ bt s n.toNat = 0 ∧ ∀ k : Int, 0 ≤ k → k < 4 → ¬ (isi a (lst a n k) = 1 ∧ bt s (lst a n k).toNat = 0) := fun n n1 n2 n3 n4 => by
    have b := (ub n.toNat (by omega)).mp n3
    refine ⟨by rw [isi_bt n1 n2]; exact b.1, b.2, fun k k1 k2 z => fst4_none.mp n4 k k1 k2 ?_⟩
    have l := hw.inr (n := lst a n k)
    refine ⟨by omega, (ub _ (by omega)).mpr ⟨by rw [← isi_bt (by omega) (by omega)]; exact z.1, z.2⟩⟩
  have pn : ∀ n : Int, 0 ≤ n → n < 8 → isi a n = 1 → bt s n.toNat = 0 → (∀ k : Int, 0 ≤ k → k < 4 → ¬ (isi a (lst a n k) = 1 ∧ bt s (lst a n k).toNat = 0)) → bt u n.toNat = 1 ∧ fst4 a u n = -1 := fun n n1 n2 n3 n4 n5 => by
    refine ⟨(ub n.toNat (by omega)).mpr ⟨by rw [← isi_bt n1 n2]; exact n3, n4⟩, fst4_none.mpr (fun k k1 k2 z => n5 k k1 k2 ?_)⟩
    have l := hw.lr n k
    have b := (ub (lst a n k).toNat (by omega)).mp z.2
    exact ⟨by rw [isi_bt (by omega) (by omega)]; exact b.1, b.2⟩
  unfold fX2_leavesOneAlone
  simp only [rf_33_1]
  refine w_bd (fun v1 hv1 => ?_)
  refine w_lpI (fun (v2 : Int) => (0 ≤ v2) ∧ (v2 ≤ 8) ∧ (∀ n : Int, 0 ≤ n → n < v2 → ¬ (bt u n.toNat = 1 ∧ fst4 a u n = -1))) (fun (v2 : Int) => (8 - v2).toNat) (fun rc3 v2 hI hrc3 => ?_) _ ?_ ?_
  · skip
    obtain ⟨i0, i1, e⟩ := hI
    refine w_ite (fun c_1 => ?_) (fun c_1 => ?_)
    · skip
      refine w_bp (x_has (by omega) (by omega) (by omega) (by omega)) (fun v4 hv4 => ?_)
      have q4 := bt_01 u v2.toNat
      refine w_jn ?_
      refine w_ite (fun c_2 => ?_) (fun c_2 => ?_)
      · skip
        refine w_bd (fun v6 hv6 => ?_)
        simp (disch := omega) only [iadd_id, isub_id, imul_id] at hv6
        refine hrc3 _ ?_ ?_
        · try dsimp only
          refine ⟨?_, ?_, ?_⟩
          · first | omega | grind
          · first | omega | grind
          · intro n n1 n2 n3; by_cases z : n = v2
            · rw [z] at n3; omega
            · exact e n n1 (by omega) n3
        · try dsimp only
          omega
      · skip
        refine w_bp (x_firstOf hA_G (hw.lr8 w) ⟨by omega, by omega⟩) (fun v7 hv7 => ?_)
        have qf := fst4_none (a := a) (v := u) (n := v2)
        refine w_ite (fun c_3 => ?_) (fun c_3 => ?_)
        · skip
          refine w_rz (by omega) ?_
          refine ⟨rfl, Or.inl ⟨rfl, v2, i0, by omega, pt v2 i0 (by omega) (by omega) (by omega)⟩⟩
        · skip
          refine w_bd (fun v6 hv6 => ?_)
          simp (disch := omega) only [iadd_id, isub_id, imul_id] at hv6
          refine hrc3 _ ?_ ?_
          · try dsimp only
            refine ⟨?_, ?_, ?_⟩
            · first | omega | grind
            · first | omega | grind
            · intro n n1 n2 n3; by_cases z : n = v2
              · rw [z] at n3; omega
              · exact e n n1 (by omega) n3
          · try dsimp only
            omega
    · skip
      refine w_rz (by omega) ?_
      refine ⟨rfl, Or.inr ⟨rfl, fun ⟨n, n1, n2, n3, n4, n5⟩ => e n n1 (by omega) (pn n n1 n2 n3 n4 n5)⟩⟩
  · try dsimp only
    refine ⟨?_, ?_, ?_⟩
    · first | omega | (subst_vars; first | rfl | assumption) | assumption
    · first | omega | (subst_vars; first | rfl | assumption) | assumption
    · intro n n1 n2; omega
  · try dsimp only
    omega

theorem x_riskySets (w : WT T) (hw : WA T a) (hA_G : XA 27 a G) (hT_G : XT T G) {many : Int} : fX2_riskySets 33 many G = some (cnt (prk a many) 256, G) := by
  have wr := w.rg
  have a1 := hA_G.1
  unfold fX2_riskySets
  simp only [rf_33_1]
  refine WP_eq ?_
  refine w_bd (fun v1 hv1 => ?_)
  refine w_bd (fun v2 hv2 => ?_)
  refine w_lpII (fun (v3 : Int) (v4 : Int) => (0 ≤ v4) ∧ (v4 ≤ 256) ∧ (v3 = cnt (prk a many) v4.toNat)) (fun (v3 : Int) (v4 : Int) => (256 - v4).toNat) (fun rc5 v3 v4 hI hrc5 => ?_) _ _ ?_ ?_
  · skip
    obtain ⟨i0, i1, e⟩ := hI
    have cr := cnt_r (prk a many) v4.toNat
    have pd : prk a many v4 ↔ iand v4 (ixor a.1 (-1)) = 0 ∧ pcn v4 = many ∧ str a v4 := Iff.rfl
    refine w_ite (fun c_1 => ?_) (fun c_1 => ?_)
    · skip
      refine w_jn ?_
      refine w_jn ?_
      refine w_ite (fun c_2 => ?_) (fun c_2 => ?_)
      · skip
        refine w_bp (x_popc (by omega) (by omega)) (fun v15 hv15 => ?_)
        have qv15 := pcn_r v4
        refine w_ite (fun c_3 => ?_) (fun c_3 => ?_)
        · skip
          refine w_bd (fun v8 hv8 => ?_)
          refine w_jn ?_
          refine w_ite (fun c_4 => ?_) (fun c_4 => ?_)
          · exfalso; omega
          · skip
            rw [a1]
            refine w_bpq (x_leaves w hw hA_G hT_G (s := v4) (by omega)) (fun v12 g12 q12 => ?_)
            replace q12 := q12.2
            refine w_ite (fun c_5 => ?_) (fun c_5 => ?_)
            · skip
              refine w_bd (fun v11 hv11 => ?_)
              simp (disch := omega) only [iadd_id, isub_id, imul_id] at hv11
              refine hrc5 _ _ ?_ ?_
              · try dsimp only
                refine ⟨?_, ?_, ?_⟩
                · first | omega | grind
                · first | omega | grind
                · first
                  | (rw [hv11, hv13, e, cnt_t (p := prk a many) i0 (pd.mpr ⟨by first | assumption | (rw [← a1]; assumption), by omega, by rcases q12 with z | z; exact z.2; omega⟩)]; done)
                  | (rw [hv11, cnt_f (p := prk a many) i0 (fun y => by
                       have y := pd.mp y
                       first
                       | (rcases q12 with z | z; omega; exact z.2 y.2.2)
                       | (have := y.2.1; omega)
                       | (have := y.1; first | contradiction | (rw [← a1] at this; contradiction)))]; exact e)
              · try dsimp only
                omega
            · skip
              refine w_bd (fun v13 hv13 => ?_)
              simp (disch := omega) only [iadd_id, isub_id, imul_id] at hv13
              refine w_bd (fun v11 hv11 => ?_)
              simp (disch := omega) only [iadd_id, isub_id, imul_id] at hv11
              refine hrc5 _ _ ?_ ?_
              · try dsimp only
                refine ⟨?_, ?_, ?_⟩
                · first | omega | grind
                · first | omega | grind
                · first
                  | (rw [hv11, hv13, e, cnt_t (p := prk a many) i0 (pd.mpr ⟨by first | assumption | (rw [← a1]; assumption), by omega, by rcases q12 with z | z; exact z.2; omega⟩)]; done)
                  | (rw [hv11, cnt_f (p := prk a many) i0 (fun y => by
                       have y := pd.mp y
                       first
                       | (rcases q12 with z | z; omega; exact z.2 y.2.2)
                       | (have := y.2.1; omega)
                       | (have := y.1; first | contradiction | (rw [← a1] at this; contradiction)))]; exact e)
              · try dsimp only
                omega
        · skip
          refine w_bd (fun v8 hv8 => ?_)
          refine w_jn ?_
          refine w_ite (fun c_6 => ?_) (fun c_6 => ?_)
          · skip
            refine w_bd (fun v11 hv11 => ?_)
            simp (disch := omega) only [iadd_id, isub_id, imul_id] at hv11
            refine hrc5 _ _ ?_ ?_
            · try dsimp only
              refine ⟨?_, ?_, ?_⟩
              · first | omega | grind
              · first | omega | grind
              · first
                | (rw [hv11, hv13, e, cnt_t (p := prk a many) i0 (pd.mpr ⟨by first | assumption | (rw [← a1]; assumption), by omega, by rcases q12 with z | z; exact z.2; omega⟩)]; done)
                | (rw [hv11, cnt_f (p := prk a many) i0 (fun y => by
                     have y := pd.mp y
                     first
                     | (rcases q12 with z | z; omega; exact z.2 y.2.2)
                     | (have := y.2.1; omega)
                     | (have := y.1; first | contradiction | (rw [← a1] at this; contradiction)))]; exact e)
            · try dsimp only
              omega
          · exfalso; omega
      · skip
        refine w_bd (fun v8 hv8 => ?_)
        refine w_jn ?_
        refine w_ite (fun c_7 => ?_) (fun c_7 => ?_)
        · skip
          refine w_bd (fun v11 hv11 => ?_)
          simp (disch := omega) only [iadd_id, isub_id, imul_id] at hv11
          refine hrc5 _ _ ?_ ?_
          · try dsimp only
            refine ⟨?_, ?_, ?_⟩
            · first | omega | grind
            · first | omega | grind
            · first
              | (rw [hv11, hv13, e, cnt_t (p := prk a many) i0 (pd.mpr ⟨by first | assumption | (rw [← a1]; assumption), by omega, by rcases q12 with z | z; exact z.2; omega⟩)]; done)
              | (rw [hv11, cnt_f (p := prk a many) i0 (fun y => by
                   have y := pd.mp y
                   first
                   | (rcases q12 with z | z; omega; exact z.2 y.2.2)
                   | (have := y.2.1; omega)
                   | (have := y.1; first | contradiction | (rw [← a1] at this; contradiction)))]; exact e)
          · try dsimp only
            omega
        · exfalso; omega
    · skip
      refine w_rt ?_
      refine ⟨?_, rfl⟩
      rw [e, show v4.toNat = 256 by omega]
  · try dsimp only
    refine ⟨?_, ?_, ?_⟩
    · first | omega | (subst_vars; first | rfl | assumption) | assumption
    · first | omega | (subst_vars; first | rfl | assumption) | assumption
    · first | omega | (subst_vars; first | rfl | assumption) | assumption
  · try dsimp only
    omega

theorem m_strands (w : WT T) (hw : WA T a) (hR_G : MR 0 a G) (hM_G : MT T G) {s : Int} (hs : 0 ≤ s ∧ s < 256) : WP (fX12_strands 111 s G) (fun r G' => G' = G ∧ ((r = 1 ∧ str a s) ∨ (r = 0 ∧ ¬ str a s))) := by
  have wr := w.rg
  unfold fX12_strands
  refine w_bd (fun v1 hv1 => ?_)
  refine w_bd (fun v2 hv2 => ?_)
  refine w_lpII (fun (v3 : Int) (v4 : Int) => (0 ≤ v4) ∧ (v4 ≤ tN T) ∧ ((v3 = 1 ∧ str a s) ∨ (v3 = 0 ∧ ∀ n : Int, 0 ≤ n → n < v4 → ¬ (isi a n = 1 ∧ bt s n.toNat = 0 ∧ ∀ k : Int, 0 ≤ k → k < 4 → ¬ (isi a (lst a n k) = 1 ∧ bt s (lst a n k).toNat = 0))))) (fun (v3 : Int) (v4 : Int) => (8 - v4).toNat) (fun rc5 v3 v4 hI hrc5 => ?_) _ _ ?_ ?_
  · skip
    obtain ⟨i0, i1, st⟩ := hI
    have be : v4 < 8 → iand (ishr s v4) 1 = bt s v4.toNat := fun z => bit_is (by omega) (by omega) i0 (by omega)
    have be0 := bt_01 s v4.toNat
    have lv := llen_rng a v4
    refine w_bp (m_nodes hM_G) (fun v6 hv6 => ?_)
    refine w_ite (fun c_1 => ?_) (fun c_1 => ?_)
    · skip
      refine w_bp (m_isIn (b := 0) hR_G (by omega) (by omega)) (fun v7 hv7 => ?_)
      have qv7 := hw.inr (n := v4)
      refine w_jn ?_
      refine w_jn ?_
      refine w_ite (fun c_2 => ?_) (fun c_2 => ?_)
      · skip
        refine w_bd (fun v10 hv10 => ?_)
        refine w_bd (fun v11 hv11 => ?_)
        refine w_bd (fun v12 hv12 => ?_)
        refine w_lpII (fun (v13 : Int) (v14 : Int) => (0 ≤ v14) ∧ (v14 ≤ llen a v4) ∧ ((v13 = 1 ∧ ∃ k : Int, 0 ≤ k ∧ k < v14 ∧ isi a (lst a v4 k) = 1 ∧ bt s (lst a v4 k).toNat = 0) ∨ (v13 = 0 ∧ ∀ k : Int, 0 ≤ k → k < v14 → ¬ (isi a (lst a v4 k) = 1 ∧ bt s (lst a v4 k).toNat = 0)))) (fun (v13 : Int) (v14 : Int) => (4 - v14).toNat) (fun rc15 v13 v14 hI hrc15 => ?_) _ _ ?_ ?_
        · skip
          obtain ⟨l0, l1, tt⟩ := hI
          have bq : 0 ≤ lst a v4 v14 → iand (ishr s (lst a v4 v14)) 1 = bt s (lst a v4 v14).toNat := fun z => bit_is (by omega) (by omega) z (by have := hw.lr v4 v14; omega)
          have bz := bt_01 s (lst a v4 v14).toNat
          refine w_bp (m_longOf (b := 0) hR_G (by omega) (by omega) (by omega)) (fun v16 hv16 => ?_)
          have qv16 := llen_rng a v4
          refine w_ite (fun c_3 => ?_) (fun c_3 => ?_)
          · skip
            refine w_bp (m_listedOf (b := 0) hR_G (by omega) (by omega) (by omega) (by omega) (by omega)) (fun v23 hv23 => ?_)
            have qv23 := hw.lr v4 v14
            refine w_bd (fun v24 hv24 => ?_)
            refine w_jn ?_
            refine w_jn ?_
            refine w_ite (fun c_4 => ?_) (fun c_4 => ?_)
            · skip
              refine w_bp (m_isIn (b := 0) hR_G (by omega) (by omega)) (fun v30 hv30 => ?_)
              have qv30 := hw.inr (n := v24)
              refine w_jn ?_
              refine w_ite (fun c_5 => ?_) (fun c_5 => ?_)
              · skip
                refine w_bd (fun v27 hv27 => ?_)
                refine w_bd (fun v28 hv28 => ?_)
                simp (disch := omega) only [iadd_id, isub_id, imul_id] at hv28
                refine hrc15 _ _ ?_ ?_
                · try dsimp only
                  refine ⟨?_, ?_, ?_⟩
                  · first | omega | grind
                  · first | omega | grind
                  · rw [hv28]
                    first
                    | (left; refine ⟨hv27, ?_⟩
                       rcases tt with ⟨s1, k, k1, k2, k3⟩ | ⟨s1, s2⟩
                       · exact ⟨k, k1, by omega, k3⟩
                       · first | (exfalso; omega) | exact ⟨v14, l0, by omega, by rw [← hv23, ← hv24]; omega, by rw [← bq (by rw [← hv23, ← hv24]; omega), ← hv23, ← hv24]; assumption⟩)
                    | (right; have s2 := tt.resolve_left (fun z => by omega); refine ⟨hv27, fun k k1 k2 z => ?_⟩
                       by_cases u : k = v14
                       · rw [u] at z
                         first
                         | (rw [← hv23, ← hv24] at z; have := z.1; omega)
                         | (have z2 := z.2; rw [← bq (by rw [← hv23, ← hv24]; omega), ← hv23, ← hv24] at z2; omega)
                       · exact s2.2 k k1 (by omega) z)
                · try dsimp only
                  omega
              · skip
                refine w_ite (fun c_6 => ?_) (fun c_6 => ?_)
                · skip
                  refine w_bd (fun v27 hv27 => ?_)
                  refine w_bd (fun v28 hv28 => ?_)
                  simp (disch := omega) only [iadd_id, isub_id, imul_id] at hv28
                  refine hrc15 _ _ ?_ ?_
                  · try dsimp only
                    refine ⟨?_, ?_, ?_⟩
                    · first | omega | grind
                    · first | omega | grind
                    · rw [hv28]
                      first
                      | (left; refine ⟨hv27, ?_⟩
                         rcases tt with ⟨s1, k, k1, k2, k3⟩ | ⟨s1, s2⟩
                         · exact ⟨k, k1, by omega, k3⟩
                         · first | (exfalso; omega) | exact ⟨v14, l0, by omega, by rw [← hv23, ← hv24]; omega, by rw [← bq (by rw [← hv23, ← hv24]; omega), ← hv23, ← hv24]; assumption⟩)
                      | (right; have s2 := tt.resolve_left (fun z => by omega); refine ⟨hv27, fun k k1 k2 z => ?_⟩
                         by_cases u : k = v14
                         · rw [u] at z
                           first
                           | (rw [← hv23, ← hv24] at z; have := z.1; omega)
                           | (have z2 := z.2; rw [← bq (by rw [← hv23, ← hv24]; omega), ← hv23, ← hv24] at z2; omega)
                         · exact s2.2 k k1 (by omega) z)
                  · try dsimp only
                    omega
                · skip
                  refine w_bd (fun v27 hv27 => ?_)
                  refine w_bd (fun v28 hv28 => ?_)
                  simp (disch := omega) only [iadd_id, isub_id, imul_id] at hv28
                  refine hrc15 _ _ ?_ ?_
                  · try dsimp only
                    refine ⟨?_, ?_, ?_⟩
                    · first | omega | grind
                    · first | omega | grind
                    · rw [hv28]
                      first
                      | (left; refine ⟨hv27, ?_⟩
                         rcases tt with ⟨s1, k, k1, k2, k3⟩ | ⟨s1, s2⟩
                         · exact ⟨k, k1, by omega, k3⟩
                         · first | (exfalso; omega) | exact ⟨v14, l0, by omega, by rw [← hv23, ← hv24]; omega, by rw [← bq (by rw [← hv23, ← hv24]; omega), ← hv23, ← hv24]; assumption⟩)
                      | (right; have s2 := tt.resolve_left (fun z => by omega); refine ⟨hv27, fun k k1 k2 z => ?_⟩
                         by_cases u : k = v14
                         · rw [u] at z
                           first
                           | (rw [← hv23, ← hv24] at z; have := z.1; omega)
                           | (have z2 := z.2; rw [← bq (by rw [← hv23, ← hv24]; omega), ← hv23, ← hv24] at z2; omega)
                         · exact s2.2 k k1 (by omega) z)
                  · try dsimp only
                    omega
            · skip
              refine w_bd (fun v27 hv27 => ?_)
              refine w_bd (fun v28 hv28 => ?_)
              simp (disch := omega) only [iadd_id, isub_id, imul_id] at hv28
              refine hrc15 _ _ ?_ ?_
              · try dsimp only
                refine ⟨?_, ?_, ?_⟩
                · first | omega | grind
                · first | omega | grind
                · rw [hv28]
                  first
                  | (left; refine ⟨hv27, ?_⟩
                     rcases tt with ⟨s1, k, k1, k2, k3⟩ | ⟨s1, s2⟩
                     · exact ⟨k, k1, by omega, k3⟩
                     · first | (exfalso; omega) | exact ⟨v14, l0, by omega, by rw [← hv23, ← hv24]; omega, by rw [← bq (by rw [← hv23, ← hv24]; omega), ← hv23, ← hv24]; assumption⟩)
                  | (right; have s2 := tt.resolve_left (fun z => by omega); refine ⟨hv27, fun k k1 k2 z => ?_⟩
                     by_cases u : k = v14
                     · rw [u] at z
                       first
                       | (rw [← hv23, ← hv24] at z; have := z.1; omega)
                       | (have z2 := z.2; rw [← bq (by rw [← hv23, ← hv24]; omega), ← hv23, ← hv24] at z2; omega)
                     · exact s2.2 k k1 (by omega) z)
              · try dsimp only
                omega
          · skip
            refine w_jn ?_
            refine w_jn ?_
            refine w_ite (fun c_7 => ?_) (fun c_7 => ?_)
            · skip
              refine w_jn ?_
              refine w_ite (fun c_8 => ?_) (fun c_8 => ?_)
              · skip
                refine w_bd (fun v19 hv19 => ?_)
                refine w_bd (fun v20 hv20 => ?_)
                simp (disch := omega) only [iadd_id, isub_id, imul_id] at hv20
                refine hrc5 _ _ ?_ ?_
                · try dsimp only
                  refine ⟨?_, ?_, ?_⟩
                  · first | omega | grind
                  · first | omega | grind
                  · rw [hv20]
                    first
                    | (left; rcases st with z | z
                       · exact ⟨hv19, z.2⟩
                       · refine ⟨hv19, v4, i0, by omega, by omega, by omega, fun k k1 k2 y => ?_⟩
                         rcases tt with ⟨s1, s2⟩ | ⟨s1, s2⟩
                         · omega
                         · rcases Int.lt_or_le k v14 with u | u
                           · exact s2 k k1 u y
                           · rw [llen_out hw (by omega), isi_neg (by omega)] at y; omega)
                    | (right; have s2 := st.resolve_left (fun z => by omega); refine ⟨hv19, fun n n1 n2 y => ?_⟩
                       by_cases u : n = v4
                       · rw [u] at y
                         first
                         | (have := y.1; have := y.2.1; omega)
                         | (rcases tt with ⟨s1, k, k1, k2, k3⟩ | ⟨s1, s3⟩
                            · exact y.2.2 k k1 (by omega) k3
                            · omega)
                       · exact s2.2 n n1 (by omega) y)
                · try dsimp only
                  omega
              · exfalso; omega
            · skip
              refine w_bd (fun v19 hv19 => ?_)
              refine w_bd (fun v20 hv20 => ?_)
              simp (disch := omega) only [iadd_id, isub_id, imul_id] at hv20
              refine hrc5 _ _ ?_ ?_
              · try dsimp only
                refine ⟨?_, ?_, ?_⟩
                · first | omega | grind
                · first | omega | grind
                · rw [hv20]
                  first
                  | (left; rcases st with z | z
                     · exact ⟨hv19, z.2⟩
                     · refine ⟨hv19, v4, i0, by omega, by omega, by omega, fun k k1 k2 y => ?_⟩
                       rcases tt with ⟨s1, s2⟩ | ⟨s1, s2⟩
                       · omega
                       · rcases Int.lt_or_le k v14 with u | u
                         · exact s2 k k1 u y
                         · rw [llen_out hw (by omega), isi_neg (by omega)] at y; omega)
                  | (right; have s2 := st.resolve_left (fun z => by omega); refine ⟨hv19, fun n n1 n2 y => ?_⟩
                     by_cases u : n = v4
                     · rw [u] at y
                       first
                       | (have := y.1; have := y.2.1; omega)
                       | (rcases tt with ⟨s1, k, k1, k2, k3⟩ | ⟨s1, s3⟩
                          · exact y.2.2 k k1 (by omega) k3
                          · omega)
                     · exact s2.2 n n1 (by omega) y)
              · try dsimp only
                omega
        · try dsimp only
          refine ⟨?_, ?_, ?_⟩
          · first | omega | (subst_vars; first | rfl | assumption) | assumption
          · first | omega | (subst_vars; first | rfl | assumption) | assumption
          · right; exact ⟨hv11, fun k k1 k2 => by omega⟩
        · try dsimp only
          omega
      · skip
        refine w_ite (fun c_9 => ?_) (fun c_9 => ?_)
        · skip
          refine w_bd (fun v10 hv10 => ?_)
          refine w_bd (fun v11 hv11 => ?_)
          refine w_bd (fun v12 hv12 => ?_)
          refine w_lpII (fun (v13 : Int) (v14 : Int) => (0 ≤ v14) ∧ (v14 ≤ llen a v4) ∧ ((v13 = 1 ∧ ∃ k : Int, 0 ≤ k ∧ k < v14 ∧ isi a (lst a v4 k) = 1 ∧ bt s (lst a v4 k).toNat = 0) ∨ (v13 = 0 ∧ ∀ k : Int, 0 ≤ k → k < v14 → ¬ (isi a (lst a v4 k) = 1 ∧ bt s (lst a v4 k).toNat = 0)))) (fun (v13 : Int) (v14 : Int) => (4 - v14).toNat) (fun rc15 v13 v14 hI hrc15 => ?_) _ _ ?_ ?_
          · skip
            obtain ⟨l0, l1, tt⟩ := hI
            have bq : 0 ≤ lst a v4 v14 → iand (ishr s (lst a v4 v14)) 1 = bt s (lst a v4 v14).toNat := fun z => bit_is (by omega) (by omega) z (by have := hw.lr v4 v14; omega)
            have bz := bt_01 s (lst a v4 v14).toNat
            refine w_bp (m_longOf (b := 0) hR_G (by omega) (by omega) (by omega)) (fun v16 hv16 => ?_)
            have qv16 := llen_rng a v4
            refine w_ite (fun c_10 => ?_) (fun c_10 => ?_)
            · skip
              refine w_bp (m_listedOf (b := 0) hR_G (by omega) (by omega) (by omega) (by omega) (by omega)) (fun v23 hv23 => ?_)
              have qv23 := hw.lr v4 v14
              refine w_bd (fun v24 hv24 => ?_)
              refine w_jn ?_
              refine w_jn ?_
              refine w_ite (fun c_11 => ?_) (fun c_11 => ?_)
              · skip
                refine w_bp (m_isIn (b := 0) hR_G (by omega) (by omega)) (fun v30 hv30 => ?_)
                have qv30 := hw.inr (n := v24)
                refine w_jn ?_
                refine w_ite (fun c_12 => ?_) (fun c_12 => ?_)
                · skip
                  refine w_bd (fun v27 hv27 => ?_)
                  refine w_bd (fun v28 hv28 => ?_)
                  simp (disch := omega) only [iadd_id, isub_id, imul_id] at hv28
                  refine hrc15 _ _ ?_ ?_
                  · try dsimp only
                    refine ⟨?_, ?_, ?_⟩
                    · first | omega | grind
                    · first | omega | grind
                    · rw [hv28]
                      first
                      | (left; refine ⟨hv27, ?_⟩
                         rcases tt with ⟨s1, k, k1, k2, k3⟩ | ⟨s1, s2⟩
                         · exact ⟨k, k1, by omega, k3⟩
                         · first | (exfalso; omega) | exact ⟨v14, l0, by omega, by rw [← hv23, ← hv24]; omega, by rw [← bq (by rw [← hv23, ← hv24]; omega), ← hv23, ← hv24]; assumption⟩)
                      | (right; have s2 := tt.resolve_left (fun z => by omega); refine ⟨hv27, fun k k1 k2 z => ?_⟩
                         by_cases u : k = v14
                         · rw [u] at z
                           first
                           | (rw [← hv23, ← hv24] at z; have := z.1; omega)
                           | (have z2 := z.2; rw [← bq (by rw [← hv23, ← hv24]; omega), ← hv23, ← hv24] at z2; omega)
                         · exact s2.2 k k1 (by omega) z)
                  · try dsimp only
                    omega
                · skip
                  refine w_ite (fun c_13 => ?_) (fun c_13 => ?_)
                  · skip
                    refine w_bd (fun v27 hv27 => ?_)
                    refine w_bd (fun v28 hv28 => ?_)
                    simp (disch := omega) only [iadd_id, isub_id, imul_id] at hv28
                    refine hrc15 _ _ ?_ ?_
                    · try dsimp only
                      refine ⟨?_, ?_, ?_⟩
                      · first | omega | grind
                      · first | omega | grind
                      · rw [hv28]
                        first
                        | (left; refine ⟨hv27, ?_⟩
                           rcases tt with ⟨s1, k, k1, k2, k3⟩ | ⟨s1, s2⟩
                           · exact ⟨k, k1, by omega, k3⟩
                           · first | (exfalso; omega) | exact ⟨v14, l0, by omega, by rw [← hv23, ← hv24]; omega, by rw [← bq (by rw [← hv23, ← hv24]; omega), ← hv23, ← hv24]; assumption⟩)
                        | (right; have s2 := tt.resolve_left (fun z => by omega); refine ⟨hv27, fun k k1 k2 z => ?_⟩
                           by_cases u : k = v14
                           · rw [u] at z
                             first
                             | (rw [← hv23, ← hv24] at z; have := z.1; omega)
                             | (have z2 := z.2; rw [← bq (by rw [← hv23, ← hv24]; omega), ← hv23, ← hv24] at z2; omega)
                           · exact s2.2 k k1 (by omega) z)
                    · try dsimp only
                      omega
                  · skip
                    refine w_bd (fun v27 hv27 => ?_)
                    refine w_bd (fun v28 hv28 => ?_)
                    simp (disch := omega) only [iadd_id, isub_id, imul_id] at hv28
                    refine hrc15 _ _ ?_ ?_
                    · try dsimp only
                      refine ⟨?_, ?_, ?_⟩
                      · first | omega | grind
                      · first | omega | grind
                      · rw [hv28]
                        first
                        | (left; refine ⟨hv27, ?_⟩
                           rcases tt with ⟨s1, k, k1, k2, k3⟩ | ⟨s1, s2⟩
                           · exact ⟨k, k1, by omega, k3⟩
                           · first | (exfalso; omega) | exact ⟨v14, l0, by omega, by rw [← hv23, ← hv24]; omega, by rw [← bq (by rw [← hv23, ← hv24]; omega), ← hv23, ← hv24]; assumption⟩)
                        | (right; have s2 := tt.resolve_left (fun z => by omega); refine ⟨hv27, fun k k1 k2 z => ?_⟩
                           by_cases u : k = v14
                           · rw [u] at z
                             first
                             | (rw [← hv23, ← hv24] at z; have := z.1; omega)
                             | (have z2 := z.2; rw [← bq (by rw [← hv23, ← hv24]; omega), ← hv23, ← hv24] at z2; omega)
                           · exact s2.2 k k1 (by omega) z)
                    · try dsimp only
                      omega
              · skip
                refine w_bd (fun v27 hv27 => ?_)
                refine w_bd (fun v28 hv28 => ?_)
                simp (disch := omega) only [iadd_id, isub_id, imul_id] at hv28
                refine hrc15 _ _ ?_ ?_
                · try dsimp only
                  refine ⟨?_, ?_, ?_⟩
                  · first | omega | grind
                  · first | omega | grind
                  · rw [hv28]
                    first
                    | (left; refine ⟨hv27, ?_⟩
                       rcases tt with ⟨s1, k, k1, k2, k3⟩ | ⟨s1, s2⟩
                       · exact ⟨k, k1, by omega, k3⟩
                       · first | (exfalso; omega) | exact ⟨v14, l0, by omega, by rw [← hv23, ← hv24]; omega, by rw [← bq (by rw [← hv23, ← hv24]; omega), ← hv23, ← hv24]; assumption⟩)
                    | (right; have s2 := tt.resolve_left (fun z => by omega); refine ⟨hv27, fun k k1 k2 z => ?_⟩
                       by_cases u : k = v14
                       · rw [u] at z
                         first
                         | (rw [← hv23, ← hv24] at z; have := z.1; omega)
                         | (have z2 := z.2; rw [← bq (by rw [← hv23, ← hv24]; omega), ← hv23, ← hv24] at z2; omega)
                       · exact s2.2 k k1 (by omega) z)
                · try dsimp only
                  omega
            · skip
              refine w_jn ?_
              refine w_jn ?_
              refine w_ite (fun c_14 => ?_) (fun c_14 => ?_)
              · skip
                refine w_jn ?_
                refine w_ite (fun c_15 => ?_) (fun c_15 => ?_)
                · exfalso; omega
                · skip
                  refine w_ite (fun c_16 => ?_) (fun c_16 => ?_)
                  · skip
                    refine w_bd (fun v19 hv19 => ?_)
                    refine w_bd (fun v20 hv20 => ?_)
                    simp (disch := omega) only [iadd_id, isub_id, imul_id] at hv20
                    refine hrc5 _ _ ?_ ?_
                    · try dsimp only
                      refine ⟨?_, ?_, ?_⟩
                      · first | omega | grind
                      · first | omega | grind
                      · rw [hv20]
                        first
                        | (left; rcases st with z | z
                           · exact ⟨hv19, z.2⟩
                           · refine ⟨hv19, v4, i0, by omega, by omega, by omega, fun k k1 k2 y => ?_⟩
                             rcases tt with ⟨s1, s2⟩ | ⟨s1, s2⟩
                             · omega
                             · rcases Int.lt_or_le k v14 with u | u
                               · exact s2 k k1 u y
                               · rw [llen_out hw (by omega), isi_neg (by omega)] at y; omega)
                        | (right; have s2 := st.resolve_left (fun z => by omega); refine ⟨hv19, fun n n1 n2 y => ?_⟩
                           by_cases u : n = v4
                           · rw [u] at y
                             first
                             | (have := y.1; have := y.2.1; omega)
                             | (rcases tt with ⟨s1, k, k1, k2, k3⟩ | ⟨s1, s3⟩
                                · exact y.2.2 k k1 (by omega) k3
                                · omega)
                           · exact s2.2 n n1 (by omega) y)
                    · try dsimp only
                      omega
                  · skip
                    refine w_bd (fun v19 hv19 => ?_)
                    refine w_bd (fun v20 hv20 => ?_)
                    simp (disch := omega) only [iadd_id, isub_id, imul_id] at hv20
                    refine hrc5 _ _ ?_ ?_
                    · try dsimp only
                      refine ⟨?_, ?_, ?_⟩
                      · first | omega | grind
                      · first | omega | grind
                      · rw [hv20]
                        first
                        | (left; rcases st with z | z
                           · exact ⟨hv19, z.2⟩
                           · refine ⟨hv19, v4, i0, by omega, by omega, by omega, fun k k1 k2 y => ?_⟩
                             rcases tt with ⟨s1, s2⟩ | ⟨s1, s2⟩
                             · omega
                             · rcases Int.lt_or_le k v14 with u | u
                               · exact s2 k k1 u y
                               · rw [llen_out hw (by omega), isi_neg (by omega)] at y; omega)
                        | (right; have s2 := st.resolve_left (fun z => by omega); refine ⟨hv19, fun n n1 n2 y => ?_⟩
                           by_cases u : n = v4
                           · rw [u] at y
                             first
                             | (have := y.1; have := y.2.1; omega)
                             | (rcases tt with ⟨s1, k, k1, k2, k3⟩ | ⟨s1, s3⟩
                                · exact y.2.2 k k1 (by omega) k3
                                · omega)
                           · exact s2.2 n n1 (by omega) y)
                    · try dsimp only
                      omega
              · skip
                refine w_bd (fun v19 hv19 => ?_)
                refine w_bd (fun v20 hv20 => ?_)
                simp (disch := omega) only [iadd_id, isub_id, imul_id] at hv20
                refine hrc5 _ _ ?_ ?_
                · try dsimp only
                  refine ⟨?_, ?_, ?_⟩
                  · first | omega | grind
                  · first | omega | grind
                  · rw [hv20]
                    first
                    | (left; rcases st with z | z
                       · exact ⟨hv19, z.2⟩
                       · refine ⟨hv19, v4, i0, by omega, by omega, by omega, fun k k1 k2 y => ?_⟩
                         rcases tt with ⟨s1, s2⟩ | ⟨s1, s2⟩
                         · omega
                         · rcases Int.lt_or_le k v14 with u | u
                           · exact s2 k k1 u y
                           · rw [llen_out hw (by omega), isi_neg (by omega)] at y; omega)
                    | (right; have s2 := st.resolve_left (fun z => by omega); refine ⟨hv19, fun n n1 n2 y => ?_⟩
                       by_cases u : n = v4
                       · rw [u] at y
                         first
                         | (have := y.1; have := y.2.1; omega)
                         | (rcases tt with ⟨s1, k, k1, k2, k3⟩ | ⟨s1, s3⟩
                            · exact y.2.2 k k1 (by omega) k3
                            · omega)
                       · exact s2.2 n n1 (by omega) y)
                · try dsimp only
                  omega
          · try dsimp only
            refine ⟨?_, ?_, ?_⟩
            · first | omega | (subst_vars; first | rfl | assumption) | assumption
            · first | omega | (subst_vars; first | rfl | assumption) | assumption
            · right; exact ⟨hv11, fun k k1 k2 => by omega⟩
          · try dsimp only
            omega
        · skip
          refine w_bd (fun v10 hv10 => ?_)
          refine w_bd (fun v11 hv11 => ?_)
          refine w_bd (fun v12 hv12 => ?_)
          refine w_lpII (fun (v13 : Int) (v14 : Int) => (0 ≤ v14) ∧ (v14 ≤ llen a v4) ∧ ((v13 = 1 ∧ ∃ k : Int, 0 ≤ k ∧ k < v14 ∧ isi a (lst a v4 k) = 1 ∧ bt s (lst a v4 k).toNat = 0) ∨ (v13 = 0 ∧ ∀ k : Int, 0 ≤ k → k < v14 → ¬ (isi a (lst a v4 k) = 1 ∧ bt s (lst a v4 k).toNat = 0)))) (fun (v13 : Int) (v14 : Int) => (4 - v14).toNat) (fun rc15 v13 v14 hI hrc15 => ?_) _ _ ?_ ?_
          · skip
            obtain ⟨l0, l1, tt⟩ := hI
            have bq : 0 ≤ lst a v4 v14 → iand (ishr s (lst a v4 v14)) 1 = bt s (lst a v4 v14).toNat := fun z => bit_is (by omega) (by omega) z (by have := hw.lr v4 v14; omega)
            have bz := bt_01 s (lst a v4 v14).toNat
            refine w_bp (m_longOf (b := 0) hR_G (by omega) (by omega) (by omega)) (fun v16 hv16 => ?_)
            have qv16 := llen_rng a v4
            refine w_ite (fun c_17 => ?_) (fun c_17 => ?_)
            · skip
              refine w_bp (m_listedOf (b := 0) hR_G (by omega) (by omega) (by omega) (by omega) (by omega)) (fun v23 hv23 => ?_)
              have qv23 := hw.lr v4 v14
              refine w_bd (fun v24 hv24 => ?_)
              refine w_jn ?_
              refine w_jn ?_
              refine w_ite (fun c_18 => ?_) (fun c_18 => ?_)
              · skip
                refine w_bp (m_isIn (b := 0) hR_G (by omega) (by omega)) (fun v30 hv30 => ?_)
                have qv30 := hw.inr (n := v24)
                refine w_jn ?_
                refine w_ite (fun c_19 => ?_) (fun c_19 => ?_)
                · skip
                  refine w_bd (fun v27 hv27 => ?_)
                  refine w_bd (fun v28 hv28 => ?_)
                  simp (disch := omega) only [iadd_id, isub_id, imul_id] at hv28
                  refine hrc15 _ _ ?_ ?_
                  · try dsimp only
                    refine ⟨?_, ?_, ?_⟩
                    · first | omega | grind
                    · first | omega | grind
                    · rw [hv28]
                      first
                      | (left; refine ⟨hv27, ?_⟩
                         rcases tt with ⟨s1, k, k1, k2, k3⟩ | ⟨s1, s2⟩
                         · exact ⟨k, k1, by omega, k3⟩
                         · first | (exfalso; omega) | exact ⟨v14, l0, by omega, by rw [← hv23, ← hv24]; omega, by rw [← bq (by rw [← hv23, ← hv24]; omega), ← hv23, ← hv24]; assumption⟩)
                      | (right; have s2 := tt.resolve_left (fun z => by omega); refine ⟨hv27, fun k k1 k2 z => ?_⟩
                         by_cases u : k = v14
                         · rw [u] at z
                           first
                           | (rw [← hv23, ← hv24] at z; have := z.1; omega)
                           | (have z2 := z.2; rw [← bq (by rw [← hv23, ← hv24]; omega), ← hv23, ← hv24] at z2; omega)
                         · exact s2.2 k k1 (by omega) z)
                  · try dsimp only
                    omega
                · skip
                  refine w_ite (fun c_20 => ?_) (fun c_20 => ?_)
                  · skip
                    refine w_bd (fun v27 hv27 => ?_)
                    refine w_bd (fun v28 hv28 => ?_)
                    simp (disch := omega) only [iadd_id, isub_id, imul_id] at hv28
                    refine hrc15 _ _ ?_ ?_
                    · try dsimp only
                      refine ⟨?_, ?_, ?_⟩
                      · first | omega | grind
                      · first | omega | grind
                      · rw [hv28]
                        first
                        | (left; refine ⟨hv27, ?_⟩
                           rcases tt with ⟨s1, k, k1, k2, k3⟩ | ⟨s1, s2⟩
                           · exact ⟨k, k1, by omega, k3⟩
                           · first | (exfalso; omega) | exact ⟨v14, l0, by omega, by rw [← hv23, ← hv24]; omega, by rw [← bq (by rw [← hv23, ← hv24]; omega), ← hv23, ← hv24]; assumption⟩)
                        | (right; have s2 := tt.resolve_left (fun z => by omega); refine ⟨hv27, fun k k1 k2 z => ?_⟩
                           by_cases u : k = v14
                           · rw [u] at z
                             first
                             | (rw [← hv23, ← hv24] at z; have := z.1; omega)
                             | (have z2 := z.2; rw [← bq (by rw [← hv23, ← hv24]; omega), ← hv23, ← hv24] at z2; omega)
                           · exact s2.2 k k1 (by omega) z)
                    · try dsimp only
                      omega
                  · skip
                    refine w_bd (fun v27 hv27 => ?_)
                    refine w_bd (fun v28 hv28 => ?_)
                    simp (disch := omega) only [iadd_id, isub_id, imul_id] at hv28
                    refine hrc15 _ _ ?_ ?_
                    · try dsimp only
                      refine ⟨?_, ?_, ?_⟩
                      · first | omega | grind
                      · first | omega | grind
                      · rw [hv28]
                        first
                        | (left; refine ⟨hv27, ?_⟩
                           rcases tt with ⟨s1, k, k1, k2, k3⟩ | ⟨s1, s2⟩
                           · exact ⟨k, k1, by omega, k3⟩
                           · first | (exfalso; omega) | exact ⟨v14, l0, by omega, by rw [← hv23, ← hv24]; omega, by rw [← bq (by rw [← hv23, ← hv24]; omega), ← hv23, ← hv24]; assumption⟩)
                        | (right; have s2 := tt.resolve_left (fun z => by omega); refine ⟨hv27, fun k k1 k2 z => ?_⟩
                           by_cases u : k = v14
                           · rw [u] at z
                             first
                             | (rw [← hv23, ← hv24] at z; have := z.1; omega)
                             | (have z2 := z.2; rw [← bq (by rw [← hv23, ← hv24]; omega), ← hv23, ← hv24] at z2; omega)
                           · exact s2.2 k k1 (by omega) z)
                    · try dsimp only
                      omega
              · skip
                refine w_bd (fun v27 hv27 => ?_)
                refine w_bd (fun v28 hv28 => ?_)
                simp (disch := omega) only [iadd_id, isub_id, imul_id] at hv28
                refine hrc15 _ _ ?_ ?_
                · try dsimp only
                  refine ⟨?_, ?_, ?_⟩
                  · first | omega | grind
                  · first | omega | grind
                  · rw [hv28]
                    first
                    | (left; refine ⟨hv27, ?_⟩
                       rcases tt with ⟨s1, k, k1, k2, k3⟩ | ⟨s1, s2⟩
                       · exact ⟨k, k1, by omega, k3⟩
                       · first | (exfalso; omega) | exact ⟨v14, l0, by omega, by rw [← hv23, ← hv24]; omega, by rw [← bq (by rw [← hv23, ← hv24]; omega), ← hv23, ← hv24]; assumption⟩)
                    | (right; have s2 := tt.resolve_left (fun z => by omega); refine ⟨hv27, fun k k1 k2 z => ?_⟩
                       by_cases u : k = v14
                       · rw [u] at z
                         first
                         | (rw [← hv23, ← hv24] at z; have := z.1; omega)
                         | (have z2 := z.2; rw [← bq (by rw [← hv23, ← hv24]; omega), ← hv23, ← hv24] at z2; omega)
                       · exact s2.2 k k1 (by omega) z)
                · try dsimp only
                  omega
            · skip
              refine w_jn ?_
              refine w_jn ?_
              refine w_ite (fun c_21 => ?_) (fun c_21 => ?_)
              · skip
                refine w_jn ?_
                refine w_ite (fun c_22 => ?_) (fun c_22 => ?_)
                · skip
                  refine w_bd (fun v19 hv19 => ?_)
                  refine w_bd (fun v20 hv20 => ?_)
                  simp (disch := omega) only [iadd_id, isub_id, imul_id] at hv20
                  refine hrc5 _ _ ?_ ?_
                  · try dsimp only
                    refine ⟨?_, ?_, ?_⟩
                    · first | omega | grind
                    · first | omega | grind
                    · rw [hv20]
                      first
                      | (left; rcases st with z | z
                         · exact ⟨hv19, z.2⟩
                         · refine ⟨hv19, v4, i0, by omega, by omega, by omega, fun k k1 k2 y => ?_⟩
                           rcases tt with ⟨s1, s2⟩ | ⟨s1, s2⟩
                           · omega
                           · rcases Int.lt_or_le k v14 with u | u
                             · exact s2 k k1 u y
                             · rw [llen_out hw (by omega), isi_neg (by omega)] at y; omega)
                      | (right; have s2 := st.resolve_left (fun z => by omega); refine ⟨hv19, fun n n1 n2 y => ?_⟩
                         by_cases u : n = v4
                         · rw [u] at y
                           first
                           | (have := y.1; have := y.2.1; omega)
                           | (rcases tt with ⟨s1, k, k1, k2, k3⟩ | ⟨s1, s3⟩
                              · exact y.2.2 k k1 (by omega) k3
                              · omega)
                         · exact s2.2 n n1 (by omega) y)
                  · try dsimp only
                    omega
                · exfalso; omega
              · skip
                refine w_bd (fun v19 hv19 => ?_)
                refine w_bd (fun v20 hv20 => ?_)
                simp (disch := omega) only [iadd_id, isub_id, imul_id] at hv20
                refine hrc5 _ _ ?_ ?_
                · try dsimp only
                  refine ⟨?_, ?_, ?_⟩
                  · first | omega | grind
                  · first | omega | grind
                  · rw [hv20]
                    first
                    | (left; rcases st with z | z
                       · exact ⟨hv19, z.2⟩
                       · refine ⟨hv19, v4, i0, by omega, by omega, by omega, fun k k1 k2 y => ?_⟩
                         rcases tt with ⟨s1, s2⟩ | ⟨s1, s2⟩
                         · omega
                         · rcases Int.lt_or_le k v14 with u | u
                           · exact s2 k k1 u y
                           · rw [llen_out hw (by omega), isi_neg (by omega)] at y; omega)
                    | (right; have s2 := st.resolve_left (fun z => by omega); refine ⟨hv19, fun n n1 n2 y => ?_⟩
                       by_cases u : n = v4
                       · rw [u] at y
                         first
                         | (have := y.1; have := y.2.1; omega)
                         | (rcases tt with ⟨s1, k, k1, k2, k3⟩ | ⟨s1, s3⟩
                            · exact y.2.2 k k1 (by omega) k3
                            · omega)
                       · exact s2.2 n n1 (by omega) y)
                · try dsimp only
                  omega
          · try dsimp only
            refine ⟨?_, ?_, ?_⟩
            · first | omega | (subst_vars; first | rfl | assumption) | assumption
            · first | omega | (subst_vars; first | rfl | assumption) | assumption
            · right; exact ⟨hv11, fun k k1 k2 => by omega⟩
          · try dsimp only
            omega
    · skip
      refine w_rz (by rcases st with z | z <;> omega) ?_
      refine ⟨rfl, ?_⟩
      rcases st with z | ⟨z1, z2⟩
      · exact Or.inl z
      · exact Or.inr ⟨z1, fun ⟨n, n1, n2, n3, n4, n5⟩ => z2 n n1 (by have := hw.inr (n := n); omega) ⟨n3, n4, n5⟩⟩
  · try dsimp only
    refine ⟨?_, ?_, ?_⟩
    · first | omega | (subst_vars; first | rfl | assumption) | assumption
    · first | omega | (subst_vars; first | rfl | assumption) | assumption
    · right; exact ⟨hv1, fun n n1 n2 => by omega⟩
  · try dsimp only
    omega

theorem m_risk (w : WT T) (hw : WA T a) (hR_G : MR 0 a G) (hM_G : MT T G) {many : Int} : WP (fX12_risk 111 many G) (fun r G' => G' = up G 111 0 0 ∧ r = (if 1 ≤ many ∧ many ≤ 3 then cnt (prk a many) 256 else -1)) := by
  have wr := w.rg
  unfold fX12_risk
  refine w_bh (fun G1 hG1 => ?_)
  have hR_G1 : MR 0 a G1 := hR_G.fr (by rw [hG1, up_ne (by decide)])
  have hM_G1 : MT T G1 := hM_G.fr (by rw [hG1, up_ne (by decide)]) (by rw [hG1, up_ne (by decide)])
  refine w_bp (m_within) (fun v2 hv2 => ?_)
  have qv2 : ((1 ≤ many ∧ many ≤ 3) ∧ v2 = 1) ∨ (¬ (1 ≤ many ∧ many ≤ 3) ∧ v2 = 0) := by rw [hv2]; exact ite01 _
  refine w_ite (fun c_1 => ?_) (fun c_1 => ?_)
  · skip
    refine w_rt ?_
    exact ⟨hG1, by rw [if_neg (by omega)]⟩
  · skip
    refine w_bp (m_inSet w (b := 0) (by omega) hM_G1 hR_G1 hw) (fun v3 hv3 => ?_)
    refine w_bd (fun v4 hv4 => ?_)
    refine w_bd (fun v5 hv5 => ?_)
    refine w_bd (fun v6 hv6 => ?_)
    refine w_lpII (fun (v7 : Int) (v8 : Int) => (1 ≤ v8) ∧ (v8 ≤ 256) ∧ (v7 = cnt (prk a many) v8.toNat)) (fun (v7 : Int) (v8 : Int) => (256 - v8).toNat) (fun rc9 v7 v8 hI hrc9 => ?_) _ _ ?_ ?_
    · skip
      obtain ⟨i0, i1, e⟩ := hI
      have cr := cnt_r (prk a many) v8.toNat
      have pd : prk a many v8 ↔ iand v8 (ixor a.1 (-1)) = 0 ∧ pcn v8 = many ∧ str a v8 := Iff.rfl
      have a4 : v4 = a.1 := by rw [hv4, hv3]
      refine w_ite (fun c_2 => ?_) (fun c_2 => ?_)
      · skip
        refine w_jn ?_
        refine w_jn ?_
        refine w_ite (fun c_3 => ?_) (fun c_3 => ?_)
        · skip
          refine w_bp (m_manyOf (by omega) (by omega)) (fun v15 hv15 => ?_)
          have qv15 := pcn_r v8
          refine w_ite (fun c_4 => ?_) (fun c_4 => ?_)
          · skip
            refine w_bpq (m_strands w hw hR_G1 hM_G1 (s := v8) (by omega)) (fun v16 g16 q16 => ?_)
            replace q16 := q16.2
            refine w_ite (fun c_5 => ?_) (fun c_5 => ?_)
            · skip
              refine w_bd (fun v12 hv12 => ?_)
              simp (disch := omega) only [iadd_id, isub_id, imul_id] at hv12
              refine w_bd (fun v13 hv13 => ?_)
              simp (disch := omega) only [iadd_id, isub_id, imul_id] at hv13
              refine hrc9 _ _ ?_ ?_
              · try dsimp only
                refine ⟨?_, ?_, ?_⟩
                · first | omega | grind
                · first | omega | grind
                · first
                  | (rw [hv13, hv12, e, cnt_t (p := prk a many) (by omega) (pd.mpr ⟨by rw [← a4]; assumption, by omega, by rcases q16 with z | z; exact z.2; omega⟩)]; done)
                  | (rw [hv13, hv12, e, cnt_f (p := prk a many) (by omega) (fun y => by
                       have y := pd.mp y
                       first
                       | (rcases q16 with z | z; omega; exact z.2 y.2.2)
                       | (have := y.2.1; omega)
                       | (have := y.1; rw [← a4] at this; contradiction))]; omega)
              · try dsimp only
                omega
            · skip
              refine w_bd (fun v12 hv12 => ?_)
              simp (disch := omega) only [iadd_id, isub_id, imul_id] at hv12
              refine w_bd (fun v13 hv13 => ?_)
              simp (disch := omega) only [iadd_id, isub_id, imul_id] at hv13
              refine hrc9 _ _ ?_ ?_
              · try dsimp only
                refine ⟨?_, ?_, ?_⟩
                · first | omega | grind
                · first | omega | grind
                · first
                  | (rw [hv13, hv12, e, cnt_t (p := prk a many) (by omega) (pd.mpr ⟨by rw [← a4]; assumption, by omega, by rcases q16 with z | z; exact z.2; omega⟩)]; done)
                  | (rw [hv13, hv12, e, cnt_f (p := prk a many) (by omega) (fun y => by
                       have y := pd.mp y
                       first
                       | (rcases q16 with z | z; omega; exact z.2 y.2.2)
                       | (have := y.2.1; omega)
                       | (have := y.1; rw [← a4] at this; contradiction))]; omega)
              · try dsimp only
                omega
          · skip
            refine w_bd (fun v12 hv12 => ?_)
            simp (disch := omega) only [iadd_id, isub_id, imul_id] at hv12
            refine w_bd (fun v13 hv13 => ?_)
            simp (disch := omega) only [iadd_id, isub_id, imul_id] at hv13
            refine hrc9 _ _ ?_ ?_
            · try dsimp only
              refine ⟨?_, ?_, ?_⟩
              · first | omega | grind
              · first | omega | grind
              · first
                | (rw [hv13, hv12, e, cnt_t (p := prk a many) (by omega) (pd.mpr ⟨by rw [← a4]; assumption, by omega, by rcases q16 with z | z; exact z.2; omega⟩)]; done)
                | (rw [hv13, hv12, e, cnt_f (p := prk a many) (by omega) (fun y => by
                     have y := pd.mp y
                     first
                     | (rcases q16 with z | z; omega; exact z.2 y.2.2)
                     | (have := y.2.1; omega)
                     | (have := y.1; rw [← a4] at this; contradiction))]; omega)
            · try dsimp only
              omega
        · skip
          refine w_bd (fun v12 hv12 => ?_)
          simp (disch := omega) only [iadd_id, isub_id, imul_id] at hv12
          refine w_bd (fun v13 hv13 => ?_)
          simp (disch := omega) only [iadd_id, isub_id, imul_id] at hv13
          refine hrc9 _ _ ?_ ?_
          · try dsimp only
            refine ⟨?_, ?_, ?_⟩
            · first | omega | grind
            · first | omega | grind
            · first
              | (rw [hv13, hv12, e, cnt_t (p := prk a many) (by omega) (pd.mpr ⟨by rw [← a4]; assumption, by omega, by rcases q16 with z | z; exact z.2; omega⟩)]; done)
              | (rw [hv13, hv12, e, cnt_f (p := prk a many) (by omega) (fun y => by
                   have y := pd.mp y
                   first
                   | (rcases q16 with z | z; omega; exact z.2 y.2.2)
                   | (have := y.2.1; omega)
                   | (have := y.1; rw [← a4] at this; contradiction))]; omega)
          · try dsimp only
            omega
      · skip
        refine w_rt ?_
        exact ⟨hG1, by rw [if_pos (by omega), e, show v8.toNat = 256 by omega]⟩
    · try dsimp only
      refine ⟨?_, ?_, ?_⟩
      · first | omega | (subst_vars; first | rfl | assumption) | assumption
      · first | omega | (subst_vars; first | rfl | assumption) | assumption
      · rw [hv5, hv6]; show (0 : Int) = 0 + pif (prk a many ((0 : Nat) : Int)) 1 0; rw [pif_f (fun z => by have := z.2.1; rw [show pcn ((0 : Nat) : Int) = 0 by decide] at this; omega)]; rfl
    · try dsimp only
      omega

end LOO
