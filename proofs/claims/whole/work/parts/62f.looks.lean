section LOO
variable {b : Nat} {a : AS} {G : Hp} {T : TT}
/-! who lists whom -/
def lsd (a : AS) (n m : Int) : Prop := ∃ k : Int, 0 ≤ k ∧ k < 4 ∧ lst a n k = m
def pho (a : AS) (m n : Int) : Prop := isi a n = 1 ∧ lsd a n m
theorem lsd_in (hw : WA T a) {n m : Int} (hm : 0 ≤ m) (h : lsd a n m) : isi a n = 1 := by
  obtain ⟨k, k1, k2, k3⟩ := h
  rcases isi_01 a n with q | q
  · have := (hw.o q).1 k; omega
  · exact q
theorem x_hostsOf (w : WT T) (hw : WA T a) (hA_G : XA 27 a G) (hT_G : XT T G) {n : Int} (hn : 0 ≤ n) : fX2_hostsOf 33 n G = some (bits (pho a n) 8, G) := by
  have wr := w.rg
  unfold fX2_hostsOf
  simp only [rf_33_1]
  refine WP_eq ?_
  refine w_bd (fun v1 hv1 => ?_)
  refine w_bd (fun v2 hv2 => ?_)
  refine w_lpII (fun (v3 : Int) (v4 : Int) => (0 ≤ v4) ∧ (v4 ≤ 8) ∧ (v3 = bits (pho a n) v4.toNat)) (fun (v3 : Int) (v4 : Int) => (8 - v4).toNat) (fun rc5 v3 v4 hI hrc5 => ?_) _ _ ?_ ?_
  · skip
    obtain ⟨i0, i1, e⟩ := hI
    refine w_ite (fun c_1 => ?_) (fun c_1 => ?_)
    · skip
      refine w_bd (fun v6 hv6 => ?_)
      refine w_lpII (fun (v7 : Int) (v8 : Int) => (0 ≤ v8) ∧ (v8 ≤ 4) ∧ ((v7 = v3 ∧ ∀ k : Int, 0 ≤ k → k < v8 → lst a v4 k ≠ n) ∨ (v7 = ior v3 (ishl 1 v4) ∧ ∃ k : Int, 0 ≤ k ∧ k < v8 ∧ lst a v4 k = n))) (fun (v7 : Int) (v8 : Int) => (4 - v8).toNat) (fun rc9 v7 v8 hI hrc9 => ?_) _ _ ?_ ?_
      · skip
        obtain ⟨j0, j1, st⟩ := hI
        refine w_ite (fun c_2 => ?_) (fun c_2 => ?_)
        · skip
          refine w_bp (x_listAt hA_G) (fun v11 hv11 => ?_)
          have qv11 := hw.lr v4 v8
          refine w_jn ?_
          refine w_ite (fun c_3 => ?_) (fun c_3 => ?_)
          · skip
            refine w_bd (fun v15 hv15 => ?_)
            refine w_bd (fun v14 hv14 => ?_)
            simp (disch := omega) only [iadd_id, isub_id, imul_id] at hv14
            refine hrc9 _ _ ?_ ?_
            · try dsimp only
              refine ⟨?_, ?_, ?_⟩
              · first | omega | grind
              · first | omega | grind
              · rcases st with ⟨s1, s2⟩ | ⟨s1, k, k1, k2, k3⟩
                · first
                  | (right; exact ⟨by rw [hv15, s1], v8, j0, by omega, by omega⟩)
                  | (left; refine ⟨s1, fun k k1 k2 => ?_⟩
                     by_cases u : k = v8
                     · rw [u]; omega
                     · exact s2 k k1 (by omega))
                · right; first | exact ⟨by rw [hv15, s1, ior_idem], k, k1, by omega, k3⟩ | exact ⟨s1, k, k1, by omega, k3⟩
            · try dsimp only
              omega
          · skip
            refine w_bd (fun v14 hv14 => ?_)
            simp (disch := omega) only [iadd_id, isub_id, imul_id] at hv14
            refine hrc9 _ _ ?_ ?_
            · try dsimp only
              refine ⟨?_, ?_, ?_⟩
              · first | omega | grind
              · first | omega | grind
              · rcases st with ⟨s1, s2⟩ | ⟨s1, k, k1, k2, k3⟩
                · first
                  | (right; exact ⟨by rw [hv15, s1], v8, j0, by omega, by omega⟩)
                  | (left; refine ⟨s1, fun k k1 k2 => ?_⟩
                     by_cases u : k = v8
                     · rw [u]; omega
                     · exact s2 k k1 (by omega))
                · right; first | exact ⟨by rw [hv15, s1, ior_idem], k, k1, by omega, k3⟩ | exact ⟨s1, k, k1, by omega, k3⟩
            · try dsimp only
              omega
        · skip
          refine w_bd (fun v10 hv10 => ?_)
          simp (disch := omega) only [iadd_id, isub_id, imul_id] at hv10
          refine hrc5 _ _ ?_ ?_
          · try dsimp only
            refine ⟨?_, ?_, ?_⟩
            · first | omega | grind
            · first | omega | grind
            · rw [hv10]
              rcases st with ⟨s1, s2⟩ | ⟨s1, k, k1, k2, k3⟩
              · rw [s1, bits_f (p := pho a n) i0 (fun z => by obtain ⟨k, k1, k2, k3⟩ := z.2; exact s2 k k1 (by omega) k3)]; exact e
              · have l : lsd a v4 n := ⟨k, k1, by omega, k3⟩
                rw [s1, e]; exact bits_t (p := pho a n) i0 (by omega) ⟨lsd_in hw hn l, l⟩
          · try dsimp only
            omega
      · try dsimp only
        refine ⟨?_, ?_, ?_⟩
        · first | omega | (subst_vars; first | rfl | assumption) | assumption
        · first | omega | (subst_vars; first | rfl | assumption) | assumption
        · left; exact ⟨rfl, fun k k1 k2 => by omega⟩
      · try dsimp only
        omega
    · skip
      refine w_rt ?_
      refine ⟨?_, rfl⟩
      rw [e, show v4.toNat = 8 by omega]
  · try dsimp only
    refine ⟨?_, ?_, ?_⟩
    · first | omega | (subst_vars; first | rfl | assumption) | assumption
    · first | omega | (subst_vars; first | rfl | assumption) | assumption
    · first | omega | (subst_vars; first | rfl | assumption) | assumption
  · try dsimp only
    omega

theorem m_isListed (w : WT T) (hw : WA T a) (hR_G : MR 0 a G) (hM_G : MT T G) {n m : Int} (h1 : 0 ≤ n) (h2 : n < 8) (hm : 0 ≤ m) : WP (fX12_isListed 111 n m G) (fun r G' => G' = G ∧ ((r = 1 ∧ lsd a n m) ∨ (r = 0 ∧ ¬ lsd a n m))) := by
  have wr := w.rg
  have ll := llen_rng a n
  unfold fX12_isListed
  refine w_bd (fun v1 hv1 => ?_)
  refine w_bd (fun v2 hv2 => ?_)
  refine w_lpII (fun (v3 : Int) (v4 : Int) => (0 ≤ v4) ∧ (v4 ≤ llen a n) ∧ ((v3 = 0 ∧ ∀ k : Int, 0 ≤ k → k < v4 → lst a n k ≠ m) ∨ (v3 = 1 ∧ ∃ k : Int, 0 ≤ k ∧ k < v4 ∧ lst a n k = m))) (fun (v3 : Int) (v4 : Int) => (4 - v4).toNat) (fun rc5 v3 v4 hI hrc5 => ?_) _ _ ?_ ?_
  · skip
    obtain ⟨j0, j1, st⟩ := hI
    refine w_bp (m_longOf (b := 0) hR_G (by omega) (by omega) (by omega)) (fun v6 hv6 => ?_)
    have qv6 := llen_rng a n
    refine w_ite (fun c_1 => ?_) (fun c_1 => ?_)
    · skip
      refine w_jn ?_
      refine w_jn ?_
      refine w_ite (fun c_2 => ?_) (fun c_2 => ?_)
      · skip
        refine w_bp (m_listedOf (b := 0) hR_G (by omega) (by omega) (by omega) (by omega) (by omega)) (fun v12 hv12 => ?_)
        have qv12 := hw.lr n v4
        refine w_ite (fun c_3 => ?_) (fun c_3 => ?_)
        · skip
          refine w_bd (fun v9 hv9 => ?_)
          refine w_bd (fun v10 hv10 => ?_)
          simp (disch := omega) only [iadd_id, isub_id, imul_id] at hv10
          refine hrc5 _ _ ?_ ?_
          · try dsimp only
            refine ⟨?_, ?_, ?_⟩
            · first | omega | grind
            · first | omega | grind
            · rw [hv9]
              first
              | (right; rcases st with ⟨s1, s2⟩ | ⟨s1, k, k1, k2, k3⟩
                 · exact ⟨rfl, v4, j0, by omega, by omega⟩
                 · exact ⟨rfl, k, k1, by omega, k3⟩)
              | (left; have s2 := (st.resolve_right (fun z => by omega)).2; refine ⟨rfl, fun k k1 k2 => ?_⟩
                 by_cases u : k = v4
                 · rw [u]; omega
                 · exact s2 k k1 (by omega))
          · try dsimp only
            omega
        · skip
          refine w_bd (fun v9 hv9 => ?_)
          refine w_bd (fun v10 hv10 => ?_)
          simp (disch := omega) only [iadd_id, isub_id, imul_id] at hv10
          refine hrc5 _ _ ?_ ?_
          · try dsimp only
            refine ⟨?_, ?_, ?_⟩
            · first | omega | grind
            · first | omega | grind
            · rw [hv9]
              first
              | (right; rcases st with ⟨s1, s2⟩ | ⟨s1, k, k1, k2, k3⟩
                 · exact ⟨rfl, v4, j0, by omega, by omega⟩
                 · exact ⟨rfl, k, k1, by omega, k3⟩)
              | (left; have s2 := (st.resolve_right (fun z => by omega)).2; refine ⟨rfl, fun k k1 k2 => ?_⟩
                 by_cases u : k = v4
                 · rw [u]; omega
                 · exact s2 k k1 (by omega))
          · try dsimp only
            omega
      · skip
        refine w_bd (fun v9 hv9 => ?_)
        refine w_bd (fun v10 hv10 => ?_)
        simp (disch := omega) only [iadd_id, isub_id, imul_id] at hv10
        refine hrc5 _ _ ?_ ?_
        · try dsimp only
          refine ⟨?_, ?_, ?_⟩
          · first | omega | grind
          · first | omega | grind
          · rw [hv9]
            first
            | (right; rcases st with ⟨s1, s2⟩ | ⟨s1, k, k1, k2, k3⟩
               · exact ⟨rfl, v4, j0, by omega, by omega⟩
               · exact ⟨rfl, k, k1, by omega, k3⟩)
            | (left; have s2 := (st.resolve_right (fun z => by omega)).2; refine ⟨rfl, fun k k1 k2 => ?_⟩
               by_cases u : k = v4
               · rw [u]; omega
               · exact s2 k k1 (by omega))
        · try dsimp only
          omega
    · skip
      refine w_rz (by rcases st with z | z <;> omega) ?_
      refine ⟨rfl, ?_⟩
      rcases st with ⟨s1, s2⟩ | ⟨s1, k, k1, k2, k3⟩
      · right; refine ⟨s1, fun ⟨k, k1, k2, k3⟩ => ?_⟩
        rcases Int.lt_or_le k v4 with z | z
        · exact s2 k k1 z k3
        · have := llen_out hw (n := n) (k := k) (by omega); omega
      · left; exact ⟨s1, k, k1, by omega, k3⟩
  · try dsimp only
    refine ⟨?_, ?_, ?_⟩
    · first | omega | (subst_vars; first | rfl | assumption) | assumption
    · first | omega | (subst_vars; first | rfl | assumption) | assumption
    · left; exact ⟨hv1, fun k k1 k2 => by omega⟩
  · try dsimp only
    omega

theorem m_hosts (w : WT T) (hw : WA T a) (hR_G : MR 0 a G) (hM_G : MT T G) {n : Int} : WP (fX12_hosts 111 n G) (fun r G' => G' = up G 111 0 0 ∧ r = (if 0 ≤ n ∧ n < tN T then bits (pho a n) 8 else -1)) := by
  have wr := w.rg
  unfold fX12_hosts
  refine w_bh (fun G1 hG1 => ?_)
  have hR_G1 : MR 0 a G1 := hR_G.fr (by rw [hG1, up_ne (by decide)])
  have hM_G1 : MT T G1 := hM_G.fr (by rw [hG1, up_ne (by decide)]) (by rw [hG1, up_ne (by decide)])
  refine w_bp (m_isNode hM_G1) (fun v2 hv2 => ?_)
  have qv2 : ((0 ≤ n ∧ n < tN T) ∧ v2 = 1) ∨ (¬ (0 ≤ n ∧ n < tN T) ∧ v2 = 0) := by rw [hv2]; exact ite01 _
  refine w_ite (fun c_1 => ?_) (fun c_1 => ?_)
  · skip
    refine w_rt ?_
    exact ⟨hG1, by rw [if_neg (by omega)]⟩
  · skip
    refine w_bd (fun v3 hv3 => ?_)
    refine w_bd (fun v4 hv4 => ?_)
    refine w_lpII (fun (v5 : Int) (v6 : Int) => (0 ≤ v6) ∧ (v6 ≤ tN T) ∧ (v5 = bits (pho a n) v6.toNat)) (fun (v5 : Int) (v6 : Int) => (8 - v6).toNat) (fun rc7 v5 v6 hI hrc7 => ?_) _ _ ?_ ?_
    · skip
      obtain ⟨i0, i1, e⟩ := hI
      refine w_bp (m_nodes hM_G1) (fun v8 hv8 => ?_)
      refine w_ite (fun c_2 => ?_) (fun c_2 => ?_)
      · skip
        refine w_bp (m_isIn (b := 0) hR_G1 (by omega) (by omega)) (fun v9 hv9 => ?_)
        have qv9 := hw.inr (n := v6)
        refine w_jn ?_
        refine w_jn ?_
        refine w_ite (fun c_3 => ?_) (fun c_3 => ?_)
        · skip
          refine w_bd (fun v12 hv12 => ?_)
          refine w_bd (fun v13 hv13 => ?_)
          simp (disch := omega) only [iadd_id, isub_id, imul_id] at hv13
          refine hrc7 _ _ ?_ ?_
          · try dsimp only
            refine ⟨?_, ?_, ?_⟩
            · first | omega | grind
            · first | omega | grind
            · first
              | (rw [hv13, hv12, e]; exact bits_t (p := pho a n) i0 (by omega) ⟨by omega, by rcases q15 with z | z; exact z.2; omega⟩)
              | (rw [hv13, hv12, e]; exact bits_f0 (p := pho a n) i0 (by omega) (fun y => by first | (rcases q15 with z | z; omega; exact z.2 y.2) | (have := y.1; omega)))
          · try dsimp only
            omega
        · skip
          refine w_bpq (m_isListed w hw hR_G1 hM_G1 (n := v6) (m := n) (by omega) (by omega) (by omega)) (fun v15 g15 q15 => ?_)
          replace q15 := q15.2
          refine w_ite (fun c_4 => ?_) (fun c_4 => ?_)
          · skip
            refine w_bd (fun v12 hv12 => ?_)
            refine w_bd (fun v13 hv13 => ?_)
            simp (disch := omega) only [iadd_id, isub_id, imul_id] at hv13
            refine hrc7 _ _ ?_ ?_
            · try dsimp only
              refine ⟨?_, ?_, ?_⟩
              · first | omega | grind
              · first | omega | grind
              · first
                | (rw [hv13, hv12, e]; exact bits_t (p := pho a n) i0 (by omega) ⟨by omega, by rcases q15 with z | z; exact z.2; omega⟩)
                | (rw [hv13, hv12, e]; exact bits_f0 (p := pho a n) i0 (by omega) (fun y => by first | (rcases q15 with z | z; omega; exact z.2 y.2) | (have := y.1; omega)))
            · try dsimp only
              omega
          · skip
            refine w_bd (fun v12 hv12 => ?_)
            refine w_bd (fun v13 hv13 => ?_)
            simp (disch := omega) only [iadd_id, isub_id, imul_id] at hv13
            refine hrc7 _ _ ?_ ?_
            · try dsimp only
              refine ⟨?_, ?_, ?_⟩
              · first | omega | grind
              · first | omega | grind
              · first
                | (rw [hv13, hv12, e]; exact bits_t (p := pho a n) i0 (by omega) ⟨by omega, by rcases q15 with z | z; exact z.2; omega⟩)
                | (rw [hv13, hv12, e]; exact bits_f0 (p := pho a n) i0 (by omega) (fun y => by first | (rcases q15 with z | z; omega; exact z.2 y.2) | (have := y.1; omega)))
            · try dsimp only
              omega
      · skip
        refine w_rt ?_
        refine ⟨hG1, ?_⟩
        rw [if_pos (by omega), e, show v6.toNat = (tN T).toNat by omega]
        exact (bits_more (p := pho a n) 8 (by omega) (fun i x y z => by have := hw.inr (n := i); have := z.1; omega)).symm
    · try dsimp only
      refine ⟨?_, ?_, ?_⟩
      · first | omega | (subst_vars; first | rfl | assumption) | assumption
      · first | omega | (subst_vars; first | rfl | assumption) | assumption
      · first | omega | (subst_vars; first | rfl | assumption) | assumption
    · try dsimp only
      omega

end LOO
