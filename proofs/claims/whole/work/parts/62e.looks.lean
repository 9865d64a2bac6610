section LOO
variable {b : Nat} {a : AS} {G : Hp} {T : TT}
theorem m_comesTo (w : WT T) (hw : WA T a) (hb : b ≤ 3410) (hR_G : MR b a G) (hM_G : MT T G) {n m : Int} (hn : n < 8) (h1 : 0 ≤ m) (h2 : m ≤ 8) : fX12_comesTo 111 b n m G = some (if n < 0 ∧ m ≠ 0 then -1 else itr a n m.toNat, G) := by
  have wr := w.rg
  unfold fX12_comesTo
  refine WP_eq ?_
  refine w_bd (fun v1 hv1 => ?_)
  refine w_bd (fun v2 hv2 => ?_)
  refine w_lpII (fun (v3 : Int) (v4 : Int) => (0 ≤ v4) ∧ (v4 ≤ m) ∧ (v3 < 8) ∧ (v3 = if n < 0 ∧ v4 ≠ 0 then -1 else itr a n v4.toNat)) (fun (v3 : Int) (v4 : Int) => (8 - v4).toNat) (fun rc5 v3 v4 hI hrc5 => ?_) _ _ ?_ ?_
  · skip
    obtain ⟨j0, j1, j2, e3⟩ := hI
    refine w_ite (fun c_1 => ?_) (fun c_1 => ?_)
    · skip
      refine w_jn ?_
      refine w_ite (fun c_2 => ?_) (fun c_2 => ?_)
      · skip
        refine w_bd (fun v8 hv8 => ?_)
        refine w_bd (fun v9 hv9 => ?_)
        simp (disch := omega) only [iadd_id, isub_id, imul_id] at hv9
        refine hrc5 _ _ ?_ ?_
        · try dsimp only
          refine ⟨?_, ?_, ?_, ?_⟩
          · first | omega | grind
          · first | omega | grind
          · omega
          · rw [hv9, hv8]
            by_cases c : n < 0
            · first
              | (rw [if_pos ⟨c, by omega⟩]; done)
              | (exfalso
                 by_cases d : v4 = 0
                 · rw [if_neg (by omega), d] at e3; have : v3 = n := e3; omega
                 · rw [if_pos ⟨c, d⟩] at e3; omega)
            · rw [if_neg (by omega)] at e3 ⊢
              rw [itr_s j0, ← e3]
              first | (rw [fst4_neg (by omega)]) | omega
        · try dsimp only
          omega
      · skip
        refine w_bp (m_firstOf (b := b) (by omega) w hw hR_G (by omega) (by omega)) (fun v10 hv10 => ?_)
        have qv10 := hw.f4 w (n := v3)
        refine w_bd (fun v8 hv8 => ?_)
        refine w_bd (fun v9 hv9 => ?_)
        simp (disch := omega) only [iadd_id, isub_id, imul_id] at hv9
        refine hrc5 _ _ ?_ ?_
        · try dsimp only
          refine ⟨?_, ?_, ?_, ?_⟩
          · first | omega | grind
          · first | omega | grind
          · omega
          · rw [hv9, hv8]
            by_cases c : n < 0
            · first
              | (rw [if_pos ⟨c, by omega⟩]; done)
              | (exfalso
                 by_cases d : v4 = 0
                 · rw [if_neg (by omega), d] at e3; have : v3 = n := e3; omega
                 · rw [if_pos ⟨c, d⟩] at e3; omega)
            · rw [if_neg (by omega)] at e3 ⊢
              rw [itr_s j0, ← e3]
              first | (rw [fst4_neg (by omega)]) | omega
        · try dsimp only
          omega
    · skip
      refine w_rt ?_
      refine ⟨?_, rfl⟩
      rw [e3, show v4 = m by omega]
  · try dsimp only
    refine ⟨?_, ?_, ?_, ?_⟩
    · first | omega | (subst_vars; first | rfl | assumption) | assumption
    · first | omega | (subst_vars; first | rfl | assumption) | assumption
    · omega
    · rw [if_neg (by omega), hv2, hv1]; rfl
  · try dsimp only
    omega

theorem m_isOnCycle (w : WT T) (hw : WA T a) (hb : b ≤ 3410) (hR_G : MR b a G) (hM_G : MT T G) {n : Int} (h1 : 0 ≤ n) (h2 : n < 8) : WP (fX12_isOnCycle 111 b n G) (fun r G' => G' = G ∧ ((r = 1 ∧ onC a n) ∨ (r = 0 ∧ ¬ onC a n))) := by
  have wr := w.rg
  unfold fX12_isOnCycle
  refine w_bd (fun v1 hv1 => ?_)
  refine w_bd (fun v2 hv2 => ?_)
  refine w_lpII (fun (v3 : Int) (v4 : Int) => (1 ≤ v4) ∧ (v4 ≤ 9) ∧ ((v3 = 0 ∧ ∀ k : Nat, 1 ≤ k → (k : Int) < v4 → itr a n k ≠ n) ∨ (v3 = 1 ∧ ∃ k : Nat, 1 ≤ k ∧ (k : Int) < v4 ∧ itr a n k = n))) (fun (v3 : Int) (v4 : Int) => (9 - v4).toNat) (fun rc5 v3 v4 hI hrc5 => ?_) _ _ ?_ ?_
  · skip
    obtain ⟨j0, j1, st⟩ := hI
    refine w_ite (fun c_1 => ?_) (fun c_1 => ?_)
    · skip
      refine w_rz (by rcases st with z | z <;> omega) ?_
      refine ⟨rfl, ?_⟩
      rcases st with ⟨s1, s2⟩ | ⟨s1, k, k1, k2, k3⟩
      · right; exact ⟨s1, fun ⟨k, k1, k2, k3⟩ => s2 k k1 (by omega) k3⟩
      · left; exact ⟨s1, k, k1, by omega, k3⟩
    · skip
      refine w_jn ?_
      refine w_jn ?_
      refine w_ite (fun c_2 => ?_) (fun c_2 => ?_)
      · skip
        refine w_bp (m_comesTo w hw hb hR_G hM_G (n := n) (m := v4) (by omega) (by omega) (by omega)) (fun v11 hv11 => ?_)
        rw [if_neg (by omega)] at hv11
        refine w_ite (fun c_3 => ?_) (fun c_3 => ?_)
        · skip
          refine w_bd (fun v8 hv8 => ?_)
          refine w_bd (fun v9 hv9 => ?_)
          simp (disch := omega) only [iadd_id, isub_id, imul_id] at hv9
          refine hrc5 _ _ ?_ ?_
          · try dsimp only
            refine ⟨?_, ?_, ?_⟩
            · first | omega | grind
            · first | omega | grind
            · rw [hv9, hv8]
              first
              | (right; rcases st with ⟨s1, s2⟩ | ⟨s1, k, k1, k2, k3⟩
                 · exact ⟨rfl, v4.toNat, by omega, by omega, by omega⟩
                 · exact ⟨rfl, k, k1, by omega, k3⟩)
              | (left; have s2 := (st.resolve_right (fun z => by omega)).2; refine ⟨rfl, fun k k1 k2 => ?_⟩
                 by_cases u : (k : Int) = v4
                 · rw [show k = v4.toNat by omega]; omega
                 · exact s2 k k1 (by omega))
          · try dsimp only
            omega
        · skip
          refine w_bd (fun v8 hv8 => ?_)
          refine w_bd (fun v9 hv9 => ?_)
          simp (disch := omega) only [iadd_id, isub_id, imul_id] at hv9
          refine hrc5 _ _ ?_ ?_
          · try dsimp only
            refine ⟨?_, ?_, ?_⟩
            · first | omega | grind
            · first | omega | grind
            · rw [hv9, hv8]
              first
              | (right; rcases st with ⟨s1, s2⟩ | ⟨s1, k, k1, k2, k3⟩
                 · exact ⟨rfl, v4.toNat, by omega, by omega, by omega⟩
                 · exact ⟨rfl, k, k1, by omega, k3⟩)
              | (left; have s2 := (st.resolve_right (fun z => by omega)).2; refine ⟨rfl, fun k k1 k2 => ?_⟩
                 by_cases u : (k : Int) = v4
                 · rw [show k = v4.toNat by omega]; omega
                 · exact s2 k k1 (by omega))
          · try dsimp only
            omega
      · skip
        refine w_bd (fun v8 hv8 => ?_)
        refine w_bd (fun v9 hv9 => ?_)
        simp (disch := omega) only [iadd_id, isub_id, imul_id] at hv9
        refine hrc5 _ _ ?_ ?_
        · try dsimp only
          refine ⟨?_, ?_, ?_⟩
          · first | omega | grind
          · first | omega | grind
          · rw [hv9, hv8]
            first
            | (right; rcases st with ⟨s1, s2⟩ | ⟨s1, k, k1, k2, k3⟩
               · exact ⟨rfl, v4.toNat, by omega, by omega, by omega⟩
               · exact ⟨rfl, k, k1, by omega, k3⟩)
            | (left; have s2 := (st.resolve_right (fun z => by omega)).2; refine ⟨rfl, fun k k1 k2 => ?_⟩
               by_cases u : (k : Int) = v4
               · rw [show k = v4.toNat by omega]; omega
               · exact s2 k k1 (by omega))
        · try dsimp only
          omega
  · try dsimp only
    refine ⟨?_, ?_, ?_⟩
    · first | omega | (subst_vars; first | rfl | assumption) | assumption
    · first | omega | (subst_vars; first | rfl | assumption) | assumption
    · left; exact ⟨hv1, fun k k1 k2 => by omega⟩
  · try dsimp only
    omega

theorem m_isLeast (w : WT T) (hw : WA T a) (hb : b ≤ 3410) (hR_G : MR b a G) (hM_G : MT T G) {n : Int} (h1 : 0 ≤ n) (h2 : n < 8) : WP (fX12_isLeast 111 b n G) (fun r G' => G' = G ∧ ((r = 1 ∧ ∀ k : Nat, 1 ≤ k → k ≤ 8 → n ≤ itr a n k) ∨ (r = 0 ∧ ¬ ∀ k : Nat, 1 ≤ k → k ≤ 8 → n ≤ itr a n k))) := by
  have wr := w.rg
  unfold fX12_isLeast
  refine w_bd (fun v1 hv1 => ?_)
  refine w_bd (fun v2 hv2 => ?_)
  refine w_lpII (fun (v3 : Int) (v4 : Int) => (1 ≤ v4) ∧ (v4 ≤ 9) ∧ ((v3 = 1 ∧ ∀ k : Nat, 1 ≤ k → (k : Int) < v4 → n ≤ itr a n k) ∨ (v3 = 0 ∧ ∃ k : Nat, 1 ≤ k ∧ (k : Int) < v4 ∧ itr a n k < n))) (fun (v3 : Int) (v4 : Int) => (9 - v4).toNat) (fun rc5 v3 v4 hI hrc5 => ?_) _ _ ?_ ?_
  · skip
    obtain ⟨j0, j1, st⟩ := hI
    refine w_ite (fun c_1 => ?_) (fun c_1 => ?_)
    · skip
      refine w_rz (by rcases st with z | z <;> omega) ?_
      refine ⟨rfl, ?_⟩
      rcases st with ⟨s1, s2⟩ | ⟨s1, k, k1, k2, k3⟩
      · left; exact ⟨s1, fun k k1 k2 => s2 k k1 (by omega)⟩
      · right; exact ⟨s1, fun z => by have := z k k1 (by omega); omega⟩
    · skip
      refine w_jn ?_
      refine w_jn ?_
      refine w_ite (fun c_2 => ?_) (fun c_2 => ?_)
      · skip
        refine w_bd (fun v8 hv8 => ?_)
        refine w_bd (fun v9 hv9 => ?_)
        simp (disch := omega) only [iadd_id, isub_id, imul_id] at hv9
        refine hrc5 _ _ ?_ ?_
        · try dsimp only
          refine ⟨?_, ?_, ?_⟩
          · first | omega | grind
          · first | omega | grind
          · rw [hv9, hv8]
            first
            | (right; rcases st with ⟨s1, s2⟩ | ⟨s1, k, k1, k2, k3⟩
               · exact ⟨rfl, v4.toNat, by omega, by omega, by omega⟩
               · exact ⟨rfl, k, k1, by omega, k3⟩)
            | (left; have s2 := (st.resolve_right (fun z => by omega)).2; refine ⟨rfl, fun k k1 k2 => ?_⟩
               by_cases u : (k : Int) = v4
               · rw [show k = v4.toNat by omega]; omega
               · exact s2 k k1 (by omega))
        · try dsimp only
          omega
      · skip
        refine w_bp (m_comesTo w hw hb hR_G hM_G (n := n) (m := v4) (by omega) (by omega) (by omega)) (fun v11 hv11 => ?_)
        rw [if_neg (by omega)] at hv11
        refine w_ite (fun c_3 => ?_) (fun c_3 => ?_)
        · skip
          refine w_bd (fun v8 hv8 => ?_)
          refine w_bd (fun v9 hv9 => ?_)
          simp (disch := omega) only [iadd_id, isub_id, imul_id] at hv9
          refine hrc5 _ _ ?_ ?_
          · try dsimp only
            refine ⟨?_, ?_, ?_⟩
            · first | omega | grind
            · first | omega | grind
            · rw [hv9, hv8]
              first
              | (right; rcases st with ⟨s1, s2⟩ | ⟨s1, k, k1, k2, k3⟩
                 · exact ⟨rfl, v4.toNat, by omega, by omega, by omega⟩
                 · exact ⟨rfl, k, k1, by omega, k3⟩)
              | (left; have s2 := (st.resolve_right (fun z => by omega)).2; refine ⟨rfl, fun k k1 k2 => ?_⟩
                 by_cases u : (k : Int) = v4
                 · rw [show k = v4.toNat by omega]; omega
                 · exact s2 k k1 (by omega))
          · try dsimp only
            omega
        · skip
          refine w_bd (fun v8 hv8 => ?_)
          refine w_bd (fun v9 hv9 => ?_)
          simp (disch := omega) only [iadd_id, isub_id, imul_id] at hv9
          refine hrc5 _ _ ?_ ?_
          · try dsimp only
            refine ⟨?_, ?_, ?_⟩
            · first | omega | grind
            · first | omega | grind
            · rw [hv9, hv8]
              first
              | (right; rcases st with ⟨s1, s2⟩ | ⟨s1, k, k1, k2, k3⟩
                 · exact ⟨rfl, v4.toNat, by omega, by omega, by omega⟩
                 · exact ⟨rfl, k, k1, by omega, k3⟩)
              | (left; have s2 := (st.resolve_right (fun z => by omega)).2; refine ⟨rfl, fun k k1 k2 => ?_⟩
                 by_cases u : (k : Int) = v4
                 · rw [show k = v4.toNat by omega]; omega
                 · exact s2 k k1 (by omega))
          · try dsimp only
            omega
  · try dsimp only
    refine ⟨?_, ?_, ?_⟩
    · first | omega | (subst_vars; first | rfl | assumption) | assumption
    · first | omega | (subst_vars; first | rfl | assumption) | assumption
    · left; exact ⟨hv1, fun k k1 k2 => by omega⟩
  · try dsimp only
    omega

theorem m_cycleSet (w : WT T) (hw : WA T a) (hb : b ≤ 3410) (hR_G : MR b a G) (hM_G : MT T G) : fX12_cycleSet 111 b G = some (bits (onC a) 8, G) := by
  have wr := w.rg
  unfold fX12_cycleSet
  refine WP_eq ?_
  refine w_bd (fun v1 hv1 => ?_)
  refine w_bd (fun v2 hv2 => ?_)
  refine w_lpII (fun (v3 : Int) (v4 : Int) => (0 ≤ v4) ∧ (v4 ≤ tN T) ∧ (v3 = bits (onC a) v4.toNat)) (fun (v3 : Int) (v4 : Int) => (8 - v4).toNat) (fun rc5 v3 v4 hI hrc5 => ?_) _ _ ?_ ?_
  · skip
    obtain ⟨i0, i1, e⟩ := hI
    refine w_bp (m_nodes hM_G) (fun v6 hv6 => ?_)
    refine w_ite (fun c_1 => ?_) (fun c_1 => ?_)
    · skip
      refine w_bp (m_isIn (b := b) hR_G (by omega) (by omega)) (fun v7 hv7 => ?_)
      have qv7 := hw.inr (n := v4)
      refine w_jn ?_
      refine w_jn ?_
      refine w_ite (fun c_2 => ?_) (fun c_2 => ?_)
      · skip
        refine w_bd (fun v10 hv10 => ?_)
        refine w_bd (fun v11 hv11 => ?_)
        simp (disch := omega) only [iadd_id, isub_id, imul_id] at hv11
        refine hrc5 _ _ ?_ ?_
        · try dsimp only
          refine ⟨?_, ?_, ?_⟩
          · first | omega | grind
          · first | omega | grind
          · first
            | (rw [hv11, hv10, e]; exact bits_t (p := onC a) i0 (by omega) (by rcases q13 with z | z; exact z.2; omega))
            | (rw [hv11, hv10, e]; exact bits_f0 (p := onC a) i0 (by omega) (by first | (rcases q13 with z | z; omega; exact z.2) | (intro z; have := onC_in hw i0 z; omega)))
        · try dsimp only
          omega
      · skip
        refine w_bpq (m_isOnCycle w hw hb hR_G hM_G (n := v4) (by omega) (by omega)) (fun v13 g13 q13 => ?_)
        replace q13 := q13.2
        refine w_ite (fun c_3 => ?_) (fun c_3 => ?_)
        · skip
          refine w_bd (fun v10 hv10 => ?_)
          refine w_bd (fun v11 hv11 => ?_)
          simp (disch := omega) only [iadd_id, isub_id, imul_id] at hv11
          refine hrc5 _ _ ?_ ?_
          · try dsimp only
            refine ⟨?_, ?_, ?_⟩
            · first | omega | grind
            · first | omega | grind
            · first
              | (rw [hv11, hv10, e]; exact bits_t (p := onC a) i0 (by omega) (by rcases q13 with z | z; exact z.2; omega))
              | (rw [hv11, hv10, e]; exact bits_f0 (p := onC a) i0 (by omega) (by first | (rcases q13 with z | z; omega; exact z.2) | (intro z; have := onC_in hw i0 z; omega)))
          · try dsimp only
            omega
        · skip
          refine w_bd (fun v10 hv10 => ?_)
          refine w_bd (fun v11 hv11 => ?_)
          simp (disch := omega) only [iadd_id, isub_id, imul_id] at hv11
          refine hrc5 _ _ ?_ ?_
          · try dsimp only
            refine ⟨?_, ?_, ?_⟩
            · first | omega | grind
            · first | omega | grind
            · first
              | (rw [hv11, hv10, e]; exact bits_t (p := onC a) i0 (by omega) (by rcases q13 with z | z; exact z.2; omega))
              | (rw [hv11, hv10, e]; exact bits_f0 (p := onC a) i0 (by omega) (by first | (rcases q13 with z | z; omega; exact z.2) | (intro z; have := onC_in hw i0 z; omega)))
          · try dsimp only
            omega
    · skip
      refine w_rt ?_
      refine ⟨?_, rfl⟩
      rw [e, show v4.toNat = (tN T).toNat by omega]
      exact (bits_more (p := onC a) 8 (by omega) (fun i x y z => by have := hw.inr (n := i); have := onC_in hw (show 0 ≤ i by omega) z; omega)).symm
  · try dsimp only
    refine ⟨?_, ?_, ?_⟩
    · first | omega | (subst_vars; first | rfl | assumption) | assumption
    · first | omega | (subst_vars; first | rfl | assumption) | assumption
    · first | omega | (subst_vars; first | rfl | assumption) | assumption
  · try dsimp only
    omega

theorem m_brokenSet (w : WT T) (hw : WA T a) (hb : b ≤ 3410) (hR_G : MR b a G) (hM_G : MT T G) : fX12_brokenSet 111 b G = some (bits (brk a) 8, G) := by
  have wr := w.rg
  unfold fX12_brokenSet
  refine WP_eq ?_
  refine w_bd (fun v1 hv1 => ?_)
  refine w_bd (fun v2 hv2 => ?_)
  refine w_lpII (fun (v3 : Int) (v4 : Int) => (0 ≤ v4) ∧ (v4 ≤ tN T) ∧ (v3 = bits (brk a) v4.toNat)) (fun (v3 : Int) (v4 : Int) => (8 - v4).toNat) (fun rc5 v3 v4 hI hrc5 => ?_) _ _ ?_ ?_
  · skip
    obtain ⟨i0, i1, e⟩ := hI
    refine w_bp (m_nodes hM_G) (fun v6 hv6 => ?_)
    refine w_ite (fun c_1 => ?_) (fun c_1 => ?_)
    · skip
      refine w_bp (m_isIn (b := b) hR_G (by omega) (by omega)) (fun v7 hv7 => ?_)
      have qv7 := hw.inr (n := v4)
      refine w_jn ?_
      refine w_jn ?_
      refine w_ite (fun c_2 => ?_) (fun c_2 => ?_)
      · skip
        refine w_bd (fun v10 hv10 => ?_)
        refine w_bd (fun v11 hv11 => ?_)
        simp (disch := omega) only [iadd_id, isub_id, imul_id] at hv11
        refine hrc5 _ _ ?_ ?_
        · try dsimp only
          refine ⟨?_, ?_, ?_⟩
          · first | omega | grind
          · first | omega | grind
          · have db : brk a v4 ↔ isi a v4 = 1 ∧ itr a v4 8 = -1 := Iff.rfl
            first
            | (rw [hv11, hv10, e]; exact bits_t (p := brk a) i0 (by omega) (by rw [db]; omega))
            | (rw [hv11, hv10, e]; exact bits_f0 (p := brk a) i0 (by omega) (by rw [db]; omega))
        · try dsimp only
          omega
      · skip
        refine w_bp (m_comesTo w hw hb hR_G hM_G (n := v4) (m := 8) (by omega) (by omega) (by omega)) (fun v13 hv13 => ?_)
        rw [if_neg (by omega)] at hv13
        have r13 := itr_r hw w (n := v4) 8 (by omega)
        rw [show (8 : Int).toNat = 8 from rfl] at hv13
        refine w_ite (fun c_3 => ?_) (fun c_3 => ?_)
        · skip
          refine w_bd (fun v10 hv10 => ?_)
          refine w_bd (fun v11 hv11 => ?_)
          simp (disch := omega) only [iadd_id, isub_id, imul_id] at hv11
          refine hrc5 _ _ ?_ ?_
          · try dsimp only
            refine ⟨?_, ?_, ?_⟩
            · first | omega | grind
            · first | omega | grind
            · have db : brk a v4 ↔ isi a v4 = 1 ∧ itr a v4 8 = -1 := Iff.rfl
              first
              | (rw [hv11, hv10, e]; exact bits_t (p := brk a) i0 (by omega) (by rw [db]; omega))
              | (rw [hv11, hv10, e]; exact bits_f0 (p := brk a) i0 (by omega) (by rw [db]; omega))
          · try dsimp only
            omega
        · skip
          refine w_bd (fun v10 hv10 => ?_)
          refine w_bd (fun v11 hv11 => ?_)
          simp (disch := omega) only [iadd_id, isub_id, imul_id] at hv11
          refine hrc5 _ _ ?_ ?_
          · try dsimp only
            refine ⟨?_, ?_, ?_⟩
            · first | omega | grind
            · first | omega | grind
            · have db : brk a v4 ↔ isi a v4 = 1 ∧ itr a v4 8 = -1 := Iff.rfl
              first
              | (rw [hv11, hv10, e]; exact bits_t (p := brk a) i0 (by omega) (by rw [db]; omega))
              | (rw [hv11, hv10, e]; exact bits_f0 (p := brk a) i0 (by omega) (by rw [db]; omega))
          · try dsimp only
            omega
    · skip
      refine w_rt ?_
      refine ⟨?_, rfl⟩
      rw [e, show v4.toNat = (tN T).toNat by omega]
      exact (bits_more (p := brk a) 8 (by omega) (fun i x y z => by have := hw.inr (n := i); have := z.1; omega)).symm
  · try dsimp only
    refine ⟨?_, ?_, ?_⟩
    · first | omega | (subst_vars; first | rfl | assumption) | assumption
    · first | omega | (subst_vars; first | rfl | assumption) | assumption
    · first | omega | (subst_vars; first | rfl | assumption) | assumption
  · try dsimp only
    omega

theorem m_cyclesMany (w : WT T) (hw : WA T a) (hb : b ≤ 3410) (hR_G : MR b a G) (hM_G : MT T G) : fX12_cyclesMany 111 b G = some (cnt (lea a) 8, G) := by
  have wr := w.rg
  have ob := bits8_r (onC a)
  unfold fX12_cyclesMany
  refine WP_eq ?_
  refine w_bp (m_cycleSet w hw hb hR_G hM_G) (fun v1 hv1 => ?_)
  refine w_bd (fun v2 hv2 => ?_)
  refine w_bd (fun v3 hv3 => ?_)
  refine w_bd (fun v4 hv4 => ?_)
  refine w_lpII (fun (v5 : Int) (v6 : Int) => (0 ≤ v6) ∧ (v6 ≤ tN T) ∧ (v5 = cnt (lea a) v6.toNat)) (fun (v5 : Int) (v6 : Int) => (8 - v6).toNat) (fun rc7 v5 v6 hI hrc7 => ?_) _ _ ?_ ?_
  · skip
    obtain ⟨i0, i1, e⟩ := hI
    have cr := cnt_r (lea a) v6.toNat
    have bi : v6 < 8 → (iand (ishr v2 v6) 1 = 1 ↔ onC a v6) := fun z => by
      rw [bit_is (by omega) (by omega) i0 (by omega), hv2, hv1, bt_bits8 i0 z]
    refine w_bp (m_nodes hM_G) (fun v8 hv8 => ?_)
    refine w_ite (fun c_1 => ?_) (fun c_1 => ?_)
    · skip
      refine w_jn ?_
      refine w_jn ?_
      refine w_ite (fun c_2 => ?_) (fun c_2 => ?_)
      · skip
        refine w_bpq (m_isLeast w hw hb hR_G hM_G (n := v6) (by omega) (by omega)) (fun v14 g14 q14 => ?_)
        replace q14 := q14.2
        refine w_ite (fun c_3 => ?_) (fun c_3 => ?_)
        · skip
          refine w_bd (fun v11 hv11 => ?_)
          simp (disch := omega) only [iadd_id, isub_id, imul_id] at hv11
          refine w_bd (fun v12 hv12 => ?_)
          simp (disch := omega) only [iadd_id, isub_id, imul_id] at hv12
          refine hrc7 _ _ ?_ ?_
          · try dsimp only
            refine ⟨?_, ?_, ?_⟩
            · first | omega | grind
            · first | omega | grind
            · first
              | (rw [hv12, hv11, e, cnt_t (p := lea a) i0 ⟨(bi (by omega)).mp (by assumption), by rcases q14 with z | z; exact z.2; omega⟩]; done)
              | (rw [hv12, hv11, e, cnt_f (p := lea a) i0 (fun y => by first | (rcases q14 with z | z; omega; exact z.2 y.2) | (have := (bi (by omega)).mpr y.1; omega))]; omega)
          · try dsimp only
            omega
        · skip
          refine w_bd (fun v11 hv11 => ?_)
          simp (disch := omega) only [iadd_id, isub_id, imul_id] at hv11
          refine w_bd (fun v12 hv12 => ?_)
          simp (disch := omega) only [iadd_id, isub_id, imul_id] at hv12
          refine hrc7 _ _ ?_ ?_
          · try dsimp only
            refine ⟨?_, ?_, ?_⟩
            · first | omega | grind
            · first | omega | grind
            · first
              | (rw [hv12, hv11, e, cnt_t (p := lea a) i0 ⟨(bi (by omega)).mp (by assumption), by rcases q14 with z | z; exact z.2; omega⟩]; done)
              | (rw [hv12, hv11, e, cnt_f (p := lea a) i0 (fun y => by first | (rcases q14 with z | z; omega; exact z.2 y.2) | (have := (bi (by omega)).mpr y.1; omega))]; omega)
          · try dsimp only
            omega
      · skip
        refine w_bd (fun v11 hv11 => ?_)
        simp (disch := omega) only [iadd_id, isub_id, imul_id] at hv11
        refine w_bd (fun v12 hv12 => ?_)
        simp (disch := omega) only [iadd_id, isub_id, imul_id] at hv12
        refine hrc7 _ _ ?_ ?_
        · try dsimp only
          refine ⟨?_, ?_, ?_⟩
          · first | omega | grind
          · first | omega | grind
          · first
            | (rw [hv12, hv11, e, cnt_t (p := lea a) i0 ⟨(bi (by omega)).mp (by assumption), by rcases q14 with z | z; exact z.2; omega⟩]; done)
            | (rw [hv12, hv11, e, cnt_f (p := lea a) i0 (fun y => by first | (rcases q14 with z | z; omega; exact z.2 y.2) | (have := (bi (by omega)).mpr y.1; omega))]; omega)
        · try dsimp only
          omega
    · skip
      refine w_rt ?_
      refine ⟨?_, rfl⟩
      rw [e, show v6.toNat = (tN T).toNat by omega]
      exact (cnt_more (p := lea a) 8 (by omega) (fun i x y z => by have := hw.inr (n := i); have := onC_in hw (show 0 ≤ i by omega) z.1; omega)).symm
  · try dsimp only
    refine ⟨?_, ?_, ?_⟩
    · first | omega | (subst_vars; first | rfl | assumption) | assumption
    · first | omega | (subst_vars; first | rfl | assumption) | assumption
    · first | omega | (subst_vars; first | rfl | assumption) | assumption
  · try dsimp only
    omega

theorem m_isOrdered (w : WT T) (hw : WA T a) (hb : b ≤ 3410) (hR_G : MR b a G) (hM_G : MT T G) : fX12_isOrdered 111 b G = some (ordd T a, G) := by
  have wr := w.rg
  have ob := bits8_r (onC a)
  unfold fX12_isOrdered
  refine WP_eq ?_
  refine w_bp (m_cycleSet w hw hb hR_G hM_G) (fun v1 hv1 => ?_)
  refine w_bd (fun v2 hv2 => ?_)
  refine w_bd (fun v3 hv3 => ?_)
  refine w_bd (fun v4 hv4 => ?_)
  refine w_lpII (fun (v5 : Int) (v6 : Int) => (0 ≤ v6) ∧ (v6 ≤ tN T) ∧ (0 ≤ v5 ∧ v5 ≤ 256 * v6) ∧ (v5 = smS (onC a) (fun n => wT T n (fst4 a a.1 n)) v6.toNat)) (fun (v5 : Int) (v6 : Int) => (8 - v6).toNat) (fun rc7 v5 v6 hI hrc7 => ?_) _ _ ?_ ?_
  · skip
    obtain ⟨i0, i1, bz, e⟩ := hI
    have bi : v6 < 8 → (iand (ishr v2 v6) 1 = 1 ↔ onC a v6) := fun z => by
      rw [bit_is (by omega) (by omega) i0 (by omega), hv2, hv1, bt_bits8 i0 z]
    refine w_bp (m_nodes hM_G) (fun v8 hv8 => ?_)
    refine w_ite (fun c_1 => ?_) (fun c_1 => ?_)
    · skip
      refine w_jn ?_
      refine w_ite (fun c_2 => ?_) (fun c_2 => ?_)
      · skip
        have yC : onC a v6 := (bi (by omega)).mp (by assumption)
        have yN := onC_in hw i0 yC
        have yF : fst4 a a.1 v6 ≠ -1 := onC_nb i0 yC 1
        have yG := hw.f4 w (n := v6)
        refine w_bp (m_firstOf (b := b) (by omega) w hw hR_G (by omega) (by omega)) (fun v15 hv15 => ?_)
        have qv15 := hw.f4 w (n := v6)
        refine w_bp (m_wayTo hM_G w (by omega) (by omega) (by omega) (by omega)) (fun v16 hv16 => ?_)
        have qv16 := wT_rng w (n := v6) (o := v15) (by omega) (by omega) (by omega) (by omega)
        have e16 : v16 = wT T v6 (fst4 a a.1 v6) := by rw [hv16, hv15]
        refine w_bd (fun v13 hv13 => ?_)
        simp (disch := omega) only [iadd_id, isub_id, imul_id] at hv13
        refine w_bd (fun v14 hv14 => ?_)
        simp (disch := omega) only [iadd_id, isub_id, imul_id] at hv14
        refine hrc7 _ _ ?_ ?_
        · try dsimp only
          refine ⟨?_, ?_, ?_, ?_⟩
          · first | omega | grind
          · first | omega | grind
          · first | omega | grind
          · first
            | (rw [hv14, hv13, e, smS_t (p := onC a) i0 yC, e16]; done)
            | (rw [hv14, hv13, e, smS_f (p := onC a) i0 nC]; omega)
        · try dsimp only
          omega
      · skip
        have nC : ¬ onC a v6 := fun z => by have := (bi (by omega)).mpr z; omega
        refine w_bd (fun v13 hv13 => ?_)
        simp (disch := omega) only [iadd_id, isub_id, imul_id] at hv13
        refine w_bd (fun v14 hv14 => ?_)
        simp (disch := omega) only [iadd_id, isub_id, imul_id] at hv14
        refine hrc7 _ _ ?_ ?_
        · try dsimp only
          refine ⟨?_, ?_, ?_, ?_⟩
          · first | omega | grind
          · first | omega | grind
          · first | omega | grind
          · first
            | (rw [hv14, hv13, e, smS_t (p := onC a) i0 yC, e16]; done)
            | (rw [hv14, hv13, e, smS_f (p := onC a) i0 nC]; omega)
        · try dsimp only
          omega
    · skip
      refine w_bp (m_cyclesMany w hw hb hR_G hM_G) (fun v9 hv9 => ?_)
      refine w_ite (fun c_3 => ?_) (fun c_3 => ?_)
      · skip
        refine w_bp (m_circle hM_G) (fun v10 hv10 => ?_)
        refine w_ite (fun c_4 => ?_) (fun c_4 => ?_)
        · skip
          refine w_rz (by omega) ?_
          refine ⟨?_, rfl⟩
          have e8 : smS (onC a) (fun n => wT T n (fst4 a a.1 n)) 8 = v5 := by
            rw [e, show v6.toNat = (tN T).toNat by omega]
            exact smS_more (p := onC a) 8 (by omega) (fun i x y z => by have := hw.inr (n := i); have := onC_in hw (show 0 ≤ i by omega) z; omega)
          unfold ordd; rw [e8]; first | rw [if_pos ⟨by omega, by omega⟩] | rw [if_neg (fun z => by omega)]
        · skip
          refine w_rz (by omega) ?_
          refine ⟨?_, rfl⟩
          have e8 : smS (onC a) (fun n => wT T n (fst4 a a.1 n)) 8 = v5 := by
            rw [e, show v6.toNat = (tN T).toNat by omega]
            exact smS_more (p := onC a) 8 (by omega) (fun i x y z => by have := hw.inr (n := i); have := onC_in hw (show 0 ≤ i by omega) z; omega)
          unfold ordd; rw [e8]; first | rw [if_pos ⟨by omega, by omega⟩] | rw [if_neg (fun z => by omega)]
      · skip
        refine w_rz (by omega) ?_
        refine ⟨?_, rfl⟩
        have e8 : smS (onC a) (fun n => wT T n (fst4 a a.1 n)) 8 = v5 := by
          rw [e, show v6.toNat = (tN T).toNat by omega]
          exact smS_more (p := onC a) 8 (by omega) (fun i x y z => by have := hw.inr (n := i); have := onC_in hw (show 0 ≤ i by omega) z; omega)
        unfold ordd; rw [e8]; first | rw [if_pos ⟨by omega, by omega⟩] | rw [if_neg (fun z => by omega)]
  · try dsimp only
    refine ⟨?_, ?_, ?_, ?_⟩
    · first | omega | (subst_vars; first | rfl | assumption) | assumption
    · first | omega | (subst_vars; first | rfl | assumption) | assumption
    · first | omega | (subst_vars; first | rfl | assumption) | assumption
    · first | omega | (subst_vars; first | rfl | assumption) | assumption
  · try dsimp only
    omega

end LOO
