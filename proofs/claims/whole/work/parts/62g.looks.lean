section LOO
variable {b : Nat} {a : AS} {G : Hp} {T : TT}
/-! whom one reaches -/
def kn (a : AS) (n m : Int) : Prop := (lsd a n m ∨ ahd a n = m ∨ ∃ k : Int, 0 ≤ k ∧ k < 8 ∧ fng a n k = m) ∧ isi a m = 1
theorem p2_bt_all : ∀ i : Fin 8, ∀ m : Fin 8, bt (2 ^ i.val) m.val = 1 ↔ m = i := by decide +kernel
theorem x_bitOf {x : Int} (h1 : -1 ≤ x) (h2 : x < 8) : WP (fX2_bitOf x G) (fun r G' => G' = G ∧ (0 ≤ r ∧ r < 256) ∧ ∀ m : Int, 0 ≤ m → m < 8 → (bt r m.toNat = 1 ↔ x = m)) := by
  unfold fX2_bitOf
  refine w_ite (fun c => ?_) (fun c => ?_)
  · refine w_rt ⟨rfl, ⟨by omega, by omega⟩, fun m m1 m2 => ?_⟩
    rw [show bt 0 m.toNat = 0 by unfold bt; simp]; omega
  · have p2 := p2r (i := x) (by omega)
    refine w_rt ?_
    rw [ishl_is (by omega) (by omega)]
    have hx : (2 : Int) ^ x.toNat < 256 := by
      have : x.toNat < 8 := by omega
      generalize x.toNat = j at this
      match j, this with
      | 0, _ => decide
      | 1, _ => decide
      | 2, _ => decide
      | 3, _ => decide
      | 4, _ => decide
      | 5, _ => decide
      | 6, _ => decide
      | 7, _ => decide
    refine ⟨rfl, ⟨by omega, hx⟩, fun m m1 m2 => ?_⟩
    have := p2_bt_all ⟨x.toNat, by omega⟩ ⟨m.toNat, by omega⟩
    simp only [Fin.mk.injEq] at this
    rw [this]; omega
theorem x_knownBy (w : WT T) (hw : WA T a) (hA_G : XA 27 a G) (hT_G : XT T G) {n : Int} : WP (fX2_knownBy 33 n G) (fun r G' => G' = G ∧ (0 ≤ r ∧ r < 256) ∧ ∀ m : Int, 0 ≤ m → m < 8 → (bt r m.toNat = 1 ↔ kn a n m)) := by
  have wr := w.rg
  have a1 := hA_G.1
  unfold fX2_knownBy
  simp only [rf_33_1]
  refine w_bp (x_aheadOf hA_G) (fun v1 hv1 => ?_)
  have qv1 := hw.ar n
  refine w_bpq (x_bitOf (x := v1) (by omega) (by omega)) (fun v2 gv2 qv2 => ?_)
  obtain ⟨-, rv2, bv2⟩ := qv2
  refine w_bd (fun v3 hv3 => ?_)
  refine w_bd (fun v4 hv4 => ?_)
  refine w_lpII (fun (v5 : Int) (v6 : Int) => (0 ≤ v6) ∧ (v6 ≤ 4) ∧ (0 ≤ v5 ∧ v5 < 256) ∧ (∀ m : Int, 0 ≤ m → m < 8 → (bt v5 m.toNat = 1 ↔ ahd a n = m ∨ ∃ k : Int, 0 ≤ k ∧ k < v6 ∧ lst a n k = m))) (fun (v5 : Int) (v6 : Int) => (4 - v6).toNat) (fun rc7 v5 v6 hI hrc7 => ?_) _ _ ?_ ?_
  · skip
    obtain ⟨j0, j1, rg, st⟩ := hI
    refine w_ite (fun c_1 => ?_) (fun c_1 => ?_)
    · skip
      refine w_bp (x_listAt hA_G) (fun v16 hv16 => ?_)
      have qv16 := hw.lr n v6
      refine w_bpq (x_bitOf (x := v16) (by omega) (by omega)) (fun v17 gv17 qv17 => ?_)
      obtain ⟨-, rv17, bv17⟩ := qv17
      refine w_bd (fun v18 hv18 => ?_)
      refine w_bd (fun v19 hv19 => ?_)
      simp (disch := omega) only [iadd_id, isub_id, imul_id] at hv19
      refine hrc7 _ _ ?_ ?_
      · try dsimp only
        refine ⟨?_, ?_, ?_, ?_⟩
        · first | omega | grind
        · first | omega | grind
        · rw [hv18]; exact (or_bt rg.1 rg.2 rv17.1 rv17.2).1
        · intro m m1 m2
          rw [hv18, (or_bt rg.1 rg.2 rv17.1 rv17.2).2, st m m1 m2, bv17 m m1 m2, hv16, hv19]
          constructor
          · rintro ((z | ⟨k, k1, k2, k3⟩) | z)
            · exact Or.inl z
            · exact Or.inr ⟨k, k1, by omega, k3⟩
            · exact Or.inr ⟨v6, j0, by omega, z⟩
          · rintro (z | ⟨k, k1, k2, k3⟩)
            · exact Or.inl (Or.inl z)
            · by_cases u : k = v6
              · rw [u] at k3; exact Or.inr k3
              · exact Or.inl (Or.inr ⟨k, k1, by omega, k3⟩)
      · try dsimp only
        omega
    · skip
      refine w_bd (fun v8 hv8 => ?_)
      refine w_lpII (fun (v9 : Int) (v10 : Int) => (0 ≤ v10) ∧ (v10 ≤ 8) ∧ (0 ≤ v9 ∧ v9 < 256) ∧ (∀ m : Int, 0 ≤ m → m < 8 → (bt v9 m.toNat = 1 ↔ bt v5 m.toNat = 1 ∨ ∃ k : Int, 0 ≤ k ∧ k < v10 ∧ fng a n k = m))) (fun (v9 : Int) (v10 : Int) => (8 - v10).toNat) (fun rc11 v9 v10 hI hrc11 => ?_) _ _ ?_ ?_
      · skip
        obtain ⟨l0, l1, rh, su⟩ := hI
        refine w_ite (fun c_2 => ?_) (fun c_2 => ?_)
        · skip
          refine w_bp (x_fingerAt hA_G) (fun v12 hv12 => ?_)
          have qv12 := hw.fr n v10
          refine w_bpq (x_bitOf (x := v12) (by omega) (by omega)) (fun v13 gv13 qv13 => ?_)
          obtain ⟨-, rv13, bv13⟩ := qv13
          refine w_bd (fun v14 hv14 => ?_)
          refine w_bd (fun v15 hv15 => ?_)
          simp (disch := omega) only [iadd_id, isub_id, imul_id] at hv15
          refine hrc11 _ _ ?_ ?_
          · try dsimp only
            refine ⟨?_, ?_, ?_, ?_⟩
            · first | omega | grind
            · first | omega | grind
            · rw [hv14]; exact (or_bt rh.1 rh.2 rv13.1 rv13.2).1
            · intro m m1 m2
              rw [hv14, (or_bt rh.1 rh.2 rv13.1 rv13.2).2, su m m1 m2, bv13 m m1 m2, hv12, hv15]
              constructor
              · rintro ((z | ⟨k, k1, k2, k3⟩) | z)
                · exact Or.inl z
                · exact Or.inr ⟨k, k1, by omega, k3⟩
                · exact Or.inr ⟨v10, l0, by omega, z⟩
              · rintro (z | ⟨k, k1, k2, k3⟩)
                · exact Or.inl (Or.inl z)
                · by_cases u : k = v10
                  · rw [u] at k3; exact Or.inr k3
                  · exact Or.inl (Or.inr ⟨k, k1, by omega, k3⟩)
          · try dsimp only
            omega
        · skip
          refine w_rt ?_
          rw [a1]
          have q := and_bt rh.1 rh.2 hw.1.1 hw.1.2
          refine ⟨rfl, q.1, fun m m1 m2 => ?_⟩
          rw [q.2, su m m1 m2, st m m1 m2, ← isi_bt m1 m2, show v6 = 4 by omega, show v10 = 8 by omega]
          unfold kn lsd
          constructor
          · rintro ⟨(z | z) | z, y⟩
            · exact ⟨Or.inr (Or.inl z), y⟩
            · exact ⟨Or.inl z, y⟩
            · exact ⟨Or.inr (Or.inr z), y⟩
          · rintro ⟨z | z | z, y⟩
            · exact ⟨Or.inl (Or.inr z), y⟩
            · exact ⟨Or.inl (Or.inl z), y⟩
            · exact ⟨Or.inr z, y⟩
      · try dsimp only
        refine ⟨?_, ?_, ?_, ?_⟩
        · first | omega | (subst_vars; first | rfl | assumption) | assumption
        · first | omega | (subst_vars; first | rfl | assumption) | assumption
        · omega
        · intro m m1 m2; exact ⟨fun z => Or.inl z, fun z => by rcases z with z | ⟨k, k1, k2, k3⟩; exact z; omega⟩
      · try dsimp only
        omega
  · try dsimp only
    refine ⟨?_, ?_, ?_, ?_⟩
    · first | omega | (subst_vars; first | rfl | assumption) | assumption
    · first | omega | (subst_vars; first | rfl | assumption) | assumption
    · omega
    · intro m m1 m2; rw [hv3, bv2 m m1 m2, hv1]; exact ⟨fun z => Or.inl z, fun z => by rcases z with z | ⟨k, k1, k2, k3⟩; exact z; omega⟩
  · try dsimp only
    omega

noncomputable def nx (a : AS) (S n : Int) : Int := bits (fun m => bt S m.toNat = 1 ∨ (bt S n.toNat = 1 ∧ kn a n m)) 8
noncomputable def rI (a : AS) (S : Int) : Nat → Int
  | 0 => S
  | i + 1 => nx a (rI a S i) i
noncomputable def rO (a : AS) (S : Int) : Nat → Int
  | 0 => S
  | i + 1 => rI a (rO a S i) 8
def sub8 (T : TT) (S : Int) : Prop := (0 ≤ S ∧ S < 256) ∧ ∀ m : Int, 0 ≤ m → m < 8 → bt S m.toNat = 1 → m < tN T
theorem kn_N (hw : WA T a) {n m : Int} (h : kn a n m) : m < tN T := hw.2.1 m h.2
theorem nx_sub (hw : WA T a) {S n : Int} (h : sub8 T S) : sub8 T (nx a S n) := by
  refine ⟨bits8_r _, fun m m1 m2 z => ?_⟩
  rcases (bt_bits8 m1 m2).mp z with y | y
  · exact h.2 m m1 m2 y
  · exact kn_N hw y.2
theorem rI_sub (hw : WA T a) {S : Int} (h : sub8 T S) : ∀ i, sub8 T (rI a S i)
  | 0 => h
  | i + 1 => nx_sub hw (rI_sub hw h i)
theorem rO_sub (hw : WA T a) {S : Int} (h : sub8 T S) : ∀ i, sub8 T (rO a S i)
  | 0 => h
  | i + 1 => rI_sub hw (rO_sub hw h i) 8
theorem nx_is {S n v : Int} (h1 : 0 ≤ v) (h2 : v < 256) (h : ∀ m : Int, 0 ≤ m → m < 8 → (bt v m.toNat = 1 ↔ bt S m.toNat = 1 ∨ (bt S n.toNat = 1 ∧ kn a n m))) : v = nx a S n := by
  have r := bits8_r (fun m => bt S m.toNat = 1 ∨ (bt S n.toNat = 1 ∧ kn a n m))
  refine v_ext h1 (by omega) r.1 (by have := r.2; unfold nx; omega) (fun m hm => ?_)
  rcases Nat.lt_or_ge m 8 with c | c
  · have := h m (by omega) (by omega)
    rw [Int.toNat_natCast] at this
    unfold nx
    rw [this, bt_bits m c, Int.toNat_natCast]
  · unfold nx
    rw [bt_low h1 (n := 8) (by omega) c, bt_low r.1 (n := 8) (by omega) c]
theorem nx_id (hw : WA T a) {S n : Int} (h : sub8 T S) (h1 : 0 ≤ n) (h2 : n < 8) (hn : tN T ≤ n) : nx a S n = S :=
  (nx_is h.1.1 h.1.2 (fun m m1 m2 => ⟨fun z => Or.inl z, fun z => by
    rcases z with z | z
    · exact z
    · have := h.2 n h1 h2 z.1; omega⟩)).symm
theorem rI_more (hw : WA T a) {S : Int} (h : sub8 T S) : ∀ j : Nat, (tN T).toNat + j ≤ 8 → rI a S ((tN T).toNat + j) = rI a S (tN T).toNat
  | 0, _ => rfl
  | j + 1, hj => by
    rw [← Nat.add_assoc, rI, nx_id hw (rI_sub hw h _) (by omega) (by omega) (by omega)]
    exact rI_more hw h j (by omega)
theorem rI_8 (hw : WA T a) (w : WT T) {S : Int} (h : sub8 T S) : rI a S 8 = rI a S (tN T).toNat := by
  have wr := w.rg
  have := rI_more hw h (8 - (tN T).toNat) (by omega)
  rw [show (tN T).toNat + (8 - (tN T).toNat) = 8 by omega] at this; exact this
theorem rI_s {S i : Int} (h : 0 ≤ i) : rI a S (i + 1).toNat = nx a (rI a S i.toNat) i := by rw [toN1 h, rI, Int.toNat_of_nonneg h]
theorem rO_s {S i : Int} (h : 0 ≤ i) : rO a S (i + 1).toNat = rI a (rO a S i.toNat) 8 := by rw [toN1 h, rO]
theorem one_sub (hw : WA T a) {n : Int} (hn : isi a n = 1) (w : WT T) : sub8 T (ishl 1 n) := by
  have ni := hw.inr (n := n)
  have wr := w.rg
  obtain ⟨r, g, e1, -, e2, e3⟩ := x_bitOf (G := fun _ _ => 0) (x := n) (by omega) (by omega)
  unfold fX2_bitOf at e1
  rw [if_neg (by omega)] at e1
  have e4 : ishl 1 n = r := by cases e1; rfl
  rw [e4]
  exact ⟨e2, fun m m1 m2 z => by have := (e3 m m1 m2).mp z; omega⟩
theorem x_reachedFrom (w : WT T) (hw : WA T a) (hA_G : XA 27 a G) (hT_G : XT T G) {n : Int} (hn : isi a n = 1) : fX2_reachedFrom 33 n G = some (rO a (ishl 1 n) 8, G) := by
  have wr := w.rg
  have s0 := one_sub hw hn w
  unfold fX2_reachedFrom
  refine WP_eq ?_
  refine w_bd (fun v1 hv1 => ?_)
  refine w_bd (fun v2 hv2 => ?_)
  refine w_lpII (fun (v3 : Int) (v4 : Int) => (0 ≤ v4) ∧ (v4 ≤ 8) ∧ (v3 = rO a (ishl 1 n) v4.toNat)) (fun (v3 : Int) (v4 : Int) => (8 - v4).toNat) (fun rc5 v3 v4 hI hrc5 => ?_) _ _ ?_ ?_
  · skip
    obtain ⟨i0, i1, e⟩ := hI
    have s3 := rO_sub hw s0 v4.toNat
    rw [← e] at s3
    have s3r := s3.1
    refine w_ite (fun c_1 => ?_) (fun c_1 => ?_)
    · skip
      refine w_bd (fun v6 hv6 => ?_)
      refine w_lpII (fun (v7 : Int) (v8 : Int) => (0 ≤ v8) ∧ (v8 ≤ 8) ∧ (v7 = rI a v3 v8.toNat)) (fun (v7 : Int) (v8 : Int) => (8 - v8).toNat) (fun rc9 v7 v8 hI hrc9 => ?_) _ _ ?_ ?_
      · skip
        obtain ⟨j0, j1, e7⟩ := hI
        have s7 := rI_sub hw s3 v8.toNat
        rw [← e7] at s7
        have s7r := s7.1
        refine w_ite (fun c_2 => ?_) (fun c_2 => ?_)
        · skip
          refine w_bp (x_has (by omega) (by omega) (by omega) (by omega)) (fun v11 hv11 => ?_)
          have q11 := bt_01 v7 v8.toNat
          refine w_jn ?_
          refine w_ite (fun c_3 => ?_) (fun c_3 => ?_)
          · skip
            refine w_bd (fun v14 hv14 => ?_)
            refine w_bd (fun v15 hv15 => ?_)
            simp (disch := omega) only [iadd_id, isub_id, imul_id] at hv15
            refine hrc9 _ _ ?_ ?_
            · try dsimp only
              refine ⟨?_, ?_, ?_⟩
              · first | omega | grind
              · first | omega | grind
              · rw [hv15, rI_s j0, ← e7, hv14]
                first
                | (have q := or_bt s7r.1 s7r.2 r16.1 r16.2
                   refine nx_is q.1.1 q.1.2 (fun m m1 m2 => ?_)
                   rw [q.2, b16 m m1 m2]
                   exact ⟨fun z => by rcases z with z | z; exact Or.inl z; exact Or.inr ⟨by omega, z⟩, fun z => by rcases z with z | z; exact Or.inl z; exact Or.inr z.2⟩)
                | (rw [ior_0 (by omega) (by omega)]
                   exact nx_is s7r.1 s7r.2 (fun m m1 m2 => ⟨fun z => Or.inl z, fun z => by rcases z with z | z; exact z; omega⟩))
            · try dsimp only
              omega
          · skip
            refine w_bpq (x_knownBy w hw hA_G hT_G (n := v8)) (fun v16 g16 q16 => ?_)
            obtain ⟨-, r16, b16⟩ := q16
            refine w_bd (fun v14 hv14 => ?_)
            refine w_bd (fun v15 hv15 => ?_)
            simp (disch := omega) only [iadd_id, isub_id, imul_id] at hv15
            refine hrc9 _ _ ?_ ?_
            · try dsimp only
              refine ⟨?_, ?_, ?_⟩
              · first | omega | grind
              · first | omega | grind
              · rw [hv15, rI_s j0, ← e7, hv14]
                first
                | (have q := or_bt s7r.1 s7r.2 r16.1 r16.2
                   refine nx_is q.1.1 q.1.2 (fun m m1 m2 => ?_)
                   rw [q.2, b16 m m1 m2]
                   exact ⟨fun z => by rcases z with z | z; exact Or.inl z; exact Or.inr ⟨by omega, z⟩, fun z => by rcases z with z | z; exact Or.inl z; exact Or.inr z.2⟩)
                | (rw [ior_0 (by omega) (by omega)]
                   exact nx_is s7r.1 s7r.2 (fun m m1 m2 => ⟨fun z => Or.inl z, fun z => by rcases z with z | z; exact z; omega⟩))
            · try dsimp only
              omega
        · skip
          refine w_bd (fun v10 hv10 => ?_)
          simp (disch := omega) only [iadd_id, isub_id, imul_id] at hv10
          refine hrc5 _ _ ?_ ?_
          · try dsimp only
            refine ⟨?_, ?_, ?_⟩
            · first | omega | grind
            · first | omega | grind
            · rw [hv10, rO_s i0, ← e, show (8 : Nat) = v8.toNat by omega]; exact e7
          · try dsimp only
            omega
      · try dsimp only
        refine ⟨?_, ?_, ?_⟩
        · first | omega | (subst_vars; first | rfl | assumption) | assumption
        · first | omega | (subst_vars; first | rfl | assumption) | assumption
        · rw [hv6]; rfl
      · try dsimp only
        omega
    · skip
      refine w_rt ?_
      refine ⟨?_, rfl⟩
      rw [e, show v4.toNat = 8 by omega]
  · try dsimp only
    refine ⟨?_, ?_, ?_⟩
    · first | omega | (subst_vars; first | rfl | assumption) | assumption
    · first | omega | (subst_vars; first | rfl | assumption) | assumption
    · rw [hv2, hv1]; rfl
  · try dsimp only
    omega

theorem m_knows (w : WT T) (hw : WA T a) (hR_G : MR 0 a G) (hM_G : MT T G) {n m : Int} (h1 : 0 ≤ n) (h2 : n < 8) (hm : 0 ≤ m) (hm2 : m < 8) : WP (fX12_knows 111 n m G) (fun r G' => G' = G ∧ ((r = 1 ∧ kn a n m) ∨ (r = 0 ∧ ¬ kn a n m))) := by
  have wr := w.rg
  unfold fX12_knows
  refine w_bpq (m_isListed w hw hR_G hM_G (n := n) (m := m) h1 h2 hm) (fun v1 g1 q1 => ?_)
  replace q1 := q1.2
  refine w_jn ?_
  refine w_jn ?_
  refine w_ite (fun c_1 => ?_) (fun c_1 => ?_)
  · skip
    refine w_bp (m_aheadOf (b := 0) hR_G (by omega) (by omega) (by omega)) (fun v17 hv17 => ?_)
    have qv17 := hw.ar n
    refine w_ite (fun c_2 => ?_) (fun c_2 => ?_)
    · skip
      refine w_bd (fun v4 hv4 => ?_)
      have q4 : (v4 = 1 ∧ (lsd a n m ∨ ahd a n = m)) ∨ (v4 = 0 ∧ ¬ (lsd a n m ∨ ahd a n = m)) := by
        rcases q1 with z | z
        · first | (left; exact ⟨hv4, Or.inl z.2⟩) | (exfalso; omega)
        · first | (left; exact ⟨hv4, Or.inr (by omega)⟩) | (right; exact ⟨hv4, fun y => by rcases y with y | y; exact z.2 y; omega⟩) | (exfalso; omega)
      refine w_bd (fun v5 hv5 => ?_)
      refine w_lpII (fun (v6 : Int) (v7 : Int) => (0 ≤ v7) ∧ (v7 ≤ 8) ∧ ((v6 = 1 ∧ (v4 = 1 ∨ ∃ k : Int, 0 ≤ k ∧ k < v7 ∧ fng a n k = m)) ∨ (v6 = 0 ∧ v4 = 0 ∧ ∀ k : Int, 0 ≤ k → k < v7 → fng a n k ≠ m))) (fun (v6 : Int) (v7 : Int) => (8 - v7).toNat) (fun rc8 v6 v7 hI hrc8 => ?_) _ _ ?_ ?_
      · skip
        obtain ⟨j0, j1, st⟩ := hI
        refine w_ite (fun c_3 => ?_) (fun c_3 => ?_)
        · skip
          refine w_jn ?_
          refine w_jn ?_
          refine w_ite (fun c_4 => ?_) (fun c_4 => ?_)
          · skip
            refine w_bp (m_fingerOf (b := 0) hR_G (by omega) (by omega) (by omega) (by omega) (by omega)) (fun v15 hv15 => ?_)
            have qv15 := hw.fr n v7
            refine w_ite (fun c_5 => ?_) (fun c_5 => ?_)
            · skip
              refine w_bd (fun v12 hv12 => ?_)
              refine w_bd (fun v13 hv13 => ?_)
              simp (disch := omega) only [iadd_id, isub_id, imul_id] at hv13
              refine hrc8 _ _ ?_ ?_
              · try dsimp only
                refine ⟨?_, ?_, ?_⟩
                · first | omega | grind
                · first | omega | grind
                · rw [hv13]
                  first
                  | (left; refine ⟨hv12, ?_⟩
                     rcases st with ⟨s1, s2 | ⟨k, k1, k2, k3⟩⟩ | ⟨s1, s2, s3⟩
                     · exact Or.inl s2
                     · exact Or.inr ⟨k, k1, by omega, k3⟩
                     · exact Or.inr ⟨v7, j0, by omega, by omega⟩)
                  | (right; have s2 := st.resolve_left (fun z => by omega); refine ⟨hv12, s2.2.1, fun k k1 k2 => ?_⟩
                     by_cases u : k = v7
                     · rw [u]; omega
                     · exact s2.2.2 k k1 (by omega))
              · try dsimp only
                omega
            · skip
              refine w_bd (fun v12 hv12 => ?_)
              refine w_bd (fun v13 hv13 => ?_)
              simp (disch := omega) only [iadd_id, isub_id, imul_id] at hv13
              refine hrc8 _ _ ?_ ?_
              · try dsimp only
                refine ⟨?_, ?_, ?_⟩
                · first | omega | grind
                · first | omega | grind
                · rw [hv13]
                  first
                  | (left; refine ⟨hv12, ?_⟩
                     rcases st with ⟨s1, s2 | ⟨k, k1, k2, k3⟩⟩ | ⟨s1, s2, s3⟩
                     · exact Or.inl s2
                     · exact Or.inr ⟨k, k1, by omega, k3⟩
                     · exact Or.inr ⟨v7, j0, by omega, by omega⟩)
                  | (right; have s2 := st.resolve_left (fun z => by omega); refine ⟨hv12, s2.2.1, fun k k1 k2 => ?_⟩
                     by_cases u : k = v7
                     · rw [u]; omega
                     · exact s2.2.2 k k1 (by omega))
              · try dsimp only
                omega
          · skip
            refine w_bd (fun v12 hv12 => ?_)
            refine w_bd (fun v13 hv13 => ?_)
            simp (disch := omega) only [iadd_id, isub_id, imul_id] at hv13
            refine hrc8 _ _ ?_ ?_
            · try dsimp only
              refine ⟨?_, ?_, ?_⟩
              · first | omega | grind
              · first | omega | grind
              · rw [hv13]
                first
                | (left; refine ⟨hv12, ?_⟩
                   rcases st with ⟨s1, s2 | ⟨k, k1, k2, k3⟩⟩ | ⟨s1, s2, s3⟩
                   · exact Or.inl s2
                   · exact Or.inr ⟨k, k1, by omega, k3⟩
                   · exact Or.inr ⟨v7, j0, by omega, by omega⟩)
                | (right; have s2 := st.resolve_left (fun z => by omega); refine ⟨hv12, s2.2.1, fun k k1 k2 => ?_⟩
                   by_cases u : k = v7
                   · rw [u]; omega
                   · exact s2.2.2 k k1 (by omega))
            · try dsimp only
              omega
        · skip
          refine w_ite (fun c_6 => ?_) (fun c_6 => ?_)
          · skip
            refine w_rz (by omega) ?_
            have im : True := trivial
            refine ⟨rfl, ?_⟩
            unfold kn
            rcases st with ⟨s1, s2⟩ | ⟨s1, s2, s3⟩
            · have ky : lsd a n m ∨ ahd a n = m ∨ ∃ k : Int, 0 ≤ k ∧ k < 8 ∧ fng a n k = m := by
                rcases s2 with s2 | ⟨k, k1, k2, k3⟩
                · rcases q4 with z | z
                  · rcases z.2 with y | y
                    · exact Or.inl y
                    · exact Or.inr (Or.inl y)
                  · exact absurd (s2.symm.trans z.1) (by decide)
                · exact Or.inr (Or.inr ⟨k, k1, by omega, k3⟩)
              exact absurd (s1.symm.trans c_6) (by decide)
            · have kz : ¬ (lsd a n m ∨ ahd a n = m ∨ ∃ k : Int, 0 ≤ k ∧ k < 8 ∧ fng a n k = m) := by
                rintro (y | y | ⟨k, k1, k2, k3⟩)
                · rcases q4 with z | z
                  · exact absurd (s2.symm.trans z.1) (by decide)
                  · exact z.2 (Or.inl y)
                · rcases q4 with z | z
                  · exact absurd (s2.symm.trans z.1) (by decide)
                  · exact z.2 (Or.inr y)
                · exact s3 k k1 (by omega) k3
              right; exact ⟨rfl, fun z => kz z.1⟩
          · skip
            refine w_bp (m_isIn (b := 0) hR_G (by omega) (by omega)) (fun v9 hv9 => ?_)
            have qv9 := hw.inr (n := m)
            refine w_ite (fun c_7 => ?_) (fun c_7 => ?_)
            · skip
              refine w_rz (by omega) ?_
              have im : ¬ isi a m = 1 := fun z => by rw [← hv9] at z; exact absurd (c_7.symm.trans z) (by decide)
              refine ⟨rfl, ?_⟩
              unfold kn
              rcases st with ⟨s1, s2⟩ | ⟨s1, s2, s3⟩
              · have ky : lsd a n m ∨ ahd a n = m ∨ ∃ k : Int, 0 ≤ k ∧ k < 8 ∧ fng a n k = m := by
                  rcases s2 with s2 | ⟨k, k1, k2, k3⟩
                  · rcases q4 with z | z
                    · rcases z.2 with y | y
                      · exact Or.inl y
                      · exact Or.inr (Or.inl y)
                    · exact absurd (s2.symm.trans z.1) (by decide)
                  · exact Or.inr (Or.inr ⟨k, k1, by omega, k3⟩)
                right; exact ⟨rfl, fun z => im z.2⟩
              · have kz : ¬ (lsd a n m ∨ ahd a n = m ∨ ∃ k : Int, 0 ≤ k ∧ k < 8 ∧ fng a n k = m) := by
                  rintro (y | y | ⟨k, k1, k2, k3⟩)
                  · rcases q4 with z | z
                    · exact absurd (s2.symm.trans z.1) (by decide)
                    · exact z.2 (Or.inl y)
                  · rcases q4 with z | z
                    · exact absurd (s2.symm.trans z.1) (by decide)
                    · exact z.2 (Or.inr y)
                  · exact s3 k k1 (by omega) k3
                right; exact ⟨rfl, fun z => kz z.1⟩
            · skip
              refine w_rz (by omega) ?_
              have im : isi a m = 1 := by
                rcases qv9 with z | z
                · exact absurd (hv9.trans z) (by assumption)
                · exact z.1
              refine ⟨rfl, ?_⟩
              unfold kn
              rcases st with ⟨s1, s2⟩ | ⟨s1, s2, s3⟩
              · have ky : lsd a n m ∨ ahd a n = m ∨ ∃ k : Int, 0 ≤ k ∧ k < 8 ∧ fng a n k = m := by
                  rcases s2 with s2 | ⟨k, k1, k2, k3⟩
                  · rcases q4 with z | z
                    · rcases z.2 with y | y
                      · exact Or.inl y
                      · exact Or.inr (Or.inl y)
                    · exact absurd (s2.symm.trans z.1) (by decide)
                  · exact Or.inr (Or.inr ⟨k, k1, by omega, k3⟩)
                left; exact ⟨rfl, ky, im⟩
              · have kz : ¬ (lsd a n m ∨ ahd a n = m ∨ ∃ k : Int, 0 ≤ k ∧ k < 8 ∧ fng a n k = m) := by
                  rintro (y | y | ⟨k, k1, k2, k3⟩)
                  · rcases q4 with z | z
                    · exact absurd (s2.symm.trans z.1) (by decide)
                    · exact z.2 (Or.inl y)
                  · rcases q4 with z | z
                    · exact absurd (s2.symm.trans z.1) (by decide)
                    · exact z.2 (Or.inr y)
                  · exact s3 k k1 (by omega) k3
                exact absurd s1 (by assumption)
      · try dsimp only
        refine ⟨?_, ?_, ?_⟩
        · first | omega | (subst_vars; first | rfl | assumption) | assumption
        · first | omega | (subst_vars; first | rfl | assumption) | assumption
        · rcases q4 with z | z
          · left; exact ⟨z.1, Or.inl z.1⟩
          · right; exact ⟨z.1, z.1, fun k k1 k2 => by omega⟩
      · try dsimp only
        omega
    · skip
      refine w_bd (fun v4 hv4 => ?_)
      have q4 : (v4 = 1 ∧ (lsd a n m ∨ ahd a n = m)) ∨ (v4 = 0 ∧ ¬ (lsd a n m ∨ ahd a n = m)) := by
        rcases q1 with z | z
        · first | (left; exact ⟨hv4, Or.inl z.2⟩) | (exfalso; omega)
        · first | (left; exact ⟨hv4, Or.inr (by omega)⟩) | (right; exact ⟨hv4, fun y => by rcases y with y | y; exact z.2 y; omega⟩) | (exfalso; omega)
      refine w_bd (fun v5 hv5 => ?_)
      refine w_lpII (fun (v6 : Int) (v7 : Int) => (0 ≤ v7) ∧ (v7 ≤ 8) ∧ ((v6 = 1 ∧ (v4 = 1 ∨ ∃ k : Int, 0 ≤ k ∧ k < v7 ∧ fng a n k = m)) ∨ (v6 = 0 ∧ v4 = 0 ∧ ∀ k : Int, 0 ≤ k → k < v7 → fng a n k ≠ m))) (fun (v6 : Int) (v7 : Int) => (8 - v7).toNat) (fun rc8 v6 v7 hI hrc8 => ?_) _ _ ?_ ?_
      · skip
        obtain ⟨j0, j1, st⟩ := hI
        refine w_ite (fun c_8 => ?_) (fun c_8 => ?_)
        · skip
          refine w_jn ?_
          refine w_jn ?_
          refine w_ite (fun c_9 => ?_) (fun c_9 => ?_)
          · skip
            refine w_bp (m_fingerOf (b := 0) hR_G (by omega) (by omega) (by omega) (by omega) (by omega)) (fun v15 hv15 => ?_)
            have qv15 := hw.fr n v7
            refine w_ite (fun c_10 => ?_) (fun c_10 => ?_)
            · skip
              refine w_bd (fun v12 hv12 => ?_)
              refine w_bd (fun v13 hv13 => ?_)
              simp (disch := omega) only [iadd_id, isub_id, imul_id] at hv13
              refine hrc8 _ _ ?_ ?_
              · try dsimp only
                refine ⟨?_, ?_, ?_⟩
                · first | omega | grind
                · first | omega | grind
                · rw [hv13]
                  first
                  | (left; refine ⟨hv12, ?_⟩
                     rcases st with ⟨s1, s2 | ⟨k, k1, k2, k3⟩⟩ | ⟨s1, s2, s3⟩
                     · exact Or.inl s2
                     · exact Or.inr ⟨k, k1, by omega, k3⟩
                     · exact Or.inr ⟨v7, j0, by omega, by omega⟩)
                  | (right; have s2 := st.resolve_left (fun z => by omega); refine ⟨hv12, s2.2.1, fun k k1 k2 => ?_⟩
                     by_cases u : k = v7
                     · rw [u]; omega
                     · exact s2.2.2 k k1 (by omega))
              · try dsimp only
                omega
            · skip
              refine w_bd (fun v12 hv12 => ?_)
              refine w_bd (fun v13 hv13 => ?_)
              simp (disch := omega) only [iadd_id, isub_id, imul_id] at hv13
              refine hrc8 _ _ ?_ ?_
              · try dsimp only
                refine ⟨?_, ?_, ?_⟩
                · first | omega | grind
                · first | omega | grind
                · rw [hv13]
                  first
                  | (left; refine ⟨hv12, ?_⟩
                     rcases st with ⟨s1, s2 | ⟨k, k1, k2, k3⟩⟩ | ⟨s1, s2, s3⟩
                     · exact Or.inl s2
                     · exact Or.inr ⟨k, k1, by omega, k3⟩
                     · exact Or.inr ⟨v7, j0, by omega, by omega⟩)
                  | (right; have s2 := st.resolve_left (fun z => by omega); refine ⟨hv12, s2.2.1, fun k k1 k2 => ?_⟩
                     by_cases u : k = v7
                     · rw [u]; omega
                     · exact s2.2.2 k k1 (by omega))
              · try dsimp only
                omega
          · skip
            refine w_bd (fun v12 hv12 => ?_)
            refine w_bd (fun v13 hv13 => ?_)
            simp (disch := omega) only [iadd_id, isub_id, imul_id] at hv13
            refine hrc8 _ _ ?_ ?_
            · try dsimp only
              refine ⟨?_, ?_, ?_⟩
              · first | omega | grind
              · first | omega | grind
              · rw [hv13]
                first
                | (left; refine ⟨hv12, ?_⟩
                   rcases st with ⟨s1, s2 | ⟨k, k1, k2, k3⟩⟩ | ⟨s1, s2, s3⟩
                   · exact Or.inl s2
                   · exact Or.inr ⟨k, k1, by omega, k3⟩
                   · exact Or.inr ⟨v7, j0, by omega, by omega⟩)
                | (right; have s2 := st.resolve_left (fun z => by omega); refine ⟨hv12, s2.2.1, fun k k1 k2 => ?_⟩
                   by_cases u : k = v7
                   · rw [u]; omega
                   · exact s2.2.2 k k1 (by omega))
            · try dsimp only
              omega
        · skip
          refine w_ite (fun c_11 => ?_) (fun c_11 => ?_)
          · skip
            refine w_rz (by omega) ?_
            have im : True := trivial
            refine ⟨rfl, ?_⟩
            unfold kn
            rcases st with ⟨s1, s2⟩ | ⟨s1, s2, s3⟩
            · have ky : lsd a n m ∨ ahd a n = m ∨ ∃ k : Int, 0 ≤ k ∧ k < 8 ∧ fng a n k = m := by
                rcases s2 with s2 | ⟨k, k1, k2, k3⟩
                · rcases q4 with z | z
                  · rcases z.2 with y | y
                    · exact Or.inl y
                    · exact Or.inr (Or.inl y)
                  · exact absurd (s2.symm.trans z.1) (by decide)
                · exact Or.inr (Or.inr ⟨k, k1, by omega, k3⟩)
              exact absurd (s1.symm.trans c_11) (by decide)
            · have kz : ¬ (lsd a n m ∨ ahd a n = m ∨ ∃ k : Int, 0 ≤ k ∧ k < 8 ∧ fng a n k = m) := by
                rintro (y | y | ⟨k, k1, k2, k3⟩)
                · rcases q4 with z | z
                  · exact absurd (s2.symm.trans z.1) (by decide)
                  · exact z.2 (Or.inl y)
                · rcases q4 with z | z
                  · exact absurd (s2.symm.trans z.1) (by decide)
                  · exact z.2 (Or.inr y)
                · exact s3 k k1 (by omega) k3
              right; exact ⟨rfl, fun z => kz z.1⟩
          · skip
            refine w_bp (m_isIn (b := 0) hR_G (by omega) (by omega)) (fun v9 hv9 => ?_)
            have qv9 := hw.inr (n := m)
            refine w_ite (fun c_12 => ?_) (fun c_12 => ?_)
            · skip
              refine w_rz (by omega) ?_
              have im : ¬ isi a m = 1 := fun z => by rw [← hv9] at z; exact absurd (c_12.symm.trans z) (by decide)
              refine ⟨rfl, ?_⟩
              unfold kn
              rcases st with ⟨s1, s2⟩ | ⟨s1, s2, s3⟩
              · have ky : lsd a n m ∨ ahd a n = m ∨ ∃ k : Int, 0 ≤ k ∧ k < 8 ∧ fng a n k = m := by
                  rcases s2 with s2 | ⟨k, k1, k2, k3⟩
                  · rcases q4 with z | z
                    · rcases z.2 with y | y
                      · exact Or.inl y
                      · exact Or.inr (Or.inl y)
                    · exact absurd (s2.symm.trans z.1) (by decide)
                  · exact Or.inr (Or.inr ⟨k, k1, by omega, k3⟩)
                right; exact ⟨rfl, fun z => im z.2⟩
              · have kz : ¬ (lsd a n m ∨ ahd a n = m ∨ ∃ k : Int, 0 ≤ k ∧ k < 8 ∧ fng a n k = m) := by
                  rintro (y | y | ⟨k, k1, k2, k3⟩)
                  · rcases q4 with z | z
                    · exact absurd (s2.symm.trans z.1) (by decide)
                    · exact z.2 (Or.inl y)
                  · rcases q4 with z | z
                    · exact absurd (s2.symm.trans z.1) (by decide)
                    · exact z.2 (Or.inr y)
                  · exact s3 k k1 (by omega) k3
                right; exact ⟨rfl, fun z => kz z.1⟩
            · skip
              refine w_rz (by omega) ?_
              have im : isi a m = 1 := by
                rcases qv9 with z | z
                · exact absurd (hv9.trans z) (by assumption)
                · exact z.1
              refine ⟨rfl, ?_⟩
              unfold kn
              rcases st with ⟨s1, s2⟩ | ⟨s1, s2, s3⟩
              · have ky : lsd a n m ∨ ahd a n = m ∨ ∃ k : Int, 0 ≤ k ∧ k < 8 ∧ fng a n k = m := by
                  rcases s2 with s2 | ⟨k, k1, k2, k3⟩
                  · rcases q4 with z | z
                    · rcases z.2 with y | y
                      · exact Or.inl y
                      · exact Or.inr (Or.inl y)
                    · exact absurd (s2.symm.trans z.1) (by decide)
                  · exact Or.inr (Or.inr ⟨k, k1, by omega, k3⟩)
                left; exact ⟨rfl, ky, im⟩
              · have kz : ¬ (lsd a n m ∨ ahd a n = m ∨ ∃ k : Int, 0 ≤ k ∧ k < 8 ∧ fng a n k = m) := by
                  rintro (y | y | ⟨k, k1, k2, k3⟩)
                  · rcases q4 with z | z
                    · exact absurd (s2.symm.trans z.1) (by decide)
                    · exact z.2 (Or.inl y)
                  · rcases q4 with z | z
                    · exact absurd (s2.symm.trans z.1) (by decide)
                    · exact z.2 (Or.inr y)
                  · exact s3 k k1 (by omega) k3
                exact absurd s1 (by assumption)
      · try dsimp only
        refine ⟨?_, ?_, ?_⟩
        · first | omega | (subst_vars; first | rfl | assumption) | assumption
        · first | omega | (subst_vars; first | rfl | assumption) | assumption
        · rcases q4 with z | z
          · left; exact ⟨z.1, Or.inl z.1⟩
          · right; exact ⟨z.1, z.1, fun k k1 k2 => by omega⟩
      · try dsimp only
        omega
  · skip
    refine w_bd (fun v4 hv4 => ?_)
    have q4 : (v4 = 1 ∧ (lsd a n m ∨ ahd a n = m)) ∨ (v4 = 0 ∧ ¬ (lsd a n m ∨ ahd a n = m)) := by
      rcases q1 with z | z
      · first | (left; exact ⟨hv4, Or.inl z.2⟩) | (exfalso; omega)
      · first | (left; exact ⟨hv4, Or.inr (by omega)⟩) | (right; exact ⟨hv4, fun y => by rcases y with y | y; exact z.2 y; omega⟩) | (exfalso; omega)
    refine w_bd (fun v5 hv5 => ?_)
    refine w_lpII (fun (v6 : Int) (v7 : Int) => (0 ≤ v7) ∧ (v7 ≤ 8) ∧ ((v6 = 1 ∧ (v4 = 1 ∨ ∃ k : Int, 0 ≤ k ∧ k < v7 ∧ fng a n k = m)) ∨ (v6 = 0 ∧ v4 = 0 ∧ ∀ k : Int, 0 ≤ k → k < v7 → fng a n k ≠ m))) (fun (v6 : Int) (v7 : Int) => (8 - v7).toNat) (fun rc8 v6 v7 hI hrc8 => ?_) _ _ ?_ ?_
    · skip
      obtain ⟨j0, j1, st⟩ := hI
      refine w_ite (fun c_13 => ?_) (fun c_13 => ?_)
      · skip
        refine w_jn ?_
        refine w_jn ?_
        refine w_ite (fun c_14 => ?_) (fun c_14 => ?_)
        · skip
          refine w_bp (m_fingerOf (b := 0) hR_G (by omega) (by omega) (by omega) (by omega) (by omega)) (fun v15 hv15 => ?_)
          have qv15 := hw.fr n v7
          refine w_ite (fun c_15 => ?_) (fun c_15 => ?_)
          · skip
            refine w_bd (fun v12 hv12 => ?_)
            refine w_bd (fun v13 hv13 => ?_)
            simp (disch := omega) only [iadd_id, isub_id, imul_id] at hv13
            refine hrc8 _ _ ?_ ?_
            · try dsimp only
              refine ⟨?_, ?_, ?_⟩
              · first | omega | grind
              · first | omega | grind
              · rw [hv13]
                first
                | (left; refine ⟨hv12, ?_⟩
                   rcases st with ⟨s1, s2 | ⟨k, k1, k2, k3⟩⟩ | ⟨s1, s2, s3⟩
                   · exact Or.inl s2
                   · exact Or.inr ⟨k, k1, by omega, k3⟩
                   · exact Or.inr ⟨v7, j0, by omega, by omega⟩)
                | (right; have s2 := st.resolve_left (fun z => by omega); refine ⟨hv12, s2.2.1, fun k k1 k2 => ?_⟩
                   by_cases u : k = v7
                   · rw [u]; omega
                   · exact s2.2.2 k k1 (by omega))
            · try dsimp only
              omega
          · skip
            refine w_bd (fun v12 hv12 => ?_)
            refine w_bd (fun v13 hv13 => ?_)
            simp (disch := omega) only [iadd_id, isub_id, imul_id] at hv13
            refine hrc8 _ _ ?_ ?_
            · try dsimp only
              refine ⟨?_, ?_, ?_⟩
              · first | omega | grind
              · first | omega | grind
              · rw [hv13]
                first
                | (left; refine ⟨hv12, ?_⟩
                   rcases st with ⟨s1, s2 | ⟨k, k1, k2, k3⟩⟩ | ⟨s1, s2, s3⟩
                   · exact Or.inl s2
                   · exact Or.inr ⟨k, k1, by omega, k3⟩
                   · exact Or.inr ⟨v7, j0, by omega, by omega⟩)
                | (right; have s2 := st.resolve_left (fun z => by omega); refine ⟨hv12, s2.2.1, fun k k1 k2 => ?_⟩
                   by_cases u : k = v7
                   · rw [u]; omega
                   · exact s2.2.2 k k1 (by omega))
            · try dsimp only
              omega
        · skip
          refine w_bd (fun v12 hv12 => ?_)
          refine w_bd (fun v13 hv13 => ?_)
          simp (disch := omega) only [iadd_id, isub_id, imul_id] at hv13
          refine hrc8 _ _ ?_ ?_
          · try dsimp only
            refine ⟨?_, ?_, ?_⟩
            · first | omega | grind
            · first | omega | grind
            · rw [hv13]
              first
              | (left; refine ⟨hv12, ?_⟩
                 rcases st with ⟨s1, s2 | ⟨k, k1, k2, k3⟩⟩ | ⟨s1, s2, s3⟩
                 · exact Or.inl s2
                 · exact Or.inr ⟨k, k1, by omega, k3⟩
                 · exact Or.inr ⟨v7, j0, by omega, by omega⟩)
              | (right; have s2 := st.resolve_left (fun z => by omega); refine ⟨hv12, s2.2.1, fun k k1 k2 => ?_⟩
                 by_cases u : k = v7
                 · rw [u]; omega
                 · exact s2.2.2 k k1 (by omega))
          · try dsimp only
            omega
      · skip
        refine w_ite (fun c_16 => ?_) (fun c_16 => ?_)
        · skip
          refine w_rz (by omega) ?_
          have im : True := trivial
          refine ⟨rfl, ?_⟩
          unfold kn
          rcases st with ⟨s1, s2⟩ | ⟨s1, s2, s3⟩
          · have ky : lsd a n m ∨ ahd a n = m ∨ ∃ k : Int, 0 ≤ k ∧ k < 8 ∧ fng a n k = m := by
              rcases s2 with s2 | ⟨k, k1, k2, k3⟩
              · rcases q4 with z | z
                · rcases z.2 with y | y
                  · exact Or.inl y
                  · exact Or.inr (Or.inl y)
                · exact absurd (s2.symm.trans z.1) (by decide)
              · exact Or.inr (Or.inr ⟨k, k1, by omega, k3⟩)
            exact absurd (s1.symm.trans c_16) (by decide)
          · have kz : ¬ (lsd a n m ∨ ahd a n = m ∨ ∃ k : Int, 0 ≤ k ∧ k < 8 ∧ fng a n k = m) := by
              rintro (y | y | ⟨k, k1, k2, k3⟩)
              · rcases q4 with z | z
                · exact absurd (s2.symm.trans z.1) (by decide)
                · exact z.2 (Or.inl y)
              · rcases q4 with z | z
                · exact absurd (s2.symm.trans z.1) (by decide)
                · exact z.2 (Or.inr y)
              · exact s3 k k1 (by omega) k3
            right; exact ⟨rfl, fun z => kz z.1⟩
        · skip
          refine w_bp (m_isIn (b := 0) hR_G (by omega) (by omega)) (fun v9 hv9 => ?_)
          have qv9 := hw.inr (n := m)
          refine w_ite (fun c_17 => ?_) (fun c_17 => ?_)
          · skip
            refine w_rz (by omega) ?_
            have im : ¬ isi a m = 1 := fun z => by rw [← hv9] at z; exact absurd (c_17.symm.trans z) (by decide)
            refine ⟨rfl, ?_⟩
            unfold kn
            rcases st with ⟨s1, s2⟩ | ⟨s1, s2, s3⟩
            · have ky : lsd a n m ∨ ahd a n = m ∨ ∃ k : Int, 0 ≤ k ∧ k < 8 ∧ fng a n k = m := by
                rcases s2 with s2 | ⟨k, k1, k2, k3⟩
                · rcases q4 with z | z
                  · rcases z.2 with y | y
                    · exact Or.inl y
                    · exact Or.inr (Or.inl y)
                  · exact absurd (s2.symm.trans z.1) (by decide)
                · exact Or.inr (Or.inr ⟨k, k1, by omega, k3⟩)
              right; exact ⟨rfl, fun z => im z.2⟩
            · have kz : ¬ (lsd a n m ∨ ahd a n = m ∨ ∃ k : Int, 0 ≤ k ∧ k < 8 ∧ fng a n k = m) := by
                rintro (y | y | ⟨k, k1, k2, k3⟩)
                · rcases q4 with z | z
                  · exact absurd (s2.symm.trans z.1) (by decide)
                  · exact z.2 (Or.inl y)
                · rcases q4 with z | z
                  · exact absurd (s2.symm.trans z.1) (by decide)
                  · exact z.2 (Or.inr y)
                · exact s3 k k1 (by omega) k3
              right; exact ⟨rfl, fun z => kz z.1⟩
          · skip
            refine w_rz (by omega) ?_
            have im : isi a m = 1 := by
              rcases qv9 with z | z
              · exact absurd (hv9.trans z) (by assumption)
              · exact z.1
            refine ⟨rfl, ?_⟩
            unfold kn
            rcases st with ⟨s1, s2⟩ | ⟨s1, s2, s3⟩
            · have ky : lsd a n m ∨ ahd a n = m ∨ ∃ k : Int, 0 ≤ k ∧ k < 8 ∧ fng a n k = m := by
                rcases s2 with s2 | ⟨k, k1, k2, k3⟩
                · rcases q4 with z | z
                  · rcases z.2 with y | y
                    · exact Or.inl y
                    · exact Or.inr (Or.inl y)
                  · exact absurd (s2.symm.trans z.1) (by decide)
                · exact Or.inr (Or.inr ⟨k, k1, by omega, k3⟩)
              left; exact ⟨rfl, ky, im⟩
            · have kz : ¬ (lsd a n m ∨ ahd a n = m ∨ ∃ k : Int, 0 ≤ k ∧ k < 8 ∧ fng a n k = m) := by
                rintro (y | y | ⟨k, k1, k2, k3⟩)
                · rcases q4 with z | z
                  · exact absurd (s2.symm.trans z.1) (by decide)
                  · exact z.2 (Or.inl y)
                · rcases q4 with z | z
                  · exact absurd (s2.symm.trans z.1) (by decide)
                  · exact z.2 (Or.inr y)
                · exact s3 k k1 (by omega) k3
              exact absurd s1 (by assumption)
    · try dsimp only
      refine ⟨?_, ?_, ?_⟩
      · first | omega | (subst_vars; first | rfl | assumption) | assumption
      · first | omega | (subst_vars; first | rfl | assumption) | assumption
      · rcases q4 with z | z
        · left; exact ⟨z.1, Or.inl z.1⟩
        · right; exact ⟨z.1, z.1, fun k k1 k2 => by omega⟩
    · try dsimp only
      omega

theorem m_reaches (w : WT T) (hw : WA T a) (hR_G : MR 0 a G) (hM_G : MT T G) {n : Int} : WP (fX12_reaches 111 n G) (fun r G' => G' = up G 111 0 0 ∧ r = (if isi a n = 1 then rO a (ishl 1 n) 8 else -1)) := by
  have wr := w.rg
  unfold fX12_reaches
  refine w_bh (fun G1 hG1 => ?_)
  have hR_G1 : MR 0 a G1 := hR_G.fr (by rw [hG1, up_ne (by decide)])
  have hM_G1 : MT T G1 := hM_G.fr (by rw [hG1, up_ne (by decide)]) (by rw [hG1, up_ne (by decide)])
  refine w_bp (m_isThere w hw hR_G1 hM_G1) (fun v2 hv2 => ?_)
  have q2 := hw.inr (n := n)
  refine w_ite (fun c_1 => ?_) (fun c_1 => ?_)
  · skip
    refine w_rt ?_
    exact ⟨hG1, by rw [if_neg (by omega)]⟩
  · skip
    refine w_bd (fun v3 hv3 => ?_)
    refine w_bd (fun v4 hv4 => ?_)
    refine w_lpII (fun (v5 : Int) (v6 : Int) => (0 ≤ v6) ∧ (v6 ≤ 8) ∧ (v5 = rO a (ishl 1 n) v6.toNat)) (fun (v5 : Int) (v6 : Int) => (8 - v6).toNat) (fun rc7 v5 v6 hI hrc7 => ?_) _ _ ?_ ?_
    · skip
      obtain ⟨i0, i1, e⟩ := hI
      have s0 := one_sub hw (show isi a n = 1 by omega) w
      have s5 := rO_sub hw s0 v6.toNat
      rw [← e] at s5
      have s5r := s5.1
      refine w_ite (fun c_2 => ?_) (fun c_2 => ?_)
      · skip
        refine w_bd (fun v8 hv8 => ?_)
        refine w_lpII (fun (v9 : Int) (v10 : Int) => (0 ≤ v10) ∧ (v10 ≤ tN T) ∧ (v9 = rI a v5 v10.toNat)) (fun (v9 : Int) (v10 : Int) => (8 - v10).toNat) (fun rc11 v9 v10 hI hrc11 => ?_) _ _ ?_ ?_
        · skip
          obtain ⟨j0, j1, e9⟩ := hI
          have s9 := rI_sub hw s5 v10.toNat
          rw [← e9] at s9
          have s9r := s9.1
          refine w_bp (m_nodes hM_G1) (fun v12 hv12 => ?_)
          refine w_ite (fun c_3 => ?_) (fun c_3 => ?_)
          · skip
            refine w_bd (fun v14 hv14 => ?_)
            refine w_lpII (fun (v15 : Int) (v16 : Int) => (0 ≤ v16) ∧ (v16 ≤ tN T) ∧ (0 ≤ v15 ∧ v15 < 256) ∧ (∀ m : Int, 0 ≤ m → m < 8 → (bt v15 m.toNat = 1 ↔ bt v9 m.toNat = 1 ∨ (bt v9 v10.toNat = 1 ∧ kn a v10 m ∧ m < v16)))) (fun (v15 : Int) (v16 : Int) => (8 - v16).toNat) (fun rc17 v15 v16 hI hrc17 => ?_) _ _ ?_ ?_
            · skip
              obtain ⟨l0, l1, r15, s15⟩ := hI
              have bj : (iand (ishr v15 v10) 1 = 1 ↔ bt v9 v10.toNat = 1) := by
                rw [bit_is (by omega) (by omega) j0 (by omega), s15 v10 j0 (by omega)]
                exact ⟨fun z => by rcases z with z | z; exact z; exact z.1, fun z => Or.inl z⟩
              refine w_bp (m_nodes hM_G1) (fun v18 hv18 => ?_)
              refine w_ite (fun c_4 => ?_) (fun c_4 => ?_)
              · skip
                refine w_jn ?_
                refine w_jn ?_
                refine w_ite (fun c_5 => ?_) (fun c_5 => ?_)
                · skip
                  refine w_bpq (m_knows w hw hR_G1 hM_G1 (n := v10) (m := v16) (by omega) (by omega) (by omega) (by omega)) (fun v25 g25 q25 => ?_)
                  replace q25 := q25.2
                  refine w_ite (fun c_6 => ?_) (fun c_6 => ?_)
                  · skip
                    refine w_bd (fun v22 hv22 => ?_)
                    refine w_bd (fun v23 hv23 => ?_)
                    simp (disch := omega) only [iadd_id, isub_id, imul_id] at hv23
                    refine hrc17 _ _ ?_ ?_
                    · try dsimp only
                      refine ⟨?_, ?_, ?_, ?_⟩
                      · first | omega | grind
                      · first | omega | grind
                      · rw [hv22]; first | (obtain ⟨r, g, e1, -, e2, e3⟩ := x_bitOf (G := G1) (x := v16) (by omega) (by omega); unfold fX2_bitOf at e1; rw [if_neg (by omega)] at e1; cases e1; exact (or_bt r15.1 r15.2 e2.1 e2.2).1) | (rw [ior_0 (by omega) (by omega)]; exact r15)
                      · intro m m1 m2
                        rw [hv22, hv23]
                        first
                        | (obtain ⟨r, g, e1, -, e2, e3⟩ := x_bitOf (G := G1) (x := v16) (by omega) (by omega)
                           unfold fX2_bitOf at e1
                           rw [if_neg (by omega)] at e1
                           cases e1
                           have kk : kn a v10 v16 := by rcases q25 with z | z; exact z.2; omega
                           have hb9 := bj.mp (by assumption)
                           rw [(or_bt r15.1 r15.2 e2.1 e2.2).2, s15 m m1 m2, e3 m m1 m2]
                           constructor
                           · rintro ((z | z) | z)
                             · exact Or.inl z
                             · exact Or.inr ⟨z.1, z.2.1, by have := z.2.2; omega⟩
                             · exact Or.inr ⟨hb9, by rw [← z]; exact kk, by omega⟩
                           · rintro (z | z)
                             · exact Or.inl (Or.inl z)
                             · by_cases u : m = v16
                               · exact Or.inr u.symm
                               · exact Or.inl (Or.inr ⟨z.1, z.2.1, by have := z.2.2; omega⟩))
                        | (rw [ior_0 (by omega) (by omega), s15 m m1 m2]
                           constructor
                           · rintro (z | z)
                             · exact Or.inl z
                             · exact Or.inr ⟨z.1, z.2.1, by have := z.2.2; omega⟩
                           · rintro (z | z)
                             · exact Or.inl z
                             · by_cases u : m = v16
                               · exfalso
                                 first
                                 | (have := bj.mpr z.1; omega)
                                 | (rw [u] at z; rcases q25 with y | y; omega; exact y.2 z.2.1)
                               · exact Or.inr ⟨z.1, z.2.1, by have := z.2.2; omega⟩)
                    · try dsimp only
                      omega
                  · skip
                    refine w_bd (fun v22 hv22 => ?_)
                    refine w_bd (fun v23 hv23 => ?_)
                    simp (disch := omega) only [iadd_id, isub_id, imul_id] at hv23
                    refine hrc17 _ _ ?_ ?_
                    · try dsimp only
                      refine ⟨?_, ?_, ?_, ?_⟩
                      · first | omega | grind
                      · first | omega | grind
                      · rw [hv22]; first | (obtain ⟨r, g, e1, -, e2, e3⟩ := x_bitOf (G := G1) (x := v16) (by omega) (by omega); unfold fX2_bitOf at e1; rw [if_neg (by omega)] at e1; cases e1; exact (or_bt r15.1 r15.2 e2.1 e2.2).1) | (rw [ior_0 (by omega) (by omega)]; exact r15)
                      · intro m m1 m2
                        rw [hv22, hv23]
                        first
                        | (obtain ⟨r, g, e1, -, e2, e3⟩ := x_bitOf (G := G1) (x := v16) (by omega) (by omega)
                           unfold fX2_bitOf at e1
                           rw [if_neg (by omega)] at e1
                           cases e1
                           have kk : kn a v10 v16 := by rcases q25 with z | z; exact z.2; omega
                           have hb9 := bj.mp (by assumption)
                           rw [(or_bt r15.1 r15.2 e2.1 e2.2).2, s15 m m1 m2, e3 m m1 m2]
                           constructor
                           · rintro ((z | z) | z)
                             · exact Or.inl z
                             · exact Or.inr ⟨z.1, z.2.1, by have := z.2.2; omega⟩
                             · exact Or.inr ⟨hb9, by rw [← z]; exact kk, by omega⟩
                           · rintro (z | z)
                             · exact Or.inl (Or.inl z)
                             · by_cases u : m = v16
                               · exact Or.inr u.symm
                               · exact Or.inl (Or.inr ⟨z.1, z.2.1, by have := z.2.2; omega⟩))
                        | (rw [ior_0 (by omega) (by omega), s15 m m1 m2]
                           constructor
                           · rintro (z | z)
                             · exact Or.inl z
                             · exact Or.inr ⟨z.1, z.2.1, by have := z.2.2; omega⟩
                           · rintro (z | z)
                             · exact Or.inl z
                             · by_cases u : m = v16
                               · exfalso
                                 first
                                 | (have := bj.mpr z.1; omega)
                                 | (rw [u] at z; rcases q25 with y | y; omega; exact y.2 z.2.1)
                               · exact Or.inr ⟨z.1, z.2.1, by have := z.2.2; omega⟩)
                    · try dsimp only
                      omega
                · skip
                  refine w_bd (fun v22 hv22 => ?_)
                  refine w_bd (fun v23 hv23 => ?_)
                  simp (disch := omega) only [iadd_id, isub_id, imul_id] at hv23
                  refine hrc17 _ _ ?_ ?_
                  · try dsimp only
                    refine ⟨?_, ?_, ?_, ?_⟩
                    · first | omega | grind
                    · first | omega | grind
                    · rw [hv22]; first | (obtain ⟨r, g, e1, -, e2, e3⟩ := x_bitOf (G := G1) (x := v16) (by omega) (by omega); unfold fX2_bitOf at e1; rw [if_neg (by omega)] at e1; cases e1; exact (or_bt r15.1 r15.2 e2.1 e2.2).1) | (rw [ior_0 (by omega) (by omega)]; exact r15)
                    · intro m m1 m2
                      rw [hv22, hv23]
                      first
                      | (obtain ⟨r, g, e1, -, e2, e3⟩ := x_bitOf (G := G1) (x := v16) (by omega) (by omega)
                         unfold fX2_bitOf at e1
                         rw [if_neg (by omega)] at e1
                         cases e1
                         have kk : kn a v10 v16 := by rcases q25 with z | z; exact z.2; omega
                         have hb9 := bj.mp (by assumption)
                         rw [(or_bt r15.1 r15.2 e2.1 e2.2).2, s15 m m1 m2, e3 m m1 m2]
                         constructor
                         · rintro ((z | z) | z)
                           · exact Or.inl z
                           · exact Or.inr ⟨z.1, z.2.1, by have := z.2.2; omega⟩
                           · exact Or.inr ⟨hb9, by rw [← z]; exact kk, by omega⟩
                         · rintro (z | z)
                           · exact Or.inl (Or.inl z)
                           · by_cases u : m = v16
                             · exact Or.inr u.symm
                             · exact Or.inl (Or.inr ⟨z.1, z.2.1, by have := z.2.2; omega⟩))
                      | (rw [ior_0 (by omega) (by omega), s15 m m1 m2]
                         constructor
                         · rintro (z | z)
                           · exact Or.inl z
                           · exact Or.inr ⟨z.1, z.2.1, by have := z.2.2; omega⟩
                         · rintro (z | z)
                           · exact Or.inl z
                           · by_cases u : m = v16
                             · exfalso
                               first
                               | (have := bj.mpr z.1; omega)
                               | (rw [u] at z; rcases q25 with y | y; omega; exact y.2 z.2.1)
                             · exact Or.inr ⟨z.1, z.2.1, by have := z.2.2; omega⟩)
                  · try dsimp only
                    omega
              · skip
                refine w_bd (fun v19 hv19 => ?_)
                simp (disch := omega) only [iadd_id, isub_id, imul_id] at hv19
                refine hrc11 _ _ ?_ ?_
                · try dsimp only
                  refine ⟨?_, ?_, ?_⟩
                  · first | omega | grind
                  · first | omega | grind
                  · rw [hv19, rI_s j0, ← e9]
                    refine nx_is r15.1 r15.2 (fun m m1 m2 => ?_)
                    rw [s15 m m1 m2]
                    exact ⟨fun z => by rcases z with z | z; exact Or.inl z; exact Or.inr ⟨z.1, z.2.1⟩, fun z => by rcases z with z | z; exact Or.inl z; exact Or.inr ⟨z.1, z.2, by have := kn_N hw z.2; omega⟩⟩
                · try dsimp only
                  omega
            · try dsimp only
              refine ⟨?_, ?_, ?_, ?_⟩
              · first | omega | (subst_vars; first | rfl | assumption) | assumption
              · first | omega | (subst_vars; first | rfl | assumption) | assumption
              · omega
              · intro m m1 m2; exact ⟨fun z => Or.inl z, fun z => by rcases z with z | z; exact z; have := z.2.2; omega⟩
            · try dsimp only
              omega
          · skip
            refine w_bd (fun v13 hv13 => ?_)
            simp (disch := omega) only [iadd_id, isub_id, imul_id] at hv13
            refine hrc7 _ _ ?_ ?_
            · try dsimp only
              refine ⟨?_, ?_, ?_⟩
              · first | omega | grind
              · first | omega | grind
              · rw [hv13, rO_s i0, ← e, rI_8 hw w s5, show (tN T).toNat = v10.toNat by omega]; exact e9
            · try dsimp only
              omega
        · try dsimp only
          refine ⟨?_, ?_, ?_⟩
          · first | omega | (subst_vars; first | rfl | assumption) | assumption
          · first | omega | (subst_vars; first | rfl | assumption) | assumption
          · rw [hv8]; rfl
        · try dsimp only
          omega
      · skip
        refine w_rt ?_
        exact ⟨hG1, by rw [if_pos (by omega), e, show v6.toNat = 8 by omega]⟩
    · try dsimp only
      refine ⟨?_, ?_, ?_⟩
      · first | omega | (subst_vars; first | rfl | assumption) | assumption
      · first | omega | (subst_vars; first | rfl | assumption) | assumption
      · rw [hv4, hv3]; rfl
    · try dsimp only
      omega

end LOO
