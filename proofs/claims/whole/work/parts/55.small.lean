/-! small things that are asked often -/
theorem ite01 (p : Prop) {D : Decidable p} : (p ∧ @ite Int p D 1 0 = 1) ∨ (¬ p ∧ @ite Int p D 1 0 = 0) := by
  by_cases h : p
  · exact Or.inl ⟨h, if_pos h⟩
  · exact Or.inr ⟨h, if_neg h⟩
theorem isi_bt {a : AS} {o : Int} (h1 : 0 ≤ o) (h2 : o < 8) : isi a o = bt a.1 o.toNat := by unfold isi; rw [if_pos ⟨h1, h2⟩]
theorem isi_neg {a : AS} {o : Int} (h1 : o < 0) : isi a o = 0 := by unfold isi; rw [if_neg (by omega)]
theorem wy_rng {C f t : Int} (h1 : 0 ≤ f) (h2 : 0 ≤ t) (h3 : f ≤ 1000) (h4 : t ≤ 1000) (h5 : 0 ≤ C ∧ C ≤ 256) : -1000 ≤ wy C f t ∧ wy C f t ≤ 1256 := by
  unfold wy; split <;> omega
theorem wT_rng {T : TT} (w : WT T) {n o : Int} (h1 : 0 ≤ n) (h2 : n < tN T) (h3 : 0 ≤ o) (h4 : o < tN T) : 1 ≤ wT T n o ∧ wT T n o ≤ 256 := by
  have p1 := (w.2.2.2.2.1 n h1 h2).1
  have p2 := (w.2.2.2.2.1 o h3 h4).1
  have w1 := w.2.2.2.1
  unfold wT wy
  split <;> omega
section SM
variable {b : Nat} {a : AS} {G : Hp} {T : TT}
theorem WT.kd (w : WT T) {i : Int} (h1 : 0 ≤ i) (h2 : i < tN T) : 0 ≤ tk T i ∧ tk T i ≤ 3 := (w.2.2.2.2.1 i h1 h2).2
theorem WT.pl (w : WT T) {i : Int} (h1 : 0 ≤ i) (h2 : i < tN T) : 0 ≤ tp T i ∧ tp T i < tC T := (w.2.2.2.2.1 i h1 h2).1
theorem WT.li (w : WT T) {i : Int} (h1 : 0 ≤ i) (h2 : i < tK T) : 0 ≤ tl T i ∧ (tl T i < tC T ∨ (tC T = 0 ∧ tl T i = 0)) := w.2.2.2.2.2.2 i h1 h2
theorem WT.rg (w : WT T) : 0 ≤ tN T ∧ tN T ≤ 8 ∧ 0 ≤ tK T ∧ tK T ≤ 10 ∧ 1 ≤ tL T ∧ tL T ≤ 4 ∧ 0 ≤ tC T ∧ tC T ≤ 256 := ⟨w.1.1, w.1.2, w.2.1.1, w.2.1.2, w.2.2.1.1, w.2.2.1.2, w.2.2.2.1.1, w.2.2.2.1.2⟩
theorem WA.inr (h : WA T a) {n : Int} : isi a n = 0 ∨ (isi a n = 1 ∧ 0 ≤ n ∧ n < tN T) := by
  rcases isi_01 a n with q | q
  · exact Or.inl q
  · refine Or.inr ⟨q, ?_, h.2.1 n q⟩
    rcases Int.lt_or_le n 0 with r | r
    · have := isi_neg (a := a) r; omega
    · exact r
theorem WA.lr (h : WA T a) (n k : Int) : -1 ≤ lst a n k ∧ lst a n k < tN T := h.2.2.1 n k
theorem WA.ar (h : WA T a) (n : Int) : -1 ≤ ahd a n ∧ ahd a n < tN T := h.2.2.2.2.2.1 n
theorem WA.fr (h : WA T a) (n k : Int) : -1 ≤ fng a n k ∧ fng a n k < tN T := h.2.2.2.2.2.2.1 n k
theorem WA.hr (h : WA T a) (k : Int) : -1 ≤ hld a k ∧ hld a k < tN T := h.2.2.2.2.2.2.2.1 k
theorem WA.lr8 (h : WA T a) (w : WT T) : lrg a := fun n k => by
  have h1 := h.lr n k
  have h2 := w.rg
  omega
theorem llen_rng (a : AS) (n : Int) : 0 ≤ llen a n ∧ llen a n ≤ 4 := by unfold llen; (repeat' split) <;> omega
/-- a list is as long as it is -/
theorem WA.lpre (h : WA T a) (n : Int) : (lst a n 1 ≠ -1 → lst a n 0 ≠ -1) ∧ (lst a n 2 ≠ -1 → lst a n 1 ≠ -1) ∧ (lst a n 3 ≠ -1 → lst a n 2 ≠ -1) := ⟨h.2.2.2.1 n 0 (by omega), h.2.2.2.1 n 1 (by omega), h.2.2.2.1 n 2 (by omega)⟩
theorem llen_in {n k : Int} (h1 : 0 ≤ k) (h2 : k < llen a n) : lst a n k ≠ -1 := by
  have r := llen_rng a n
  have hk : k = 0 ∨ k = 1 ∨ k = 2 ∨ k = 3 := by omega
  unfold llen at h2
  rcases hk with rfl | rfl | rfl | rfl <;> revert h2 <;> (repeat' split) <;> simp_all
theorem llen_out (h : WA T a) {n k : Int} (h1 : llen a n ≤ k) : lst a n k = -1 := by
  by_cases hk : k < 4
  · have r := llen_rng a n
    have p := h.lpre n
    have hk : k = 0 ∨ k = 1 ∨ k = 2 ∨ k = 3 := by omega
    unfold llen at h1
    rcases hk with rfl | rfl | rfl | rfl <;> revert h1 <;> (repeat' split) <;> grind
  · unfold lst; rw [if_neg (by omega)]
/-- the first is in, and of the list -/
theorem fst4_k (a : AS) (v n : Int) : fst4 a v n = -1 ∨ ∃ k, 0 ≤ k ∧ k < 4 ∧ lst a n k = fst4 a v n ∧ lst a n k ≠ -1 ∧ bt v (lst a n k).toNat = 1 := by
  unfold fst4
  split
  · rename_i q; exact Or.inr ⟨0, by omega, by omega, rfl, q.1, q.2⟩
  · split
    · rename_i q; exact Or.inr ⟨1, by omega, by omega, rfl, q.1, q.2⟩
    · split
      · rename_i q; exact Or.inr ⟨2, by omega, by omega, rfl, q.1, q.2⟩
      · split
        · rename_i q; exact Or.inr ⟨3, by omega, by omega, rfl, q.1, q.2⟩
        · exact Or.inl rfl
theorem WA.f4 (hw : WA T a) (w : WT T) {n : Int} : fst4 a a.1 n = -1 ∨ (0 ≤ fst4 a a.1 n ∧ fst4 a a.1 n < tN T ∧ isi a (fst4 a a.1 n) = 1) := by
  rcases fst4_k a a.1 n with h | ⟨k, k1, k2, k3, k4, k5⟩
  · exact Or.inl h
  · right
    have r := hw.lr n k
    have r2 := w.rg
    rw [k3] at r k5 k4
    exact ⟨by omega, r.2, by rw [isi_bt (by omega) (by omega)]; exact k5⟩
theorem x_first (h : XA 27 a G) (hw : WA T a) (w : WT T) {n : Int} : fX6_firstOf 27 n (G 27 1) G = some (fst4 a a.1 n, G) := by
  rw [h.1]; exact x_firstOf h (hw.lr8 w) hw.1
theorem x_onward (h : XT T G) (w : WT T) {f t : Int} (h1 : 0 ≤ f ∧ f ≤ 1000) (h2 : 0 ≤ t ∧ t ≤ 1000) : fX8_onward 4 f t G = some (if f ≤ t then t - f else t - f + tC T, G) := by
  have w1 := w.rg
  unfold fX8_onward
  rw [h.1, bd_s, isub_id (by omega) (by omega), iadd_id (by omega) (by omega)]
  grind [rt_s]
theorem m_within {x l u : Int} : fX12_within x l u G = some (if l ≤ x ∧ x ≤ u then 1 else 0, G) := by
  unfold fX12_within; grind [rz0, rz1]
theorem XA.fr {q : Nat} {G' : Hp} (h : XA q a G) (h1 : G' q = G q) (h2 : G' (q + 1) = G (q + 1)) : XA q a G' := ⟨by rw [h1]; exact h.1, fun i hi => by rw [h2]; exact h.2 i hi⟩
theorem XT.fr {G' : Hp} (h : XT T G) (h1 : G' 4 = G 4) (h2 : G' 5 = G 5) (h3 : G' 6 = G 6) (h4 : G' 9 = G 9) : XT T G' := by
  unfold XT; rw [h1, h2, h3, h4]; exact h
theorem MT.fr {G' : Hp} (h : MT T G) (h1 : G' 117 = G 117) (h2 : G' 125 = G 125) : MT T G' := by
  unfold MT; rw [h1, h2]; exact h
theorem MR.fr {G' : Hp} (h : MR b a G) (h1 : G' 123 = G 123) : MR b a G' := by
  unfold MR; rw [h1]; exact h
theorem XT.ff (h : XT T G) : G 4 0 = tC T ∧ G 4 1 = tL T ∧ G 4 2 = tN T ∧ G 4 3 = tK T := ⟨h.1, h.2.1, h.2.2.1, h.2.2.2.1⟩
theorem MT.ff (h : MT T G) : G 117 0 = tC T ∧ G 117 1 = tL T ∧ G 117 2 = tN T ∧ G 117 3 = tK T := ⟨h.1, h.2.1, h.2.2.1, h.2.2.2.1⟩

theorem cnt_pcn (v : Int) : cnt (fun i => bt v i.toNat = 1) 10 = pcn v := by
  have k : ∀ n : Nat, pif (bt v ((n : Int).toNat) = 1) 1 0 = bt v n := fun n => by
    have e : ((n : Int)).toNat = n := by omega
    rw [e]
    rcases bt_01 v n with q | q
    · rw [pif_f (by omega), q]
    · rw [pif_t q, q]
  show 0 + pif _ 1 0 + pif _ 1 0 + pif _ 1 0 + pif _ 1 0 + pif _ 1 0 + pif _ 1 0 + pif _ 1 0 + pif _ 1 0 + pif _ 1 0 + pif _ 1 0 = _
  simp only [k]
  unfold pcn; omega
theorem m_manyOf {v : Int} {G : Hp} (h1 : 0 ≤ v) (h2 : v < 1024) : fX12_manyOf v G = some (pcn v, G) := by
  unfold fX12_manyOf
  refine WP_eq ?_
  refine w_bd (fun v1 hv1 => ?_)
  refine w_bd (fun v2 hv2 => ?_)
  refine w_lpII (fun (v3 : Int) (v4 : Int) => (0 ≤ v4) ∧ (v4 ≤ 10) ∧ (v3 = cnt (fun i => bt v i.toNat = 1) v4.toNat)) (fun (v3 : Int) (v4 : Int) => (10 - v4).toNat) (fun rc5 v3 v4 hI hrc5 => ?_) _ _ ?_ ?_
  · skip
    obtain ⟨i0, i1, e⟩ := hI
    have r := cnt_r (fun i => bt v i.toNat = 1) v4.toNat
    refine w_ite (fun c_1 => ?_) (fun c_1 => ?_)
    · skip
      rw [bit_is h1 h2 i0 (by omega)]
      have r3 := bt_01 v v4.toNat
      refine w_bd (fun v6 hv6 => ?_)
      simp (disch := omega) only [iadd_id, isub_id, imul_id] at hv6
      refine w_bd (fun v7 hv7 => ?_)
      simp (disch := omega) only [iadd_id, isub_id, imul_id] at hv7
      refine hrc5 _ _ ?_ ?_
      · try dsimp only
        refine ⟨?_, ?_, ?_⟩
        · first | omega | grind
        · first | omega | grind
        · subst hv6; subst hv7; rcases bt_01 v v4.toNat with q | q
          · rw [cnt_f i0 (by omega), q, e]; omega
          · rw [cnt_t i0 q, q, e]
      · try dsimp only
        omega
    · skip
      refine w_rt ?_
      refine ⟨?_, rfl⟩
      rw [e, show v4.toNat = 10 by omega]; exact cnt_pcn v
  · try dsimp only
    refine ⟨?_, ?_, ?_⟩
    · first | omega | (subst_vars; first | rfl | assumption) | assumption
    · first | omega | (subst_vars; first | rfl | assumption) | assumption
    · first | omega | (subst_vars; first | rfl | assumption) | assumption
  · try dsimp only
    omega

theorem m_firstOf (hb : b ≤ 3410) (w : WT T) (hw : WA T a) (h : MR b a G) {n : Int} (h1 : 0 ≤ n) (h2 : n < 8) : fX12_firstOf 111 b n G = some (fst4 a a.1 n, G) := by
  unfold fX12_firstOf
  have wr := w.rg
  have l0 := hw.lr n 0
  have l1 := hw.lr n 1
  have l2 := hw.lr n 2
  have l3 := hw.lr n 3
  have p := hw.lpre n
  have ie : ∀ k, lst a n k ≠ -1 → isi a (lst a n k) = bt a.1 (lst a n k).toNat := fun k q => by
    have := hw.lr n k
    exact isi_bt (by omega) (by omega)
  have i0 := ie 0
  have i1 := ie 1
  have i2 := ie 2
  have i3 := ie 3
  have b0 := isi_01 a (lst a n 0)
  have b1 := isi_01 a (lst a n 1)
  have b2 := isi_01 a (lst a n 2)
  have b3 := isi_01 a (lst a n 3)
  simp only [lp_5, bd_s, ia0, ia1, ia2, ia3, m_longOf h hb h1 h2, bp_s, rt_s, m_listedOf h hb h1 h2 (show (0 : Int) ≤ 0 by omega) (show (0 : Int) < 4 by omega), m_listedOf h hb h1 h2 (show (0 : Int) ≤ 1 by omega) (show (1 : Int) < 4 by omega), m_listedOf h hb h1 h2 (show (0 : Int) ≤ 2 by omega) (show (2 : Int) < 4 by omega), m_listedOf h hb h1 h2 (show (0 : Int) ≤ 3 by omega) (show (3 : Int) < 4 by omega), m_isIn h hb (show lst a n 0 < 8 by omega), m_isIn h hb (show lst a n 1 < 8 by omega), m_isIn h hb (show lst a n 2 < 8 by omega), m_isIn h hb (show lst a n 3 < 8 by omega)]
  unfold fst4 llen
  by_cases c0 : lst a n 0 = -1
  · have e1 : lst a n 1 = -1 := by omega
    have e2 : lst a n 2 = -1 := by omega
    have e3 : lst a n 3 = -1 := by omega
    simp [c0, e1, e2, e3]
  · by_cases c1 : lst a n 1 = -1
    · have e2 : lst a n 2 = -1 := by omega
      have e3 : lst a n 3 = -1 := by omega
      simp [c0, c1, e2, e3] at i0 ⊢
      rw [← i0]
      rcases b0 with q | q <;> simp [q]
    · by_cases c2 : lst a n 2 = -1
      · have e3 : lst a n 3 = -1 := by omega
        simp [c0, c1, c2, e3] at i0 i1 ⊢
        rw [← i0, ← i1]
        rcases b0 with q | q <;> simp [q]
        rcases b1 with q | q <;> simp [q]
      · by_cases c3 : lst a n 3 = -1
        · simp [c0, c1, c2, c3] at i0 i1 i2 ⊢
          rw [← i0, ← i1, ← i2]
          rcases b0 with q | q <;> simp [q]
          rcases b1 with q | q <;> simp [q]
          rcases b2 with q | q <;> simp [q]
        · simp [c0, c1, c2, c3] at i0 i1 i2 i3 ⊢
          rw [← i0, ← i1, ← i2, ← i3]
          rcases b0 with q | q <;> simp [q]
          rcases b1 with q | q <;> simp [q]
          rcases b2 with q | q <;> simp [q]
          rcases b3 with q | q <;> simp [q]
end SM
