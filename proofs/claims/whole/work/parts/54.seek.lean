/-! FINDING -/
theorem isi_bt {a : AS} {o : Int} (h1 : 0 ≤ o) (h2 : o < 8) : isi a o = bt a.1 o.toNat := by unfold isi; rw [if_pos ⟨h1, h2⟩]
theorem isi_neg {a : AS} {o : Int} (h1 : o < 0) : isi a o = 0 := by unfold isi; rw [if_neg (by omega)]
section FIRST
variable {b : Nat} {a : AS} {G : Hp} {T : TT}
theorem WA.l8 (w : WT T) (h : WA T a) (n k : Int) : -1 ≤ lst a n k ∧ lst a n k < 8 := by
  have h1 := h.2.2.1 n k
  have h2 := w.1
  omega
theorem llen_rng (a : AS) (n : Int) : 0 ≤ llen a n ∧ llen a n ≤ 4 := by unfold llen; (repeat' split) <;> omega
/-- a list is as long as it is -/
theorem llen_in (h : WA T a) {n k : Int} (h1 : 0 ≤ k) (h2 : k < llen a n) : lst a n k ≠ -1 := by
  have p0 := h.2.2.2.1 n 0 (by omega)
  have p1 := h.2.2.2.1 n 1 (by omega)
  have p2 := h.2.2.2.1 n 2 (by omega)
  unfold llen at h2
  have hk : k = 0 ∨ k = 1 ∨ k = 2 ∨ k = 3 := by revert h2; (repeat' split) <;> omega
  rcases hk with rfl | rfl | rfl | rfl <;> revert h2 <;> (repeat' split) <;> simp_all
theorem llen_out (h : WA T a) {n k : Int} (h1 : llen a n ≤ k) : lst a n k = -1 := by
  by_cases hk : k < 4
  · have r := llen_rng a n
    have p0 := h.2.2.2.1 n 0 (by omega)
    have p1 := h.2.2.2.1 n 1 (by omega)
    have p2 := h.2.2.2.1 n 2 (by omega)
    have hk : k = 0 ∨ k = 1 ∨ k = 2 ∨ k = 3 := by omega
    unfold llen at h1
    rcases hk with rfl | rfl | rfl | rfl <;> revert h1 <;> (repeat' split) <;> grind
  · unfold lst; rw [if_neg (by omega)]
theorem m_firstOf (hb : b ≤ 3410) (w : WT T) (hw : WA T a) (h : MR b a G) {n : Int} (h1 : 0 ≤ n) (h2 : n < 8) : fX12_firstOf 111 b n G = some (fst4 a a.1 n, G) := by
  unfold fX12_firstOf
  have l0 := hw.l8 w n 0
  have l1 := hw.l8 w n 1
  have l2 := hw.l8 w n 2
  have l3 := hw.l8 w n 3
  have p0 := hw.2.2.2.1 n 0 (by omega)
  have p1 := hw.2.2.2.1 n 1 (by omega)
  have p2 := hw.2.2.2.1 n 2 (by omega)
  simp only [Int.reduceAdd] at p0 p1 p2
  simp only [lp_5, bd_s, ia0, ia1, ia2, ia3, m_longOf h hb h1 h2, bp_s, rt_s, m_listedOf h hb h1 h2 (show (0 : Int) ≤ 0 by omega) (show (0 : Int) < 4 by omega), m_listedOf h hb h1 h2 (show (0 : Int) ≤ 1 by omega) (show (1 : Int) < 4 by omega), m_listedOf h hb h1 h2 (show (0 : Int) ≤ 2 by omega) (show (2 : Int) < 4 by omega), m_listedOf h hb h1 h2 (show (0 : Int) ≤ 3 by omega) (show (3 : Int) < 4 by omega), m_isIn h hb l0.2, m_isIn h hb l1.2, m_isIn h hb l2.2, m_isIn h hb l3.2]
  have i0 : lst a n 0 ≠ -1 → isi a (lst a n 0) = bt a.1 (lst a n 0).toNat := fun q => isi_bt (by omega) (by omega)
  have i1 : lst a n 1 ≠ -1 → isi a (lst a n 1) = bt a.1 (lst a n 1).toNat := fun q => isi_bt (by omega) (by omega)
  have i2 : lst a n 2 ≠ -1 → isi a (lst a n 2) = bt a.1 (lst a n 2).toNat := fun q => isi_bt (by omega) (by omega)
  have i3 : lst a n 3 ≠ -1 → isi a (lst a n 3) = bt a.1 (lst a n 3).toNat := fun q => isi_bt (by omega) (by omega)
  have b0 := bt_01 a.1 (lst a n 0).toNat
  have b1 := bt_01 a.1 (lst a n 1).toNat
  have b2 := bt_01 a.1 (lst a n 2).toNat
  have b3 := bt_01 a.1 (lst a n 3).toNat
  unfold fst4 llen
  grind (splits := 30)
/-- the first is in, and of the list -/
theorem fst4_in (hw : WA T a) (w : WT T) {n : Int} (h : fst4 a a.1 n ≠ -1) : 0 ≤ fst4 a a.1 n ∧ fst4 a a.1 n < tN T ∧ isi a (fst4 a a.1 n) = 1 ∧ ∃ k, 0 ≤ k ∧ k < llen a n ∧ lst a n k = fst4 a a.1 n := by
  have key : ∃ k, 0 ≤ k ∧ k < 4 ∧ lst a n k = fst4 a a.1 n ∧ lst a n k ≠ -1 ∧ bt a.1 (lst a n k).toNat = 1 := by
    revert h
    unfold fst4
    split
    · rename_i q; exact fun _ => ⟨0, by omega, by omega, rfl, q.1, q.2⟩
    · split
      · rename_i q; exact fun _ => ⟨1, by omega, by omega, rfl, q.1, q.2⟩
      · split
        · rename_i q; exact fun _ => ⟨2, by omega, by omega, rfl, q.1, q.2⟩
        · split
          · rename_i q; exact fun _ => ⟨3, by omega, by omega, rfl, q.1, q.2⟩
          · exact fun h => absurd rfl h
  obtain ⟨k, k1, k2, k3, k4, k5⟩ := key
  have r := hw.2.2.1 n k
  have l8 := hw.l8 w n k
  rw [k3] at r k5 k4 l8
  refine ⟨by omega, r.2, by rw [isi_bt (by omega) (by omega)]; exact k5, k, k1, ?_, k3⟩
  rcases Int.lt_or_le k (llen a n) with q | q
  · exact q
  · exact absurd (llen_out hw q) (by rw [k3]; exact k4)
end FIRST
def fs (T : TT) (a : AS) (n bd : Int) (s : Int × Int) (o : Int) : Int × Int := if isi a o = 1 ∧ wT T n o < bd ∧ s.2 < wT T n o then (o, wT T n o) else s
def farA (T : TT) (a : AS) (n bd : Int) : Nat → Int × Int
  | 0 => (-1, 0)
  | i + 1 => fs T a n bd (farA T a n bd i) (if i < 4 then lst a n i else fng a n (i - 4))
def farb (T : TT) (a : AS) (n bd : Int) : Int := (farA T a n bd 12).1
section FAR
variable {b : Nat} {a : AS} {G : Hp} {T : TT}
theorem wT_rng (w : WT T) {n o : Int} (h1 : 0 ≤ n) (h2 : n < tN T) (h3 : 0 ≤ o) (h4 : o < tN T) : 1 ≤ wT T n o ∧ wT T n o ≤ 256 := by
  have p1 := (w.2.2.2.2.1 n h1 h2).1
  have p2 := (w.2.2.2.2.1 o h3 h4).1
  have w1 := w.2.2.2.1
  unfold wT wy
  split <;> omega
/-- what is so of the best so far -/
def FJ (T : TT) (a : AS) (n : Int) (s : Int × Int) : Prop := (s.1 = -1 ∧ s.2 = 0) ∨ (0 ≤ s.1 ∧ s.1 < tN T ∧ isi a s.1 = 1 ∧ s.2 = wT T n s.1)
theorem fs_J (hw : WA T a) {n bd o : Int} {s : Int × Int} (h : FJ T a n s) (ho : -1 ≤ o) : FJ T a n (fs T a n bd s o) := by
  unfold fs
  split
  · rename_i q
    right
    have := hw.2.1 o q.1
    refine ⟨?_, this, q.1, rfl⟩
    rcases Int.lt_or_le o 0 with r | r
    · have := isi_neg (a := a) r; omega
    · exact r
  · exact h
theorem cand_rng (hw : WA T a) (w : WT T) (n : Int) (i : Nat) : -1 ≤ (if i < 4 then lst a n i else fng a n ((i : Int) - 4)) ∧ (if i < 4 then lst a n i else fng a n ((i : Int) - 4)) < 8 := by
  have w1 := w.1
  split
  · have := hw.2.2.1 n i; omega
  · have := hw.2.2.2.2.2.2.1 n ((i : Int) - 4); omega
theorem farA_J (hw : WA T a) (w : WT T) (n bd : Int) : ∀ i, FJ T a n (farA T a n bd i)
  | 0 => Or.inl ⟨rfl, rfl⟩
  | i + 1 => fs_J hw (farA_J hw w n bd i) (cand_rng hw w n i).1
theorem farb_rng (hw : WA T a) (w : WT T) (n bd : Int) : farb T a n bd = -1 ∨ (0 ≤ farb T a n bd ∧ farb T a n bd < tN T ∧ isi a (farb T a n bd) = 1) := by
  rcases farA_J hw w n bd 12 with h | h
  · exact Or.inl h.1
  · exact Or.inr ⟨h.1, h.2.1, h.2.2.1⟩
theorem farA_mono {n bd : Int} : ∀ i j, i ≤ j → (farA T a n bd i).2 ≤ (farA T a n bd j).2 := by
  intro i j h
  induction h with
  | refl => exact Int.le_refl _
  | step _ ih =>
    refine Int.le_trans ih ?_
    show _ ≤ (fs _ _ _ _ _ _).2
    unfold fs; split
    · rename_i q; omega
    · exact Int.le_refl _
/-- whoever is in and near enough is no farther than the best -/
theorem farb_some (hw : WA T a) (w : WT T) {n bd : Int} (hn0 : 0 ≤ n) (hn : n < tN T) {i : Nat} (hi : i < 12) {o : Int} (ho : (if i < 4 then lst a n i else fng a n ((i : Int) - 4)) = o) (h1 : isi a o = 1) (h0 : 0 ≤ o) (h2 : wT T n o < bd) : farb T a n bd ≠ -1 := by
  intro hf
  have hoN := hw.2.1 o h1
  have hwr := wT_rng w hn0 hn h0 hoN
  have hs : wT T n o ≤ (farA T a n bd (i + 1)).2 := by
    show _ ≤ (fs _ _ _ _ _ _).2
    rw [ho]
    unfold fs; split
    · exact Int.le_refl _
    · rename_i q
      have : ¬ (farA T a n bd i).2 < wT T n o := fun z => q ⟨h1, h2, z⟩
      omega
  have hm := farA_mono (T := T) (a := a) (n := n) (bd := bd) (i + 1) 12 (by omega)
  rcases farA_J hw w n bd 12 with q | q
  · omega
  · have : (farA T a n bd 12).1 = -1 := hf
    omega
theorem x_farb (w : WT T) (hw : WA T a) (h : XA 27 a G) (ht : XT T G) {n bd : Int} (h1 : 0 ≤ n) (h2 : n < tN T) : fX1_farthestBelow 29 n bd G = some (farb T a n bd, G) := by
  unfold fX1_farthestBelow
  simp only [bd_s]
  refine lp_for (fun rc s => rc s.1 s.2.1 s.2.2) (fun i => ((farA T a n bd i).1, (farA T a n bd i).2, (i : Int))) 12 5000 _ ?_ ?_ (by omega)
  · intro rc i hi
    have cr := cand_rng hw w n i
    simp only [rf_29_0, rf_29_1, rf_4_5]
    rw [if_pos (by omega), jn_s, isub_id (by omega) (by omega), x_listAt h, x_fingerAt h, bp_s, bp_s]
    have e : (if (i : Int) < 4 then (fun v8 => bd v8 fun v10 => bp (fX6_isIn 27 v10 G) fun v11 => jn (fun v12 v13 => bd (iadd (i : Int) 1) fun v15 => rc v12 v13 v15) fun K14 => if v11 = 0 then K14 (farA T a n bd i).1 (farA T a n bd i).2 else br (rd G 6 8 n) fun v16 => br (rd G 6 8 v10) fun v17 => bp (fX8_way 4 v16 v17 G) fun v18 => bd v18 fun v19 => if v19 < bd then if (farA T a n bd i).2 < v19 then bd v10 fun v20 => bd v19 fun v21 => K14 v20 v21 else K14 (farA T a n bd i).1 (farA T a n bd i).2 else K14 (farA T a n bd i).1 (farA T a n bd i).2) (lst a n i) else (fun v8 => bd v8 fun v10 => bp (fX6_isIn 27 v10 G) fun v11 => jn (fun v12 v13 => bd (iadd (i : Int) 1) fun v15 => rc v12 v13 v15) fun K14 => if v11 = 0 then K14 (farA T a n bd i).1 (farA T a n bd i).2 else br (rd G 6 8 n) fun v16 => br (rd G 6 8 v10) fun v17 => bp (fX8_way 4 v16 v17 G) fun v18 => bd v18 fun v19 => if v19 < bd then if (farA T a n bd i).2 < v19 then bd v10 fun v20 => bd v19 fun v21 => K14 v20 v21 else K14 (farA T a n bd i).1 (farA T a n bd i).2 else K14 (farA T a n bd i).1 (farA T a n bd i).2) (fng a n (i - 4))) = rc (farA T a n bd (i + 1)).1 (farA T a n bd (i + 1)).2 ((i + 1 : Nat) : Int) := by
      sorry
    exact e
  · intro rc
    rw [if_neg (by omega)]; rfl
end FAR
