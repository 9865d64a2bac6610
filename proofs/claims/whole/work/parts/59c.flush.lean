section LIS
variable {b : Nat} {a : AS} {G : Hp} {T : TT}
/-! FLUSH -/
def flS (a : AS) (n : Int) : Nat → Int × Int × (Int → Int)
  | 0 => (0, 0, fun _ => -1)
  | i + 1 => if isi a (lst a n i) = 1 then ((flS a n i).1 + 1, (flS a n i).2.1, fun k => if k = (flS a n i).1 then lst a n i else (flS a n i).2.2 k) else if lst a n i = -1 then flS a n i else ((flS a n i).1, (flS a n i).2.1 + 1, (flS a n i).2.2)
def FLJ (T : TT) (a : AS) (n : Int) (i : Int) (s : Int × Int × (Int → Int)) : Prop := 0 ≤ s.1 ∧ s.1 ≤ i ∧ 0 ≤ s.2.1 ∧ s.2.1 ≤ i ∧ (∀ k, 0 ≤ k → k < s.1 → 0 ≤ s.2.2 k ∧ s.2.2 k < tN T) ∧ (∀ k, k < 0 ∨ s.1 ≤ k → s.2.2 k = -1) ∧ (∀ k, 0 ≤ k → k < s.1 → ∃ j : Int, 0 ≤ j ∧ j < i ∧ s.2.2 k = lst a n j ∧ lst a n j ≠ -1) ∧ (∀ k j, 0 ≤ k → k < j → j < s.1 → s.2.2 k ≠ s.2.2 j)
theorem flS_s {n i : Int} (h : 0 ≤ i) : flS a n (i + 1).toNat = if isi a (lst a n i) = 1 then ((flS a n i.toNat).1 + 1, (flS a n i.toNat).2.1, fun k => if k = (flS a n i.toNat).1 then lst a n i else (flS a n i.toNat).2.2 k) else if lst a n i = -1 then flS a n i.toNat else ((flS a n i.toNat).1, (flS a n i.toNat).2.1 + 1, (flS a n i.toNat).2.2) := by
  rw [toN1 h, flS]; simp only [Int.toNat_of_nonneg h]
theorem flS_J (hw : WA T a) {n : Int} : ∀ i : Nat, FLJ T a n i (flS a n i)
  | 0 => by
    refine ⟨by show (0 : Int) ≤ 0; omega, by show (0 : Int) ≤ ((0 : Nat) : Int); omega, by show (0 : Int) ≤ 0; omega, by show (0 : Int) ≤ ((0 : Nat) : Int); omega, fun k k1 k2 => ?_, fun k q => rfl, fun k k1 k2 => ?_, fun k j k1 k2 k3 => ?_⟩
    · have : k < (0 : Int) := k2
      omega
    · have : k < (0 : Int) := k2
      omega
    · have : j < (0 : Int) := k3
      omega
  | i + 1 => by
    have ih := flS_J hw (n := n) i
    have hl := hw.lr n i
    have hin := hw.inr (n := lst a n i)
    rw [flS]
    generalize flS a n i = s at ih
    obtain ⟨h1, h2, h2b, h2c, h4, h5, h7, h8⟩ := ih
    split
    · rename_i c
      refine ⟨by show 0 ≤ s.1 + 1; omega, by show s.1 + 1 ≤ ((i + 1 : Nat) : Int); omega, h2b, by show s.2.1 ≤ ((i + 1 : Nat) : Int); omega, fun k k1 k2 => ?_, fun k q => ?_, fun k k1 k2 => ?_, fun k j k1 k2 k3 => ?_⟩
      · have k2 : k < s.1 + 1 := k2
        show 0 ≤ (if k = s.1 then lst a n i else s.2.2 k) ∧ (if k = s.1 then lst a n i else s.2.2 k) < tN T
        have := h4 k k1
        split <;> omega
      · have q : k < 0 ∨ s.1 + 1 ≤ k := q
        show (if k = s.1 then lst a n i else s.2.2 k) = -1
        rw [if_neg (by omega)]; exact h5 k (by omega)
      · have k2 : k < s.1 + 1 := k2
        show ∃ j : Int, 0 ≤ j ∧ j < ((i + 1 : Nat) : Int) ∧ (if k = s.1 then lst a n i else s.2.2 k) = lst a n j ∧ lst a n j ≠ -1
        by_cases e : k = s.1
        · rw [if_pos e]; exact ⟨i, by omega, by omega, rfl, by omega⟩
        · rw [if_neg e]
          obtain ⟨j, j1, j2, j3, j4⟩ := h7 k k1 (by omega)
          exact ⟨j, j1, by omega, j3, j4⟩
      · have k3 : j < s.1 + 1 := k3
        show (if k = s.1 then lst a n i else s.2.2 k) ≠ (if j = s.1 then lst a n i else s.2.2 j)
        rw [if_neg (by omega)]
        by_cases e : j = s.1
        · rw [if_pos e]
          obtain ⟨m, m1, m2, m3, m4⟩ := h7 k k1 (by omega)
          rw [m3]
          intro z
          exact m4 (hw.ds (n := n) m1 m2 z)
        · rw [if_neg e]; exact h8 k j k1 k2 (by omega)
    · split
      · refine ⟨h1, by omega, h2b, by omega, h4, h5, fun k k1 k2 => ?_, h8⟩
        obtain ⟨m, m1, m2, m3, m4⟩ := h7 k k1 k2
        exact ⟨m, m1, by omega, m3, m4⟩
      · refine ⟨h1, by show s.1 ≤ ((i + 1 : Nat) : Int); omega, by show 0 ≤ s.2.1 + 1; omega, by show s.2.1 + 1 ≤ ((i + 1 : Nat) : Int); omega, h4, h5, fun k k1 k2 => ?_, h8⟩
        obtain ⟨m, m1, m2, m3, m4⟩ := h7 k k1 k2
        exact ⟨m, m1, by omega, m3, m4⟩
theorem flS_out {n i : Int} (hw : WA T a) (h0 : llen a n ≤ i) (h4 : i ≤ 4) : flS a n 4 = flS a n i.toNat := by
  have hl := llen_rng a n
  have k : ∀ j : Nat, flS a n (i.toNat + j) = flS a n i.toNat := by
    intro j
    induction j with
    | zero => rfl
    | succ j ih =>
      have e : lst a n ((i.toNat + j : Nat) : Int) = -1 := llen_out hw (by omega)
      rw [← Nat.add_assoc, flS, if_neg (by rw [e, isi_neg (by omega)]; omega), if_pos e, ih]
  have := k (4 - i.toNat)
  rw [show i.toNat + (4 - i.toNat) = 4 by omega] at this; exact this
/-- what is gone of a list -/
def fl (a : AS) (n : Int) : Int → Int := (flS a n 4).2.2
def ff (a : AS) (n : Int) : Int → Int := fun k => if isi a (fng a n k) = 1 then fng a n k else -1
def fg (a : AS) (n : Int) : Int → Prop := fun k => fng a n k ≠ -1 ∧ isi a (fng a n k) = 0
noncomputable def gFl (a : AS) (n : Int) : Int := (flS a n 4).2.1 + cnt (fg a n) 8
def fa (a : AS) (n : Int) : Int := if isi a (ahd a n) = 1 then ahd a n else -1
def dFl (a : AS) (n : Int) : AS := dA (dF (dLs a n (fl a n)) n (ff a n)) n (fa a n)
theorem gFl_r (hw : WA T a) (n : Int) : 0 ≤ gFl a n ∧ gFl a n ≤ 12 := by
  have := flS_J hw (n := n) 4
  obtain ⟨-, -, h1, h2, -⟩ := this
  have := cnt_r (fg a n) 8
  unfold gFl; omega
theorem WA_dFl (hw : WA T a) (w : WT T) {n : Int} (hn : isi a n = 1) : WA T (dFl a n) := by
  obtain ⟨h1, h2, h2b, h2c, h4, h5, h7, h8⟩ := flS_J hw (n := n) 4
  have k1 : WA T (dLs a n (fl a n)) := by
    refine hw.dLs hn (fun k => ?_) (fun k k1 q => ?_) (fun k j k1 k2 q => ?_)
    · unfold fl
      rcases Int.lt_or_le k 0 with c | c
      · rw [h5 k (Or.inl c)]; have := w.rg; omega
      · rcases Int.lt_or_le k (flS a n 4).1 with d | d
        · have := h4 k c d; omega
        · rw [h5 k (Or.inr d)]; have := w.rg; omega
    · unfold fl at q ⊢
      have : k + 1 < (flS a n 4).1 := by
        rcases Int.lt_or_le (k + 1) (flS a n 4).1 with d | d
        · exact d
        · exact absurd (h5 _ (Or.inr d)) q
      have := h4 k k1 (by omega)
      omega
    · unfold fl at q ⊢
      rcases Int.lt_or_le j (flS a n 4).1 with d | d
      · exact absurd q (h8 k j k1 k2 d)
      · rw [q]; exact h5 _ (Or.inr d)
  have k2 : WA T (dF (dLs a n (fl a n)) n (ff a n)) := k1.dF hn (fun k => by unfold ff; have := hw.fr n k; split <;> omega)
  exact k2.dA hn (by unfold fa; have := hw.ar n; split <;> omega)
theorem x_flushList (w : WT T) (hw : WA T a) (hA_G : XA 27 a G) {n : Int} (h1 : 0 ≤ n) (h2 : n < tN T) : WP (fX0_flushList 31 n G) (fun r G' => (∀ c, c ≠ 28 → G' c = G c) ∧ r = (flS a n 4).2.1 ∧ XA 27 (dLs a n (fl a n)) G') := by
  have wr := w.rg
  unfold fX0_flushList
  simp only [rf_31_1]
  refine w_bd (fun v1 hv1 => ?_)
  refine w_bd (fun v2 hv2 => ?_)
  refine w_bd (fun v3 hv3 => ?_)
  refine w_lpIIIH (fun (v4 : Int) (v5 : Int) (v6 : Int) (G7 : Hp) => (0 ≤ v6) ∧ (v6 ≤ 4) ∧ (∀ c, c ≠ 28 → G7 c = G c) ∧ (v4 = (flS a n v6.toNat).1) ∧ (v5 = (flS a n v6.toNat).2.1) ∧ (XA 27 (dLs a n (fun k => if k < v6 then (flS a n v6.toNat).2.2 k else lst a n k)) G7)) (fun (v4 : Int) (v5 : Int) (v6 : Int) (G7 : Hp) => (4 - v6).toNat) (fun rc8 v4 v5 v6 G7 hI hrc8 => ?_) _ _ _ _ ?_ ?_
  · skip
    obtain ⟨i0, i1, f7, e4, e5, x7⟩ := hI
    have J := flS_J hw (n := n) v6.toNat
    rw [Int.toNat_of_nonneg i0] at J
    have j1 := J.1
    have j2 := J.2.1
    have j3 := J.2.2.1
    have j4 := J.2.2.2.1
    have j5 := J.2.2.2.2.2.1
    have pl : ∀ k : Int, 0 ≤ k → k < 4 → lst (dLs a n (fun k => if k < v6 then (flS a n v6.toNat).2.2 k else lst a n k)) n k = if k < v6 then (flS a n v6.toNat).2.2 k else lst a n k := fun k k1 k2 => by rw [dLs_lst, if_pos ⟨rfl, h1, by omega, k1, k2⟩]
    have pl2 : ∀ k : Int, 0 ≤ k → k < 4 → lst (dLs (dLs a n (fun k => if k < v6 then (flS a n v6.toNat).2.2 k else lst a n k)) n (fun j => if j = v6 then -1 else lst (dLs a n (fun k => if k < v6 then (flS a n v6.toNat).2.2 k else lst a n k)) n j)) n k = if k = v6 then -1 else lst (dLs a n (fun k => if k < v6 then (flS a n v6.toNat).2.2 k else lst a n k)) n k := fun k k1 k2 => by rw [dLs_lst, if_pos ⟨rfl, h1, by omega, k1, k2⟩]
    refine w_ite (fun c_1 => ?_) (fun c_1 => ?_)
    · skip
      refine w_bp (x_listAt x7) (fun v9 hv9 => ?_)
      have e9 : v9 = lst a n v6 := by rw [hv9, dLs_lst]; grind
      refine w_bd (fun v10 hv10 => ?_)
      refine w_bne (x_setList x7 (by omega) (by omega) (by omega) (by omega)) (fun _ G11 _ hG11 => ?_)
      have x11 := XA_L (v := -1) x7 h1 (show n < 8 by omega) i0 (show v6 < 4 by omega)
      rw [← hG11] at x11
      refine w_bp (x_isIn x11 hw.1) (fun v12 hv12 => ?_)
      have e12 : v12 = isi a v10 := hv12
      have q12 := hw.inr (n := v10)
      refine w_jn ?_
      refine w_ite (fun c_2 => ?_) (fun c_2 => ?_)
      · skip
        refine w_ite (fun c_3 => ?_) (fun c_3 => ?_)
        · skip
          refine w_bd (fun v17 hv17 => ?_)
          simp (disch := omega) only [iadd_id, isub_id, imul_id] at hv17
          refine hrc8 _ _ _ _ ?_ ?_
          · try dsimp only
            refine ⟨?_, ?_, ?_, ?_, ?_, ?_⟩
            · first | omega | grind
            · first | omega | grind
            · first | (intro c x; rw [hG19, up_ne x, hG11, up_ne x]; exact f7 c x) | (intro c x; rw [hG11, up_ne x]; exact f7 c x)
            · rw [hv17, flS_s i0]; grind
            · rw [hv17, flS_s i0]; grind
            · first
              | (refine x19.cg ((AE_LL (fun k k1 k2 => rfl)).tr (AE_LL (fun k k1 k2 => ?_)))
                 have z2 := j5 v6 (Or.inr (by omega))
                 have st : flS a n (v6 + 1).toNat = ((flS a n v6.toNat).1 + 1, (flS a n v6.toNat).2.1, fun k => if k = (flS a n v6.toNat).1 then lst a n v6 else (flS a n v6.toNat).2.2 k) := by rw [flS_s i0, if_pos (by rw [← e9, ← hv10]; omega)]
                 rw [pl2 k k1 k2, pl k k1 k2, hv17, st]
                 dsimp only
                 rw [← e4]
                 by_cases c1 : k = v6
                 · rw [c1]; (repeat' split) <;> first | rfl | omega | (exfalso; omega)
                 · (repeat' split) <;> first | rfl | omega | (exfalso; omega))
              | (refine x11.cg (AE_LL (fun k k1 k2 => ?_))
                 have z2 := j5 v6 (Or.inr (by omega))
                 have st : (flS a n (v6 + 1).toNat).2.2 = (flS a n v6.toNat).2.2 := by
                   rw [flS_s i0, if_neg (by rw [← e9, ← hv10]; omega)]; split <;> rfl
                 rw [pl k k1 k2, hv17, st]
                 by_cases c1 : k = v6
                 · rw [c1]; (repeat' split) <;> first | rfl | omega | (exfalso; omega)
                 · (repeat' split) <;> first | rfl | omega | (exfalso; omega))
          · try dsimp only
            omega
        · skip
          refine w_bd (fun v18 hv18 => ?_)
          simp (disch := omega) only [iadd_id, isub_id, imul_id] at hv18
          refine w_bd (fun v17 hv17 => ?_)
          simp (disch := omega) only [iadd_id, isub_id, imul_id] at hv17
          refine hrc8 _ _ _ _ ?_ ?_
          · try dsimp only
            refine ⟨?_, ?_, ?_, ?_, ?_, ?_⟩
            · first | omega | grind
            · first | omega | grind
            · first | (intro c x; rw [hG19, up_ne x, hG11, up_ne x]; exact f7 c x) | (intro c x; rw [hG11, up_ne x]; exact f7 c x)
            · rw [hv17, flS_s i0]; grind
            · rw [hv17, flS_s i0]; grind
            · first
              | (refine x19.cg ((AE_LL (fun k k1 k2 => rfl)).tr (AE_LL (fun k k1 k2 => ?_)))
                 have z2 := j5 v6 (Or.inr (by omega))
                 have st : flS a n (v6 + 1).toNat = ((flS a n v6.toNat).1 + 1, (flS a n v6.toNat).2.1, fun k => if k = (flS a n v6.toNat).1 then lst a n v6 else (flS a n v6.toNat).2.2 k) := by rw [flS_s i0, if_pos (by rw [← e9, ← hv10]; omega)]
                 rw [pl2 k k1 k2, pl k k1 k2, hv17, st]
                 dsimp only
                 rw [← e4]
                 by_cases c1 : k = v6
                 · rw [c1]; (repeat' split) <;> first | rfl | omega | (exfalso; omega)
                 · (repeat' split) <;> first | rfl | omega | (exfalso; omega))
              | (refine x11.cg (AE_LL (fun k k1 k2 => ?_))
                 have z2 := j5 v6 (Or.inr (by omega))
                 have st : (flS a n (v6 + 1).toNat).2.2 = (flS a n v6.toNat).2.2 := by
                   rw [flS_s i0, if_neg (by rw [← e9, ← hv10]; omega)]; split <;> rfl
                 rw [pl k k1 k2, hv17, st]
                 by_cases c1 : k = v6
                 · rw [c1]; (repeat' split) <;> first | rfl | omega | (exfalso; omega)
                 · (repeat' split) <;> first | rfl | omega | (exfalso; omega))
          · try dsimp only
            omega
      · skip
        refine w_bne (x_setList x11 (by omega) (by omega) (by omega) (by omega)) (fun _ G19 _ hG19 => ?_)
        have x19 := XA_L (v := v10) x11 h1 (show n < 8 by omega) (show 0 ≤ v4 by omega) (show v4 < 4 by omega)
        rw [← hG19] at x19
        refine w_bd (fun v20 hv20 => ?_)
        simp (disch := omega) only [iadd_id, isub_id, imul_id] at hv20
        refine w_bd (fun v17 hv17 => ?_)
        simp (disch := omega) only [iadd_id, isub_id, imul_id] at hv17
        refine hrc8 _ _ _ _ ?_ ?_
        · try dsimp only
          refine ⟨?_, ?_, ?_, ?_, ?_, ?_⟩
          · first | omega | grind
          · first | omega | grind
          · first | (intro c x; rw [hG19, up_ne x, hG11, up_ne x]; exact f7 c x) | (intro c x; rw [hG11, up_ne x]; exact f7 c x)
          · rw [hv17, flS_s i0]; grind
          · rw [hv17, flS_s i0]; grind
          · first
            | (refine x19.cg ((AE_LL (fun k k1 k2 => rfl)).tr (AE_LL (fun k k1 k2 => ?_)))
               have z2 := j5 v6 (Or.inr (by omega))
               have st : flS a n (v6 + 1).toNat = ((flS a n v6.toNat).1 + 1, (flS a n v6.toNat).2.1, fun k => if k = (flS a n v6.toNat).1 then lst a n v6 else (flS a n v6.toNat).2.2 k) := by rw [flS_s i0, if_pos (by rw [← e9, ← hv10]; omega)]
               rw [pl2 k k1 k2, pl k k1 k2, hv17, st]
               dsimp only
               rw [← e4]
               by_cases c1 : k = v6
               · rw [c1]; (repeat' split) <;> first | rfl | omega | (exfalso; omega)
               · (repeat' split) <;> first | rfl | omega | (exfalso; omega))
            | (refine x11.cg (AE_LL (fun k k1 k2 => ?_))
               have z2 := j5 v6 (Or.inr (by omega))
               have st : (flS a n (v6 + 1).toNat).2.2 = (flS a n v6.toNat).2.2 := by
                 rw [flS_s i0, if_neg (by rw [← e9, ← hv10]; omega)]; split <;> rfl
               rw [pl k k1 k2, hv17, st]
               by_cases c1 : k = v6
               · rw [c1]; (repeat' split) <;> first | rfl | omega | (exfalso; omega)
               · (repeat' split) <;> first | rfl | omega | (exfalso; omega))
        · try dsimp only
          omega
    · skip
      refine w_rt ?_
      refine ⟨f7, by rw [e5, show v6.toNat = 4 by omega], x7.cg ?_⟩
      refine ⟨rfl, fun m k => ?_, fun m => by rw [dLs_ahd, dLs_ahd], fun m k => by rw [dLs_fng, dLs_fng], fun k => by rw [dLs_hld, dLs_hld]⟩
      rw [dLs_lst, dLs_lst]; unfold fl; rw [show v6.toNat = 4 by omega]; grind
  · try dsimp only
    refine ⟨?_, ?_, ?_, ?_, ?_, ?_⟩
    · first | omega | (subst_vars; first | rfl | assumption) | assumption
    · first | omega | (subst_vars; first | rfl | assumption) | assumption
    · intro c x; rfl
    · rw [hv3, hv1]; rfl
    · rw [hv3, hv2]; rfl
    · refine hA_G.cg (AE_L0 (fun k k1 k2 => ?_)); rw [if_neg (by omega)]
  · try dsimp only
    omega

theorem x_doFlush (w : WT T) (hw : WA T a) (hA_G : XA 27 a G) {n : Int} : WP (fX0_doFlush 31 n G) (fun r G' => FRD G G' ∧ ((isi a n = 1 ∧ r = gFl a n ∧ XA 27 (dFl a n) G') ∨ (isi a n = 0 ∧ r = -1 ∧ G' = G))) := by
  have wr := w.rg
  unfold fX0_doFlush
  simp only [rf_31_1]
  refine w_bp (x_isIn hA_G hw.1) (fun v1 hv1 => ?_)
  have qv1 := hw.inr (n := n)
  refine w_ite (fun c_1 => ?_) (fun c_1 => ?_)
  · skip
    refine w_rt ?_
    refine ⟨FRD.rf G, Or.inr ⟨by omega, rfl, rfl⟩⟩
  · skip
    refine w_bn (x_flushList w hw hA_G (n := n) (by omega) (by omega)) (fun v2 G3 q3 => ?_)
    obtain ⟨f3, e2, x3⟩ := q3
    refine w_bd (fun v4 hv4 => ?_)
    refine w_bd (fun v5 hv5 => ?_)
    refine w_lpIIH (fun (v6 : Int) (v7 : Int) (G8 : Hp) => (0 ≤ v7) ∧ (v7 ≤ 8) ∧ (∀ c, c ≠ 28 → G8 c = G c) ∧ (v6 = (flS a n 4).2.1 + cnt (fg a n) v7.toNat) ∧ (XA 27 (dF (dLs a n (fl a n)) n (fun k => if k < v7 then ff a n k else fng a n k)) G8)) (fun (v6 : Int) (v7 : Int) (G8 : Hp) => (8 - v7).toNat) (fun rc9 v6 v7 G8 hI hrc9 => ?_) _ _ _ ?_ ?_
    · skip
      obtain ⟨j0, j1, f8, e6, x8⟩ := hI
      have J := flS_J hw (n := n) 4
      obtain ⟨-, -, k1, k2, -⟩ := J
      have k3 := cnt_r (fg a n) v7.toNat
      have ct := cnt_t (p := fg a n) (i := v7) j0
      have cf := cnt_f (p := fg a n) (i := v7) j0
      have fgd : fg a n v7 ↔ fng a n v7 ≠ -1 ∧ isi a (fng a n v7) = 0 := Iff.rfl
      have ffd : ff a n v7 = if isi a (fng a n v7) = 1 then fng a n v7 else -1 := rfl
      have i0n : isi a (-1) = 0 := isi_neg (by omega)
      refine w_ite (fun c_2 => ?_) (fun c_2 => ?_)
      · skip
        refine w_bp (x_fingerAt x8) (fun v14 hv14 => ?_)
        have e14 : v14 = fng a n v7 := by rw [hv14, dF_fng, dLs_fng]; grind
        refine w_bd (fun v15 hv15 => ?_)
        refine w_jn ?_
        refine w_ite (fun c_3 => ?_) (fun c_3 => ?_)
        · skip
          refine w_bd (fun v19 hv19 => ?_)
          simp (disch := omega) only [iadd_id, isub_id, imul_id] at hv19
          refine hrc9 _ _ _ ?_ ?_
          · try dsimp only
            refine ⟨?_, ?_, ?_, ?_, ?_⟩
            · first | omega | grind
            · first | omega | grind
            · first | exact f8 | (intro c x; rw [hG21, up_ne x]; exact f8 c x)
            · first | (rw [hv19, cf (by rw [fgd]; omega)]; exact e6) | (rw [hv19, ct (by rw [fgd]; omega)]; omega) | (rw [hv19]; grind)
            · first
              | (refine x21.cg (AE_FF (fun k k1 k2 => ?_)); rw [dF_fng]; grind)
              | (refine x8.cg ⟨rfl, fun m k => by rw [dF_lst, dF_lst], fun m => by rw [dF_ahd, dF_ahd], fun m k => ?_, fun k => by rw [dF_hld, dF_hld]⟩; rw [dF_fng, dF_fng]; grind)
          · try dsimp only
            omega
        · skip
          refine w_bp (x_isIn x8 hw.1) (fun v20 hv20 => ?_)
          have ev20 : v20 = isi a v15 := hv20
          have qv20 := hw.inr (n := v15)
          refine w_ite (fun c_4 => ?_) (fun c_4 => ?_)
          · skip
            refine w_bne (x_setFinger x8 (by omega) (by omega) (by omega) (by omega)) (fun _ G21 _ hG21 => ?_)
            have x21 := XA_F (v := -1) x8 (n := n) (by omega) (by omega) j0 (show v7 < 8 by omega)
            rw [← hG21] at x21
            refine w_bd (fun v22 hv22 => ?_)
            simp (disch := omega) only [iadd_id, isub_id, imul_id] at hv22
            refine w_bd (fun v19 hv19 => ?_)
            simp (disch := omega) only [iadd_id, isub_id, imul_id] at hv19
            refine hrc9 _ _ _ ?_ ?_
            · try dsimp only
              refine ⟨?_, ?_, ?_, ?_, ?_⟩
              · first | omega | grind
              · first | omega | grind
              · first | exact f8 | (intro c x; rw [hG21, up_ne x]; exact f8 c x)
              · first | (rw [hv19, cf (by rw [fgd]; omega)]; exact e6) | (rw [hv19, ct (by rw [fgd]; omega)]; omega) | (rw [hv19]; grind)
              · first
                | (refine x21.cg (AE_FF (fun k k1 k2 => ?_)); rw [dF_fng]; grind)
                | (refine x8.cg ⟨rfl, fun m k => by rw [dF_lst, dF_lst], fun m => by rw [dF_ahd, dF_ahd], fun m k => ?_, fun k => by rw [dF_hld, dF_hld]⟩; rw [dF_fng, dF_fng]; grind)
            · try dsimp only
              omega
          · skip
            refine w_bd (fun v19 hv19 => ?_)
            simp (disch := omega) only [iadd_id, isub_id, imul_id] at hv19
            refine hrc9 _ _ _ ?_ ?_
            · try dsimp only
              refine ⟨?_, ?_, ?_, ?_, ?_⟩
              · first | omega | grind
              · first | omega | grind
              · first | exact f8 | (intro c x; rw [hG21, up_ne x]; exact f8 c x)
              · first | (rw [hv19, cf (by rw [fgd]; omega)]; exact e6) | (rw [hv19, ct (by rw [fgd]; omega)]; omega) | (rw [hv19]; grind)
              · first
                | (refine x21.cg (AE_FF (fun k k1 k2 => ?_)); rw [dF_fng]; grind)
                | (refine x8.cg ⟨rfl, fun m k => by rw [dF_lst, dF_lst], fun m => by rw [dF_ahd, dF_ahd], fun m k => ?_, fun k => by rw [dF_hld, dF_hld]⟩; rw [dF_fng, dF_fng]; grind)
            · try dsimp only
              omega
      · skip
        refine w_bp (x_aheadOf x8) (fun v10 hv10 => ?_)
        have e10 : v10 = ahd a n := by rw [hv10, dF_ahd, dLs_ahd]
        refine w_bp (x_isIn x8 hw.1) (fun v11 hv11 => ?_)
        have ev11 : v11 = isi a v10 := hv11
        have qv11 := hw.inr (n := v10)
        refine w_ite (fun c_5 => ?_) (fun c_5 => ?_)
        · skip
          refine w_bne (x_setAhead x8 (by omega) (by omega)) (fun _ G12 _ hG12 => ?_)
          have x12 := XA_A (v := -1) x8 (n := n) (by omega) (by omega)
          rw [← hG12] at x12
          refine w_rt ?_
          refine ⟨fun c x y _ _ _ => by rw [hG12, up_ne y]; exact f8 c y, Or.inl ⟨by omega, by rw [e6, show v7.toNat = 8 by omega]; rfl, ?_⟩⟩
          unfold dFl fa
          rw [if_neg (by rw [← e10]; omega)]
          refine x12.cg ⟨rfl, fun m k => by rw [dA_lst, dA_lst, dF_lst, dF_lst], fun m => by rw [dA_ahd, dA_ahd, dF_ahd, dF_ahd], fun m k => ?_, fun k => by rw [dA_hld, dA_hld, dF_hld, dF_hld]⟩
          rw [dA_fng, dA_fng, dF_fng, dF_fng]; grind
        · skip
          refine w_rt ?_
          refine ⟨fun c x y _ _ _ => by exact f8 c y, Or.inl ⟨by omega, by rw [e6, show v7.toNat = 8 by omega]; rfl, ?_⟩⟩
          unfold dFl fa
          rw [if_pos (by rw [← e10]; omega)]
          refine x8.cg ⟨rfl, fun m k => by rw [dA_lst, dF_lst, dF_lst], fun m => ?_, fun m k => ?_, fun k => by rw [dA_hld, dF_hld, dF_hld]⟩
          · rw [dA_ahd, dF_ahd, dLs_ahd, dF_ahd, dLs_ahd]; grind
          · rw [dA_fng, dF_fng, dF_fng]; grind
    · try dsimp only
      refine ⟨?_, ?_, ?_, ?_, ?_⟩
      · first | omega | (subst_vars; first | rfl | assumption) | assumption
      · first | omega | (subst_vars; first | rfl | assumption) | assumption
      · exact f3
      · rw [hv5, hv4, e2]; show _ = _ + (0 : Int); omega
      · refine x3.cg (AE_F0 (fun k k1 k2 => ?_)); rw [if_neg (by omega), dLs_fng]
    · try dsimp only
      omega

end LIS
