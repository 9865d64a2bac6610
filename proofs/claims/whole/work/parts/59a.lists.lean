/-! LISTS: whom one lists -/
def room (T : TT) (n : Int) : Int := if tk T n = 1 then 1 else tL T
def rwS (T : TT) (a : AS) (n f : Int) : Nat → Int × (Int → Int)
  | 0 => (1, fun k => if k = 0 then f else -1)
  | i + 1 => if (rwS T a n f i).1 < room T n ∧ lst a f i ≠ -1 ∧ lst a f i ≠ n ∧ lst a f i ≠ f then ((rwS T a n f i).1 + 1, fun k => if k = (rwS T a n f i).1 then lst a f i else (rwS T a n f i).2 k) else rwS T a n f i
def nls (T : TT) (a : AS) (n f : Int) : Int → Int := (rwS T a n f 4).2
def RWJ (T : TT) (a : AS) (f : Int) (i : Int) (s : Int × (Int → Int)) : Prop := 1 ≤ s.1 ∧ s.1 ≤ i + 1 ∧ s.1 ≤ 4 ∧ (∀ k, 0 ≤ k → k < s.1 → 0 ≤ s.2 k ∧ s.2 k < tN T) ∧ (∀ k, k < 0 ∨ s.1 ≤ k → s.2 k = -1) ∧ s.2 0 = f ∧ (∀ k, 1 ≤ k → k < s.1 → ∃ j : Int, 0 ≤ j ∧ j < i ∧ s.2 k = lst a f j ∧ lst a f j ≠ f) ∧ (∀ k j, 0 ≤ k → k < j → j < s.1 → s.2 k ≠ s.2 j)
section LIS
variable {b : Nat} {a : AS} {G : Hp} {T : TT}
theorem room_r (w : WT T) (n : Int) : 1 ≤ room T n ∧ room T n ≤ 4 := by
  have := w.rg; unfold room; split <;> omega
theorem rwS_s {n f i : Int} (h : 0 ≤ i) : rwS T a n f (i + 1).toNat = if (rwS T a n f i.toNat).1 < room T n ∧ lst a f i ≠ -1 ∧ lst a f i ≠ n ∧ lst a f i ≠ f then ((rwS T a n f i.toNat).1 + 1, fun k => if k = (rwS T a n f i.toNat).1 then lst a f i else (rwS T a n f i.toNat).2 k) else rwS T a n f i.toNat := by
  rw [toN1 h, rwS]; simp only [Int.toNat_of_nonneg h]
theorem rwS_J (w : WT T) (hw : WA T a) {n f : Int} (hf : 0 ≤ f) (hf2 : f < tN T) : ∀ i : Nat, RWJ T a f i (rwS T a n f i)
  | 0 => by
    refine ⟨by show (1 : Int) ≤ 1; omega, by show (1 : Int) ≤ ((0 : Nat) : Int) + 1; omega, by show (1 : Int) ≤ 4; omega, fun k k1 k2 => ?_, fun k q => ?_, rfl, fun k k1 k2 => ?_, fun k j k1 k2 k3 => ?_⟩
    · have : k < (1 : Int) := k2
      show 0 ≤ (if k = 0 then f else -1) ∧ (if k = 0 then f else -1) < tN T
      rw [if_pos (by omega)]; exact ⟨hf, hf2⟩
    · have : k < 0 ∨ (1 : Int) ≤ k := q
      show (if k = 0 then f else -1) = -1
      rw [if_neg (by omega)]
    · have : k < (1 : Int) := k2
      omega
    · have : j < (1 : Int) := k3
      omega
  | i + 1 => by
    have ih := rwS_J w hw (n := n) hf hf2 i
    have hr := room_r w n
    have hl := hw.lr f i
    rw [rwS]
    split
    · rename_i c
      generalize rwS T a n f i = s at ih c
      obtain ⟨h1, h2, h3, h4, h5, h6, h7, h8⟩ := ih
      refine ⟨by show 1 ≤ s.1 + 1; omega, by show s.1 + 1 ≤ ((i + 1 : Nat) : Int) + 1; omega, by show s.1 + 1 ≤ 4; omega, fun k k1 k2 => ?_, fun k q => ?_, ?_, fun k k1 k2 => ?_, fun k j k1 k2 k3 => ?_⟩
      · have k2 : k < s.1 + 1 := k2
        show 0 ≤ (if k = s.1 then lst a f i else s.2 k) ∧ (if k = s.1 then lst a f i else s.2 k) < tN T
        have := h4 k k1
        split <;> omega
      · have q : k < 0 ∨ s.1 + 1 ≤ k := q
        show (if k = s.1 then lst a f i else s.2 k) = -1
        rw [if_neg (by omega)]; exact h5 k (by omega)
      · show (if 0 = s.1 then lst a f i else s.2 0) = f
        rw [if_neg (by omega)]; exact h6
      · have k2 : k < s.1 + 1 := k2
        show ∃ j : Int, 0 ≤ j ∧ j < ((i + 1 : Nat) : Int) ∧ (if k = s.1 then lst a f i else s.2 k) = lst a f j ∧ lst a f j ≠ f
        by_cases e : k = s.1
        · rw [if_pos e]; exact ⟨i, by omega, by omega, rfl, c.2.2.2⟩
        · rw [if_neg e]
          obtain ⟨j, j1, j2, j3, j4⟩ := h7 k k1 (by omega)
          exact ⟨j, j1, by omega, j3, j4⟩
      · have k3 : j < s.1 + 1 := k3
        show (if k = s.1 then lst a f i else s.2 k) ≠ (if j = s.1 then lst a f i else s.2 j)
        rw [if_neg (by omega)]
        by_cases e : j = s.1
        · rw [if_pos e]
          by_cases e0 : k = 0
          · rw [e0, h6]; exact fun z => c.2.2.2 z.symm
          · obtain ⟨m, m1, m2, m3, m4⟩ := h7 k (by omega) (by omega)
            rw [m3]
            intro z
            have := hw.ds (n := f) m1 m2 z
            exact c.2.1 (by rw [← z]; exact this)
        · rw [if_neg e]; exact h8 k j k1 k2 (by omega)
    · obtain ⟨h1, h2, h3, h4, h5, h6, h7, h8⟩ := ih
      refine ⟨h1, by omega, h3, h4, h5, h6, fun k k1 k2 => ?_, h8⟩
      obtain ⟨m, m1, m2, m3, m4⟩ := h7 k k1 k2
      exact ⟨m, m1, by omega, m3, m4⟩
theorem rwS_full {n f : Int} {i : Nat} (h : room T n ≤ (rwS T a n f i).1) : ∀ j : Nat, rwS T a n f (i + j) = rwS T a n f i
  | 0 => rfl
  | j + 1 => by
    have ih := rwS_full h j
    rw [← Nat.add_assoc, rwS, if_neg (by rw [ih]; omega), ih]
theorem rwS_full4 {n f i : Int} (h0 : 0 ≤ i) (h4 : i ≤ 4) (h : room T n ≤ (rwS T a n f i.toNat).1) : rwS T a n f 4 = rwS T a n f i.toNat := by
  have := rwS_full h (4 - i.toNat)
  rw [show i.toNat + (4 - i.toNat) = 4 by omega] at this; exact this
theorem rwS_out {n f i : Int} (hw : WA T a) (h0 : llen a f ≤ i) (h4 : i ≤ 4) : rwS T a n f 4 = rwS T a n f i.toNat := by
  have hl := llen_rng a f
  have k : ∀ j : Nat, rwS T a n f (i.toNat + j) = rwS T a n f i.toNat := by
    intro j
    induction j with
    | zero => rfl
    | succ j ih => rw [← Nat.add_assoc, rwS, if_neg (fun z => z.2.1 (llen_out hw (by omega))), ih]
  have := k (4 - i.toNat)
  rw [show i.toNat + (4 - i.toNat) = 4 by omega] at this; exact this
theorem rwS_cg {a' : AS} {n f : Int} (h : ∀ k, lst a f k = lst a' f k) : ∀ i, rwS T a n f i = rwS T a' n f i
  | 0 => rfl
  | i + 1 => by rw [rwS, rwS, rwS_cg h i, h]
theorem nl_cg {a' : AS} {n f : Int} (h : ∀ k, lst a f k = lst a' f k) : nls T a n f = nls T a' n f := by unfold nls; rw [rwS_cg h]
theorem nl_0 (w : WT T) (hw : WA T a) {n f : Int} (hf : 0 ≤ f) (hf2 : f < tN T) : nls T a n f 0 = f := (rwS_J w hw (n := n) hf hf2 4).2.2.2.2.2.1
theorem WA_nl (hw : WA T a) (w : WT T) {n f : Int} (hn : isi a n = 1) (hf : 0 ≤ f) (hf2 : f < tN T) : WA T (dLs a n (nls T a n f)) := by
  obtain ⟨h1, h2, h3, h4, h5, h6, h7, h8⟩ := rwS_J w hw (n := n) hf hf2 4
  refine hw.dLs hn (fun k => ?_) (fun k k1 q => ?_) (fun k j k1 k2 q => ?_)
  · unfold nls
    rcases Int.lt_or_le k 0 with c | c
    · rw [h5 k (Or.inl c)]; omega
    · rcases Int.lt_or_le k (rwS T a n f 4).1 with d | d
      · have := h4 k c d; omega
      · rw [h5 k (Or.inr d)]; omega
  · unfold nls at q ⊢
    have : k + 1 < (rwS T a n f 4).1 := by
      rcases Int.lt_or_le (k + 1) (rwS T a n f 4).1 with d | d
      · exact d
      · exact absurd (h5 _ (Or.inr d)) q
    have := h4 k k1 (by omega)
    omega
  · unfold nls at q ⊢
    rcases Int.lt_or_le j (rwS T a n f 4).1 with d | d
    · exact absurd q (h8 k j k1 k2 d)
    · rw [q]; exact h5 _ (Or.inr d)
theorem x_setListBy (w : WT T) (hw : WA T a) (hA_G : XA 27 a G) (hT_G : XT T G) {n f : Int} (h1 : 0 ≤ n) (h2 : n < tN T) (h3 : 0 ≤ f) (h4 : f < tN T) : WP (fX0_setListBy 31 n f G) (fun _ G' => (∀ c, c ≠ 28 → c ≠ 32 → G' c = G c) ∧ XA 27 (dLs a n (nls T a n f)) G') := by
  have wr := w.rg
  have rr := room_r w n
  have J4 := rwS_J w hw (n := n) h3 h4 4
  unfold fX0_setListBy
  simp only [rf_31_0, rf_31_1, rf_31_3]
  refine w_bp (x_roomOf hT_G w (by omega) (by omega)) (fun v1 hv1 => ?_)
  refine w_bd (fun v2 hv2 => ?_)
  have ev2 : v2 = room T n := by rw [hv2, if_neg (by rw [hv1]; unfold room at rr; omega), hv1]; rfl
  refine w_bd (fun v3 hv3 => ?_)
  refine w_wr (by omega) (by omega) (fun G4 hG4 => ?_)
  refine w_bd (fun v5 hv5 => ?_)
  refine w_lpIIH (fun (v6 : Int) (v7 : Int) (G8 : Hp) => (0 ≤ v7) ∧ (v7 ≤ 4) ∧ (∀ c, c ≠ 32 → G8 c = G c) ∧ (v6 = (rwS T a n f v7.toNat).1) ∧ (∀ k : Int, 0 ≤ k → k < v6 → G8 32 k.toNat = (rwS T a n f v7.toNat).2 k)) (fun (v6 : Int) (v7 : Int) (G8 : Hp) => (4 - v7).toNat) (fun rc9 v6 v7 G8 hI hrc9 => ?_) _ _ _ ?_ ?_
  · skip
    obtain ⟨i0, i1, f8, e6, e7⟩ := hI
    have J7 := rwS_J w hw (n := n) h3 h4 v7.toNat
    rw [Int.toNat_of_nonneg i0] at J7
    have j1 := J7.1
    have j2 := J7.2.1
    have j3 := J7.2.2.1
    have hA_G8 : XA 27 a G8 := hA_G.fr (f8 27 (by decide)) (f8 28 (by decide))
    have hT_G8 : XT T G8 := hT_G.fr (f8 4 (by decide)) (f8 5 (by decide)) (f8 6 (by decide)) (f8 9 (by decide))
    refine w_jn ?_
    refine w_ite (fun c_1 => ?_) (fun c_1 => ?_)
    · skip
      refine w_ite (fun c_2 => ?_) (fun c_2 => ?_)
      · skip
        refine w_bp (x_listAt hA_G8) (fun v21 hv21 => ?_)
        have qv21 := hw.lr f v7
        refine w_bd (fun v22 hv22 => ?_)
        refine w_jn ?_
        refine w_ite (fun c_3 => ?_) (fun c_3 => ?_)
        · skip
          refine w_bd (fun v26 hv26 => ?_)
          simp (disch := omega) only [iadd_id, isub_id, imul_id] at hv26
          refine hrc9 _ _ _ ?_ ?_
          · try dsimp only
            refine ⟨?_, ?_, ?_, ?_, ?_⟩
            · first | omega | grind
            · first | omega | grind
            · first | exact f8 | (intro c x; rw [hG27, up_ne x]; exact f8 c x)
            · rw [hv26, rwS_s i0]; grind
            · intro k k1 k2
              rw [hv26, rwS_s i0]
              first
              | (rw [if_neg (by grind)]; exact e7 k k1 k2)
              | (rw [if_pos ⟨by omega, by rw [← hv21, ← hv22]; omega, by rw [← hv21, ← hv22]; omega, by rw [← hv21, ← hv22]; omega⟩]
                 show G27 32 k.toNat = if k = (rwS T a n f v7.toNat).1 then lst a f v7 else (rwS T a n f v7.toNat).2 k
                 rw [hG27, up_at, ← e6]
                 by_cases e : k = v6
                 · rw [if_pos ⟨rfl, by omega⟩, if_pos e]; omega
                 · rw [if_neg (by omega), if_neg e]; exact e7 k k1 (by omega))
          · try dsimp only
            omega
        · skip
          refine w_ite (fun c_4 => ?_) (fun c_4 => ?_)
          · skip
            refine w_bd (fun v26 hv26 => ?_)
            simp (disch := omega) only [iadd_id, isub_id, imul_id] at hv26
            refine hrc9 _ _ _ ?_ ?_
            · try dsimp only
              refine ⟨?_, ?_, ?_, ?_, ?_⟩
              · first | omega | grind
              · first | omega | grind
              · first | exact f8 | (intro c x; rw [hG27, up_ne x]; exact f8 c x)
              · rw [hv26, rwS_s i0]; grind
              · intro k k1 k2
                rw [hv26, rwS_s i0]
                first
                | (rw [if_neg (by grind)]; exact e7 k k1 k2)
                | (rw [if_pos ⟨by omega, by rw [← hv21, ← hv22]; omega, by rw [← hv21, ← hv22]; omega, by rw [← hv21, ← hv22]; omega⟩]
                   show G27 32 k.toNat = if k = (rwS T a n f v7.toNat).1 then lst a f v7 else (rwS T a n f v7.toNat).2 k
                   rw [hG27, up_at, ← e6]
                   by_cases e : k = v6
                   · rw [if_pos ⟨rfl, by omega⟩, if_pos e]; omega
                   · rw [if_neg (by omega), if_neg e]; exact e7 k k1 (by omega))
            · try dsimp only
              omega
          · skip
            refine w_ite (fun c_5 => ?_) (fun c_5 => ?_)
            · skip
              refine w_bd (fun v26 hv26 => ?_)
              simp (disch := omega) only [iadd_id, isub_id, imul_id] at hv26
              refine hrc9 _ _ _ ?_ ?_
              · try dsimp only
                refine ⟨?_, ?_, ?_, ?_, ?_⟩
                · first | omega | grind
                · first | omega | grind
                · first | exact f8 | (intro c x; rw [hG27, up_ne x]; exact f8 c x)
                · rw [hv26, rwS_s i0]; grind
                · intro k k1 k2
                  rw [hv26, rwS_s i0]
                  first
                  | (rw [if_neg (by grind)]; exact e7 k k1 k2)
                  | (rw [if_pos ⟨by omega, by rw [← hv21, ← hv22]; omega, by rw [← hv21, ← hv22]; omega, by rw [← hv21, ← hv22]; omega⟩]
                     show G27 32 k.toNat = if k = (rwS T a n f v7.toNat).1 then lst a f v7 else (rwS T a n f v7.toNat).2 k
                     rw [hG27, up_at, ← e6]
                     by_cases e : k = v6
                     · rw [if_pos ⟨rfl, by omega⟩, if_pos e]; omega
                     · rw [if_neg (by omega), if_neg e]; exact e7 k k1 (by omega))
              · try dsimp only
                omega
            · skip
              refine w_wr (by omega) (by omega) (fun G27 hG27 => ?_)
              refine w_bd (fun v28 hv28 => ?_)
              simp (disch := omega) only [iadd_id, isub_id, imul_id] at hv28
              refine w_bd (fun v26 hv26 => ?_)
              simp (disch := omega) only [iadd_id, isub_id, imul_id] at hv26
              refine hrc9 _ _ _ ?_ ?_
              · try dsimp only
                refine ⟨?_, ?_, ?_, ?_, ?_⟩
                · first | omega | grind
                · first | omega | grind
                · first | exact f8 | (intro c x; rw [hG27, up_ne x]; exact f8 c x)
                · rw [hv26, rwS_s i0]; grind
                · intro k k1 k2
                  rw [hv26, rwS_s i0]
                  first
                  | (rw [if_neg (by grind)]; exact e7 k k1 k2)
                  | (rw [if_pos ⟨by omega, by rw [← hv21, ← hv22]; omega, by rw [← hv21, ← hv22]; omega, by rw [← hv21, ← hv22]; omega⟩]
                     show G27 32 k.toNat = if k = (rwS T a n f v7.toNat).1 then lst a f v7 else (rwS T a n f v7.toNat).2 k
                     rw [hG27, up_at, ← e6]
                     by_cases e : k = v6
                     · rw [if_pos ⟨rfl, by omega⟩, if_pos e]; omega
                     · rw [if_neg (by omega), if_neg e]; exact e7 k k1 (by omega))
              · try dsimp only
                omega
      · skip
        have full : v6 = (rwS T a n f 4).1 ∧ ∀ k : Int, 0 ≤ k → k < v6 → G8 32 k.toNat = nls T a n f k := by
          have e4 : rwS T a n f 4 = rwS T a n f v7.toNat := rwS_full4 i0 i1 (by rw [← e6]; omega)
          refine ⟨by rw [e4]; exact e6, fun k k1 k2 => ?_⟩
          unfold nls; rw [e4]; exact e7 k k1 k2
        refine w_bd (fun v11 hv11 => ?_)
        refine w_lpIH (fun (v12 : Int) (G13 : Hp) => (0 ≤ v12) ∧ (v12 ≤ 4) ∧ (∀ c, c ≠ 28 → G13 c = G8 c) ∧ (XA 27 (dLs a n (fun k => if k < v12 then nls T a n f k else lst a n k)) G13)) (fun (v12 : Int) (G13 : Hp) => (4 - v12).toNat) (fun rc14 v12 G13 hI hrc14 => ?_) _ _ ?_ ?_
        · skip
          obtain ⟨j0, j1, f13, x13⟩ := hI
          have r8 : v12 < v6 → G13 32 v12.toNat = nls T a n f v12 := fun z => by rw [f13 32 (by decide)]; exact full.2 v12 (by omega) z
          have r9 : v6 ≤ v12 → nls T a n f v12 = -1 := fun z => by unfold nls; exact J4.2.2.2.2.1 _ (Or.inr (by rw [← full.1]; exact z))
          refine w_ite (fun c_6 => ?_) (fun c_6 => ?_)
          · skip
            refine w_jn ?_
            refine w_ite (fun c_7 => ?_) (fun c_7 => ?_)
            · skip
              refine w_rd (by omega) (by omega) (fun v20 hv20 => ?_)
              refine w_bne (x_setList x13 (by omega) (by omega) (by omega) (by omega)) (fun _ G17 _ hG17 => ?_)
              refine w_bd (fun v18 hv18 => ?_)
              simp (disch := omega) only [iadd_id, isub_id, imul_id] at hv18
              refine hrc14 _ _ ?_ ?_
              · try dsimp only
                refine ⟨?_, ?_, ?_, ?_⟩
                · first | omega | grind
                · first | omega | grind
                · intro c x; rw [hG17, up_ne x]; exact f13 c x
                · rw [hG17]; refine (XA_L x13 (by omega) (by omega) (by omega) (by omega)).cg (AE_LL (fun k k1 k2 => ?_)); rw [dLs_lst]; grind
              · try dsimp only
                omega
            · skip
              refine w_bne (x_setList x13 (by omega) (by omega) (by omega) (by omega)) (fun _ G17 _ hG17 => ?_)
              refine w_bd (fun v18 hv18 => ?_)
              simp (disch := omega) only [iadd_id, isub_id, imul_id] at hv18
              refine hrc14 _ _ ?_ ?_
              · try dsimp only
                refine ⟨?_, ?_, ?_, ?_⟩
                · first | omega | grind
                · first | omega | grind
                · intro c x; rw [hG17, up_ne x]; exact f13 c x
                · rw [hG17]; refine (XA_L x13 (by omega) (by omega) (by omega) (by omega)).cg (AE_LL (fun k k1 k2 => ?_)); rw [dLs_lst]; grind
              · try dsimp only
                omega
          · skip
            refine w_rt ?_
            refine ⟨fun c x y => by rw [f13 c x, f8 c y], x13.cg ?_⟩
            refine ⟨rfl, fun m k => ?_, fun m => by rw [dLs_ahd, dLs_ahd], fun m k => by rw [dLs_fng, dLs_fng], fun k => by rw [dLs_hld, dLs_hld]⟩
            rw [dLs_lst, dLs_lst]; grind
        · try dsimp only
          refine ⟨?_, ?_, ?_, ?_⟩
          · first | omega | (subst_vars; first | rfl | assumption) | assumption
          · first | omega | (subst_vars; first | rfl | assumption) | assumption
          · intro c x; rfl
          · refine hA_G8.cg (AE_L0 (fun k k1 k2 => ?_)); rw [if_neg (by omega)]
        · try dsimp only
          omega
    · skip
      have full : v6 = (rwS T a n f 4).1 ∧ ∀ k : Int, 0 ≤ k → k < v6 → G8 32 k.toNat = nls T a n f k := by
        have e4 : rwS T a n f 4 = rwS T a n f v7.toNat := by rw [show v7.toNat = 4 by omega]
        refine ⟨by rw [e4]; exact e6, fun k k1 k2 => ?_⟩
        unfold nls; rw [e4]; exact e7 k k1 k2
      refine w_bd (fun v11 hv11 => ?_)
      refine w_lpIH (fun (v12 : Int) (G13 : Hp) => (0 ≤ v12) ∧ (v12 ≤ 4) ∧ (∀ c, c ≠ 28 → G13 c = G8 c) ∧ (XA 27 (dLs a n (fun k => if k < v12 then nls T a n f k else lst a n k)) G13)) (fun (v12 : Int) (G13 : Hp) => (4 - v12).toNat) (fun rc14 v12 G13 hI hrc14 => ?_) _ _ ?_ ?_
      · skip
        obtain ⟨j0, j1, f13, x13⟩ := hI
        have r8 : v12 < v6 → G13 32 v12.toNat = nls T a n f v12 := fun z => by rw [f13 32 (by decide)]; exact full.2 v12 (by omega) z
        have r9 : v6 ≤ v12 → nls T a n f v12 = -1 := fun z => by unfold nls; exact J4.2.2.2.2.1 _ (Or.inr (by rw [← full.1]; exact z))
        refine w_ite (fun c_8 => ?_) (fun c_8 => ?_)
        · skip
          refine w_jn ?_
          refine w_ite (fun c_9 => ?_) (fun c_9 => ?_)
          · skip
            refine w_rd (by omega) (by omega) (fun v20 hv20 => ?_)
            refine w_bne (x_setList x13 (by omega) (by omega) (by omega) (by omega)) (fun _ G17 _ hG17 => ?_)
            refine w_bd (fun v18 hv18 => ?_)
            simp (disch := omega) only [iadd_id, isub_id, imul_id] at hv18
            refine hrc14 _ _ ?_ ?_
            · try dsimp only
              refine ⟨?_, ?_, ?_, ?_⟩
              · first | omega | grind
              · first | omega | grind
              · intro c x; rw [hG17, up_ne x]; exact f13 c x
              · rw [hG17]; refine (XA_L x13 (by omega) (by omega) (by omega) (by omega)).cg (AE_LL (fun k k1 k2 => ?_)); rw [dLs_lst]; grind
            · try dsimp only
              omega
          · skip
            refine w_bne (x_setList x13 (by omega) (by omega) (by omega) (by omega)) (fun _ G17 _ hG17 => ?_)
            refine w_bd (fun v18 hv18 => ?_)
            simp (disch := omega) only [iadd_id, isub_id, imul_id] at hv18
            refine hrc14 _ _ ?_ ?_
            · try dsimp only
              refine ⟨?_, ?_, ?_, ?_⟩
              · first | omega | grind
              · first | omega | grind
              · intro c x; rw [hG17, up_ne x]; exact f13 c x
              · rw [hG17]; refine (XA_L x13 (by omega) (by omega) (by omega) (by omega)).cg (AE_LL (fun k k1 k2 => ?_)); rw [dLs_lst]; grind
            · try dsimp only
              omega
        · skip
          refine w_rt ?_
          refine ⟨fun c x y => by rw [f13 c x, f8 c y], x13.cg ?_⟩
          refine ⟨rfl, fun m k => ?_, fun m => by rw [dLs_ahd, dLs_ahd], fun m k => by rw [dLs_fng, dLs_fng], fun k => by rw [dLs_hld, dLs_hld]⟩
          rw [dLs_lst, dLs_lst]; grind
      · try dsimp only
        refine ⟨?_, ?_, ?_, ?_⟩
        · first | omega | (subst_vars; first | rfl | assumption) | assumption
        · first | omega | (subst_vars; first | rfl | assumption) | assumption
        · intro c x; rfl
        · refine hA_G8.cg (AE_L0 (fun k k1 k2 => ?_)); rw [if_neg (by omega)]
      · try dsimp only
        omega
  · try dsimp only
    refine ⟨?_, ?_, ?_, ?_, ?_⟩
    · first | omega | (subst_vars; first | rfl | assumption) | assumption
    · first | omega | (subst_vars; first | rfl | assumption) | assumption
    · intro c x; rw [hG4, up_ne x]
    · rw [hv5, hv3]; rfl
    · intro k k1 k2; rw [hG4, up_at, hv5]; have : k = 0 := by omega
      subst this; rfl
  · try dsimp only
    omega

end LIS
