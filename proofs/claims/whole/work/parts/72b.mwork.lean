/-! READING A WORK: the reference -/
section WKB
variable {S : TS} {G : Hp} {n : Nat}
theorem m_tTold {P : NP} {F : Int} {j a N : Nat} {t : Nat → Int} (w : WTp S) (h : MA S n F j G) (haN : a + N ≤ 36) (ht : ∀ i : Nat, i < N → G 119 (a + i) = t i) (u : ∀ i j : Nat, i < N → j < N → t i = t j → i = j) {za zN : Int} (ha : za = a) (hN : zN = N) : WP (fX12_takeTold 111 za zN G) (fun r G' => FM8 G G' ∧ MA S n (orF F (nmF t N S j)) (j + 1) G' ∧ (orF F (nmF t N S j) = 0 → r = nmV t N S j)) := by
  have l1 := flt_r w (k := 1) (j := j) (by decide)
  have l2 := flt_r w (k := 2) (j := j) (by decide)
  unfold fX12_takeTold
  refine w_jnP (fun K2 hK2 => ?_)
  have bad : ∀ g, FM8 G g → orF F (nmF t N S j) ≠ 0 → MA S n (orF F (nmF t N S j)) (j + 1) g → WP (K2 g) (fun r G' => FM8 G G' ∧ MA S n (orF F (nmF t N S j)) (j + 1) G' ∧ (orF F (nmF t N S j) = 0 → r = nmV t N S j)) := by
    intro g fg ne ag
    have f8 := ag.f
    have gp : 0 < g 111 8 := by omega
    rw [hK2]
    refine w_jnP (fun K4 hK4 => ?_)
    refine w_ite (fun _ => ?_) (fun y => absurd gp y)
    rw [hK4]
    refine w_bd (fun v5 e5 => ?_)
    refine w_jnP (fun K7 hK7 => ?_)
    refine w_ite (fun y => by omega) (fun _ => ?_)
    rw [hK7]
    refine w_jnP (fun K9 hK9 => ?_)
    refine w_ite (fun _ => ?_) (fun y => absurd gp y)
    rw [hK9]
    refine w_bh (fun g10 e10 => ?_)
    rcases ag with ⟨z, _⟩ | ⟨z, j', mj⟩
    · exact absurd z ne
    · have i0 := m_inc0 mj
      rw [← e10] at i0
      have h8 : g10 111 8 = orF F (nmF t N S j) := i0.2.2.2.2.1
      exact w_ite (fun _ => w_rt ⟨fg.tr i0.1, Or.inr ⟨z, j', i0.2⟩, fun y => absurd y ne⟩) (fun y => absurd (by omega) y)
  rcases h with ⟨a0, mj⟩ | ⟨a0, j', mj⟩
  · have h8 : G 111 8 = 0 := mj.2.2.2.1
    rw [a0, orF_0] at bad ⊢
    refine w_ite (fun _ => ?_) (fun y => absurd h8 y)
    refine w_bpq (m_isNam mj) (fun v14 _ q14 => ?_)
    rcases q14 with ⟨b1, -, b3⟩ | ⟨b1, b2⟩
    · have hn : isN S j := b3
      refine w_ite (fun y => by omega) (fun _ => ?_)
      rw [hK2]
      refine w_jnP (fun K4 hK4 => ?_)
      refine w_ite (fun y => by omega) (fun _ => ?_)
      refine w_bpq (m_nmAt mj hn.1 haN ha hN) (fun v13 _ q13 => ?_)
      rw [hK4]
      refine w_bd (fun v5 e5 => ?_)
      refine w_jnP (fun K7 hK7 => ?_)
      refine w_ite (fun _ => ?_) (fun y => absurd h8 y)
      rcases q13 with ⟨c1, c2⟩ | ⟨k, c1, c2, c3⟩
      · have e : lastW t (yv S j) N = -1 := lastW_no (fun i hi e => c2 i hi (by rw [ht i hi]; exact e))
        have ez : nmF t N S j = flt S 2 j := by unfold nmF; rw [cif_t hn, if_pos e]
        refine w_ite (fun _ => ?_) (fun y => absurd (by omega) y)
        refine w_bn (m_tWr w (Or.inl ⟨rfl, mj⟩) (by decide) (by decide) (j2 := j + 1)) (fun _ g11 q11 => ?_)
        have ag : MA S n (nmF t N S j) (j + 1) g11 := by rw [ez]; exact q11.2
        have f8 := ag.f
        have gp : 0 < g11 111 8 := by omega
        rw [hK7]
        refine w_jnP (fun K9 hK9 => ?_)
        refine w_ite (fun _ => ?_) (fun y => absurd gp y)
        rw [hK9]
        refine w_bh (fun g10 e10 => ?_)
        rcases ag with ⟨z, _⟩ | ⟨z, j', mj'⟩
        · omega
        · have i0 := m_inc0 mj'
          rw [← e10] at i0
          have h8' : g10 111 8 = nmF t N S j := i0.2.2.2.2.1
          exact w_ite (fun _ => w_rt ⟨q11.1.tr i0.1, Or.inr ⟨z, j', i0.2⟩, fun y => absurd y z⟩) (fun y => absurd (by omega) y)
      · have e : lastW t (yv S j) N = k := lastW_u u c1 (by rw [← ht k c1]; exact c3)
        have ez : nmF t N S j = 0 := by unfold nmF; rw [cif_t hn, if_neg (by omega)]
        refine w_ite (fun y => by omega) (fun _ => ?_)
        rw [hK7]
        refine w_jnP (fun K9 hK9 => ?_)
        refine w_ite (fun y => by omega) (fun _ => ?_)
        rw [hK9]
        refine w_bh (fun g10 e10 => ?_)
        have i0 := m_inc mj (by have := hn.1; show yk S j ≠ 0; omega)
        rw [← e10] at i0
        have h8' : g10 111 8 = 0 := i0.2.2.2.2.1
        exact w_ite (fun y => by omega) (fun _ => w_rt ⟨i0.1, Or.inl ⟨ez, i0.2⟩, fun _ => by unfold nmV; omega⟩)
    · have hn : ¬ isN S j := fun y => b2 ⟨rfl, y⟩
      have ez : nmF t N S j = flt S 1 j := by unfold nmF; rw [cif_f hn]
      refine w_ite (fun _ => ?_) (fun y => absurd b1 y)
      exact w_bn (m_tWr w (Or.inl ⟨rfl, mj⟩) (by decide) (by decide) (j2 := j + 1)) (fun _ g q => bad g q.1 (by omega) (by rw [ez]; exact q.2))
  · have h8 : G 111 8 = F := mj.2.2.2.1
    rw [orF_n a0] at bad ⊢
    refine w_ite (fun y => absurd (h8.symm.trans y) a0) (fun _ => ?_)
    exact bad G (FM8.rf G) a0 (Or.inr ⟨a0, j', mj⟩)
def ME (E : EW) (G : Hp) : Prop := ∀ i : Nat, i < E.1 → G 120 (121 + 3 * i) = E.2.1 i ∧ G 120 (122 + 3 * i) = E.2.2.1 i ∧ (E.2.1 i = 1 ∨ E.2.1 i = 6 ∨ E.2.1 i = 7 → G 120 (123 + 3 * i) = E.2.2.2 i)
def FV (G G' : Hp) : Prop := (∀ c, c ≠ 111 → c ≠ 120 → G' c = G c) ∧ (∀ k, k ≠ 7 → k ≠ 8 → G' 111 k = G 111 k) ∧ ∀ i, i < 121 → G' 120 i = G 120 i
theorem FV.rf (G : Hp) : FV G G := ⟨fun _ _ _ => rfl, fun _ _ _ => rfl, fun _ _ => rfl⟩
theorem FV.tr {G1 G2 : Hp} (h : FV G G1) (h' : FV G1 G2) : FV G G2 := ⟨fun c a b => (h'.1 c a b).trans (h.1 c a b), fun k a b => (h'.2.1 k a b).trans (h.2.1 k a b), fun i a => (h'.2.2 i a).trans (h.2.2 i a)⟩
theorem FV.o8 {G' : Hp} (h : FM8 G G') : FV G G' := ⟨fun c a _ => h.1 c a, fun k a b => h.2 k a b, fun i _ => by rw [h.1 120 (by decide)]⟩
theorem FVu {g g' : Hp} {k : Nat} {v : Int} (h : FV G g) (e : g' = up g 120 k v) (hc : 121 ≤ k) : FV G g' := by
  rw [e]
  exact h.tr ⟨fun d x y => up_ne y, fun j _ _ => by rw [up_ne (by decide)], fun i hi => by rw [up_at, if_neg (by omega)]⟩
theorem MNm.fr {P : NP} {G' : Hp} (h : MNm P G) (f : FV G G') : MNm P G' := by
  unfold MNm
  rw [f.1 117 (by decide) (by decide), f.1 119 (by decide) (by decide)]
  exact h
theorem MA.u {F : Int} {j k : Nat} {v : Int} {g' : Hp} (h : MA S n F j G) (e : g' = up G 120 k v) : MA S n F j g' := h.fr (by rw [e, up_ne (by decide)]) (by rw [e, up_ne (by decide)]) (by rw [e, up_ne (by decide)]) (by rw [e, up_ne (by decide)]) (by rw [e, up_ne (by decide)]) (by rw [e, up_ne (by decide)])
noncomputable def rwR (P : NP) (S : TS) : Nat → Nat → EW → Int × EW
  | 0, _, E => (0, E)
  | f + 1, j, E => if yk S j = 0 then (0, E) else if wkT P S E.1 j = 0 then rwR P S f (wJ S j + 1) (wkE P S E j) else (wkT P S E.1 j, E)
theorem rwR_e {P : NP} {E : EW} {f j : Nat} (h : yk S j = 0) : rwR P S f j E = (0, E) := by
  cases f with
  | zero => rfl
  | succ f => show (if yk S j = 0 then (0, E) else _) = _; rw [if_pos h]
theorem rwR_s {P : NP} {E : EW} {f j : Nat} (h : yk S j ≠ 0) (z : wkT P S E.1 j = 0) : rwR P S (f + 1) j E = rwR P S f (wJ S j + 1) (wkE P S E j) := by
  show (if yk S j = 0 then (0, E) else if wkT P S E.1 j = 0 then rwR P S f (wJ S j + 1) (wkE P S E j) else (wkT P S E.1 j, E)) = _
  rw [if_neg h, if_pos z]
theorem rwR_n {P : NP} {E : EW} {f j : Nat} (h : yk S j ≠ 0) (z : wkT P S E.1 j ≠ 0) : rwR P S (f + 1) j E = (wkT P S E.1 j, E) := by
  show (if yk S j = 0 then (0, E) else if wkT P S E.1 j = 0 then rwR P S f (wJ S j + 1) (wkE P S E j) else (wkT P S E.1 j, E)) = _
  rw [if_neg h, if_neg z]
def E0 : EW := (0, fun _ => 0, fun _ => 0, fun _ => 0)
theorem WE_0 {P : NP} : WE P E0 := ⟨by decide, fun i hi => absurd hi (Nat.not_lt_zero i)⟩
theorem rwR_w {P : NP} (w : WTp S) : ∀ (f j : Nat) (E : EW), WE P E → WE P (rwR P S f j E).2
  | 0, _, _, h => h
  | f + 1, j, E, h => by
    by_cases c : yk S j = 0
    · rw [rwR_e c]; exact h
    · by_cases z : wkT P S E.1 j = 0
      · rw [rwR_s c z]; exact rwR_w w f _ _ (WE_ln w h z)
      · rw [rwR_n c z]; exact h
theorem wJ_up {j : Nat} : j ≤ wJ S j := by
  unfold wJ; split
  · omega
  split <;> omega
theorem m_work {P : NP} (w : WTp S) (m : MTp S G) (tb : MTb G) (mn : MNm P G) (u : UNm P) : WP (fX12_work 111 G) (fun r G' => r = (rwR P S 1000 0 E0).1 ∧ G' 111 2 = 0 ∧ (∀ c, c ≠ 111 → c ≠ 113 → c ≠ 114 → c ≠ 115 → c ≠ 120 → G' c = G c) ∧ G' 111 18 = G 111 18 ∧ (r ≠ 0 → ∀ i, i < 121 → G' 120 i = G 120 i) ∧ (r = 0 → G' 120 0 = ((rwR P S 1000 0 E0).2.1 : Int) ∧ ∀ i : Nat, i < (rwR P S 1000 0 E0).2.1 → G' 120 (1 + 3 * i) = (rwR P S 1000 0 E0).2.2.1 i ∧ G' 120 (1 + 3 * i + 1) = (rwR P S 1000 0 E0).2.2.2.1 i ∧ ((rwR P S 1000 0 E0).2.2.1 i = 1 ∨ (rwR P S 1000 0 E0).2.2.1 i = 6 ∨ (rwR P S 1000 0 E0).2.2.1 i = 7 → G' 120 (1 + 3 * i + 2) = (rwR P S 1000 0 E0).2.2.2.2 i))) := by
  obtain ⟨R, hR⟩ : ∃ R, rwR P S 1000 0 E0 = R := ⟨_, rfl⟩
  rw [hR]
  unfold fX12_work
  rw [rf_111_4, rf_111_14]
  refine w_bh (fun g1 e1 => ?_)
  have m1 : MTp S g1 := m.fr (by rw [e1, up_at, if_neg (by decide)]) (by rw [e1, up_ne (by decide)])
  refine w_bn (m_cut w m1) (fun _ g2 q2 => ?_)
  obtain ⟨f2, z2, z7, z8, n, nS, mce⟩ := q2
  have hn := HN2_of mce
  have n1 : n ≤ 1000 := by have := w.2.1; omega
  have h2 : ∀ c, c ≠ 111 → c ≠ 113 → c ≠ 114 → c ≠ 115 → g2 c = G c := fun c a b d e => by rw [f2.1 c a b d e, e1, up_ne a]
  have mj : MJ S n (0, 0) g2 := by
    refine ⟨mce, fun i hi => ?_, z7, z8, Nat.zero_le n, n1, Int.le_refl 0⟩
    rw [h2 116 (by decide) (by decide) (by decide) (by decide)]; exact tb i hi
  have n2 : MNm P g2 := by unfold MNm; rw [h2 117 (by decide) (by decide) (by decide) (by decide), h2 119 (by decide) (by decide) (by decide) (by decide)]; exact mn
  have g18 : g2 111 18 = G 111 18 := by rw [f2.2 18 (by decide) (by decide) (by decide) (by decide), e1, up_at, if_neg (by decide)]
  obtain ⟨u1, u2, u3, u4⟩ := u
  refine w_bd (fun v3 e3 => ?_)
  refine w_lpIH (fun v4 g => FV g2 g ∧ ∃ (f j : Nat) (E : EW), n ≤ f + j ∧ WE P E ∧ ((v4 = E.1 ∧ MJ S n (j, 0) g ∧ ME E g ∧ rwR P S f j E = R) ∨ (g 111 8 = R.1 ∧ 0 < R.1))) (fun _ g => if g 111 8 = 0 then 2000 - (g 111 7).toNat else 0) (fun rc v4 g hI hr => ?_) v3 g2 ⟨FV.rf g2, 1000, 0, E0, by omega, WE_0, Or.inl ⟨e3, mj, fun i hi => absurd hi (Nat.not_lt_zero i), hR⟩⟩ (by split <;> omega)
  obtain ⟨fg, f, j, E, hf, we, hc⟩ := hI
  have w40 := we.1
  refine w_jnP (fun K7 hK => ?_)
  rcases hc with ⟨hv, c1, c2, c3⟩ | ⟨c1, c2⟩
  · have g8 : g 111 8 = 0 := c1.2.2.2.1
    have g7 : g 111 7 = (j : Int) := c1.2.2.1
    have jn : j ≤ n := c1.2.2.2.2.1
    refine w_ite (fun _ => ?_) (fun y => absurd g8 y)
    refine w_rd c1.in.1 c1.in.2 (fun v16 e16 => ?_)
    rw [c1.at, c1.k] at e16
    have rk := (rso_1 (yk_r (S := S) (j := j))).2.2.2
    refine w_ite (fun k0 => ?_) (fun k0 => ?_)
    · have y0 : yk S j = 0 := rk.mp (by rw [← k0, e16])
      rw [rwR_e y0] at c3
      rw [hK]
      refine w_ite (fun y => by omega) (fun _ => ?_)
      refine w_wr (by omega) (by omega) (fun g8 e8 => ?_)
      rw [show (0 : Int).toNat = 0 from rfl, hv] at e8
      refine w_bd (fun v9 e9 => ?_)
      have i3 : imul 3 v4 = ((3 * E.1 : Nat) : Int) := by rw [hv, imul_id (by omega) (by omega)]; omega
      rw [i3]
      have b0 : ∀ i, i ≠ 0 → g8 120 i = g 120 i := fun i hi => by rw [e8, up_at, if_neg (fun y => hi y.2)]
      refine w_lpIH (fun v10 h => ∃ k : Nat, v10 = k ∧ k ≤ 3 * E.1 ∧ (∀ c, c ≠ 120 → h c = g c) ∧ (∀ i, 121 ≤ i → h 120 i = g 120 i) ∧ h 120 0 = (E.1 : Int) ∧ ∀ i, i < k → h 120 (1 + i) = g 120 (121 + i)) (fun v10 _ => (((3 * E.1 : Nat) : Int) - v10).toNat) (fun rc2 v10 h hI hr2 => ?_) v9 g8 ⟨0, e9, by omega, fun c hc => by rw [e8, up_ne hc], fun i hi => b0 i (by omega), by rw [e8, up_at, if_pos ⟨rfl, rfl⟩], fun i hi => absurd hi (Nat.not_lt_zero i)⟩ (by omega)
      obtain ⟨k, hk, kl, p1, p2, p3, p4⟩ := hI
      refine w_ite (fun c => ?_) (fun c => ?_)
      · have ia : iadd 121 v10 = ((121 + k : Nat) : Int) := by rw [hk, iadd_id (by omega) (by omega)]; omega
        have ib : iadd 1 v10 = ((1 + k : Nat) : Int) := by rw [hk, iadd_id (by omega) (by omega)]; omega
        rw [ia, ib]
        refine w_rd (by omega) (by omega) (fun v13 e13 => ?_)
        rw [Int.toNat_natCast, p2 _ (by omega)] at e13
        refine w_wr (by omega) (by omega) (fun g14 e14 => ?_)
        rw [Int.toNat_natCast] at e14
        refine w_bd (fun v15 e15 => ?_)
        rw [iadd_id (by omega) (by omega)] at e15
        refine hr2 v15 g14 ⟨k + 1, by omega, by omega, fun c hc => by rw [e14, up_ne hc, p1 c hc], fun i hi => by rw [e14, up_at, if_neg (by omega), p2 i hi], by rw [e14, up_at, if_neg (by omega)]; exact p3, fun i hi => ?_⟩ (by omega)
        rw [e14, up_at]
        by_cases ei : i = k
        · rw [if_pos ⟨rfl, by omega⟩, ei]; exact e13
        · rw [if_neg (by omega)]; exact p4 i (by omega)
      · obtain rfl : k = 3 * E.1 := by omega
        rw [← c3]
        refine w_rt ⟨rfl, ?_, fun c a b d e e' => ?_, ?_, fun y => absurd rfl y, fun _ => ⟨p3, fun i hi => ?_⟩⟩
        · rw [p1 111 (by decide), fg.2.1 2 (by decide) (by decide)]; exact z2
        · rw [p1 c e', fg.1 c a e', h2 c a b d e]
        · rw [p1 111 (by decide), fg.2.1 18 (by decide) (by decide)]; exact g18
        · have hi' : i < E.1 := hi
          have q := c2 i hi'
          rw [show 1 + 3 * i + 1 = 1 + (3 * i + 1) by omega, show 1 + 3 * i + 2 = 1 + (3 * i + 2) by omega, p4 (3 * i) (by omega), p4 (3 * i + 1) (by omega), p4 (3 * i + 2) (by omega), show 121 + (3 * i + 1) = 122 + 3 * i by omega, show 121 + (3 * i + 2) = 123 + 3 * i by omega]
          exact q
    · have y0 : yk S j ≠ 0 := fun y => k0 (by rw [e16]; exact rk.mpr y)
      have jl := hn j y0
      obtain ⟨f', rfl⟩ : ∃ f', f = f' + 1 := ⟨f - 1, by omega⟩
      have ju := wJ_up (S := S) (j := j)
      refine w_bpq (m_wordHere c1 (a := 6) (b := 9) (by omega) (za := 6) (zb := 9) rfl rfl) (fun v17 _ q17 => ?_)
      refine w_bd (fun v18 e18 => ?_)
      refine w_jnP (fun K21 hK21 => ?_)
      have fin : ∀ (F : Int) (v19 : Int) (g20 : Hp), FV g2 g20 → MA S n F (wJ S j) g20 → orF F (sgR S 59 (wJ S j)) = wkT P S E.1 j → (F = 0 → v19 = ((E.1 + 1 : Nat) : Int) ∧ ME (wkE P S E j) g20) → WP (K21 v19 g20) (fun r G' => r = R.1 ∧ G' 111 2 = 0 ∧ (∀ c, c ≠ 111 → c ≠ 113 → c ≠ 114 → c ≠ 115 → c ≠ 120 → G' c = G c) ∧ G' 111 18 = G 111 18 ∧ (r ≠ 0 → ∀ i, i < 121 → G' 120 i = G 120 i) ∧ (r = 0 → G' 120 0 = (R.2.1 : Int) ∧ ∀ i : Nat, i < R.2.1 → G' 120 (1 + 3 * i) = R.2.2.1 i ∧ G' 120 (1 + 3 * i + 1) = R.2.2.2.1 i ∧ (R.2.2.1 i = 1 ∨ R.2.2.1 i = 6 ∨ R.2.2.1 i = 7 → G' 120 (1 + 3 * i + 2) = R.2.2.2.2 i))) := by
        intro F v19 g20 f20 a20 eT hz
        rw [hK21]
        refine w_bn (m_tSg w a20 59) (fun _ g22 q22 => ?_)
        obtain ⟨s1, s2⟩ := q22
        rw [eT] at s2
        by_cases z : wkT P S E.1 j = 0
        · rw [rwR_s y0 z] at c3
          rw [z] at s2 eT
          have F0 := (orF_z eT).1
          obtain ⟨zv, zE⟩ := hz F0
          have m22 := s2.z
          have x8 : g22 111 8 = 0 := m22.2.2.2.1
          have x7 : g22 111 7 = ((wJ S j + 1 : Nat) : Int) := m22.2.2.1
          have xn : wJ S j + 1 ≤ n := m22.2.2.2.2.1
          refine hr v19 g22 ⟨f20.tr (FV.o8 s1), f', wJ S j + 1, wkE P S E j, by omega, WE_ln w we z, Or.inl ⟨zv, m22, fun i hi => ?_, c3⟩⟩ ?_
          · rw [s1.1 120 (by decide)]; exact zE i hi
          · rw [x8, x7, g8, g7, if_pos rfl, if_pos rfl, Int.toNat_natCast, Int.toNat_natCast]; omega
        · rw [rwR_n y0 z] at c3
          have x8 := s2.f
          refine hr v19 g22 ⟨f20.tr (FV.o8 s1), f', j + 1, E, by omega, we, Or.inr ⟨?_, ?_⟩⟩ ?_
          · rw [← c3]; exact x8.1
          · rw [← c3]; show 0 < wkT P S E.1 j; have := x8.2; omega
          · rw [if_neg (by rw [x8.1]; exact z), if_pos g8, g7, Int.toNat_natCast]; omega
      have l1 := flt_r w (k := 1) (j := j) (by decide)
      have l5 := flt_r w (k := 5) (j := j) (by decide)
      rcases q17 with ⟨b1, b2⟩ | ⟨k, b1, b2, b3⟩
      · have cc : ¬ (yk S j = 2 ∧ 6 ≤ yw S j ∧ yw S j ≤ 14) := by
          intro z
          refine b2 (yw S j - 6).toNat (by omega) ⟨rfl, z.1, ?_⟩
          show yw S j = ((cixw (6 + (yw S j - 6).toNat) : Nat) : Int)
          unfold cixw; rw [if_pos (by omega)]; omega
        have eT : wkT P S E.1 j = flt S 1 j := by unfold wkT; rw [if_neg cc]
        refine w_ite (fun _ => ?_) (fun y => absurd (by omega) y)
        exact w_bn (m_tWr w (Or.inl ⟨rfl, c1⟩) (by decide) (by decide) (j2 := wJ S j)) (fun _ g50 q50 => fin (flt S 1 j) v4 g50 (fg.tr (FV.o8 q50.1)) q50.2 (by rw [orF_n (by omega), eT]) (fun y => by omega))
      · obtain ⟨-, k2, k3'⟩ := b3
        have k3 : yw S j = 6 + (k : Int) := by
          have ce : ((cixw (6 + k) : Nat) : Int) = 6 + (k : Int) := by unfold cixw; rw [if_pos (by omega)]; omega
          exact k3'.trans ce
        have cc : yk S j = 2 ∧ 6 ≤ yw S j ∧ yw S j ≤ 14 := ⟨k2, by omega, by omega⟩
        refine w_ite (fun y => by omega) (fun _ => ?_)
        refine w_ite (fun c40 => ?_) (fun c40 => ?_)
        · have eT : wkT P S E.1 j = flt S 5 j := by unfold wkT; rw [if_pos cc, if_pos (by omega)]
          exact w_bn (m_tWr w (Or.inl ⟨rfl, c1⟩) (by decide) (by decide) (j2 := wJ S j)) (fun _ g50 q50 => fin (flt S 5 j) v4 g50 (fg.tr (FV.o8 q50.1)) q50.2 (by rw [orF_n (by omega), eT]) (fun y => by omega))
        · have eT : wkT P S E.1 j = orF (wAF P S j) (orF (wBF P S j) (sgR S 59 (wJ S j))) := by unfold wkT; rw [if_pos cc, if_neg (by omega)]
          refine w_bh (fun g24 e24 => ?_)
          have i24 := m_inc c1 y0
          rw [← e24] at i24
          refine w_bd (fun v25 e25 => ?_)
          have x25 : v25 = ((121 + 3 * E.1 : Nat) : Int) := by rw [e25, hv, imul_id (by omega) (by omega), iadd_id (by omega) (by omega)]; omega
          rw [x25]
          refine w_wr (by omega) (by omega) (fun g26 e26 => ?_)
          rw [Int.toNat_natCast] at e26
          have F26 : FV g2 g26 := FVu (fg.tr (FV.o8 i24.1)) e26 (by omega)
          have a26 : MA S n 0 (j + 1) g26 := MA.u (Or.inl ⟨rfl, i24.2⟩) e26
          have n26 := n2.fr F26
          have x1 : iadd ((121 + 3 * E.1 : Nat) : Int) 1 = ((122 + 3 * E.1 : Nat) : Int) := by rw [iadd_id (by omega) (by omega)]; omega
          have x2 : iadd ((121 + 3 * E.1 : Nat) : Int) 2 = ((123 + 3 * E.1 : Nat) : Int) := by rw [iadd_id (by omega) (by omega)]; omega
          rw [x1, x2]
          refine w_jnP (fun K29 hK29 => ?_)
          have nxt : ∀ (v27 : Int) (g28 : Hp), FM8 g26 g28 → MA S n (wAF P S j) (j + 2) g28 → (wAF P S j = 0 → v27 = wA P S j) → WP (K29 v27 g28) (fun r G' => r = R.1 ∧ G' 111 2 = 0 ∧ (∀ c, c ≠ 111 → c ≠ 113 → c ≠ 114 → c ≠ 115 → c ≠ 120 → G' c = G c) ∧ G' 111 18 = G 111 18 ∧ (r ≠ 0 → ∀ i, i < 121 → G' 120 i = G 120 i) ∧ (r = 0 → G' 120 0 = (R.2.1 : Int) ∧ ∀ i : Nat, i < R.2.1 → G' 120 (1 + 3 * i) = R.2.2.1 i ∧ G' 120 (1 + 3 * i + 1) = R.2.2.2.1 i ∧ (R.2.2.1 i = 1 ∨ R.2.2.1 i = 6 ∨ R.2.2.1 i = 7 → G' 120 (1 + 3 * i + 2) = R.2.2.2.2 i))) := by
            intro v27 g28 f28 a28 hA
            rw [hK29]
            refine w_wr (by omega) (by omega) (fun g30 e30 => ?_)
            rw [Int.toNat_natCast] at e30
            have F30 : FV g2 g30 := FVu (F26.tr (FV.o8 f28)) e30 (by omega)
            have a30 := a28.u e30
            have n30 := n2.fr F30
            refine w_jnP (fun K33 hK33 => ?_)
            have last : ∀ (v31 : Int) (g32 : Hp), FM8 g30 g32 → MA S n (orF (wAF P S j) (wBF P S j)) (wJ S j) g32 → (orF (wAF P S j) (wBF P S j) = 0 → (yw S j - 6 = 1 ∨ yw S j - 6 = 6 ∨ yw S j - 6 = 7) → v31 = wB P S j) → WP (K33 v31 g32) (fun r G' => r = R.1 ∧ G' 111 2 = 0 ∧ (∀ c, c ≠ 111 → c ≠ 113 → c ≠ 114 → c ≠ 115 → c ≠ 120 → G' c = G c) ∧ G' 111 18 = G 111 18 ∧ (r ≠ 0 → ∀ i, i < 121 → G' 120 i = G 120 i) ∧ (r = 0 → G' 120 0 = (R.2.1 : Int) ∧ ∀ i : Nat, i < R.2.1 → G' 120 (1 + 3 * i) = R.2.2.1 i ∧ G' 120 (1 + 3 * i + 1) = R.2.2.2.1 i ∧ (R.2.2.1 i = 1 ∨ R.2.2.1 i = 6 ∨ R.2.2.1 i = 7 → G' 120 (1 + 3 * i + 2) = R.2.2.2.2 i))) := by
              intro v31 g32 f32 a32 hB
              rw [hK33]
              refine w_wr (by omega) (by omega) (fun g34 e34 => ?_)
              rw [Int.toNat_natCast] at e34
              refine w_bd (fun v35 e35 => ?_)
              rw [hv, iadd_id (by omega) (by omega)] at e35
              refine fin (orF (wAF P S j) (wBF P S j)) v35 g34 (FVu (F30.tr (FV.o8 f32)) e34 (by omega)) (a32.u e34) (by rw [orF_a, eT]) (fun z => ⟨by omega, fun i hi => ?_⟩)
              have z' := orF_z z
              have hi' : i < E.1 + 1 := hi
              show g34 120 (121 + 3 * i) = (if i = E.1 then yw S j - 6 else E.2.1 i) ∧ g34 120 (122 + 3 * i) = (if i = E.1 then wA P S j else E.2.2.1 i) ∧ ((if i = E.1 then yw S j - 6 else E.2.1 i) = 1 ∨ (if i = E.1 then yw S j - 6 else E.2.1 i) = 6 ∨ (if i = E.1 then yw S j - 6 else E.2.1 i) = 7 → g34 120 (123 + 3 * i) = (if i = E.1 then wB P S j else E.2.2.2 i))
              by_cases ei : i = E.1
              · rw [if_pos ei, if_pos ei, if_pos ei, ei]
                refine ⟨?_, ?_, fun y => ?_⟩
                · rw [e34, up_at, if_neg (by omega), f32.1 120 (by decide), e30, up_at, if_neg (by omega), f28.1 120 (by decide), e26, up_at, if_pos ⟨rfl, rfl⟩]; omega
                · rw [e34, up_at, if_neg (by omega), f32.1 120 (by decide), e30, up_at, if_pos ⟨rfl, rfl⟩]; exact hA z'.1
                · rw [e34, up_at, if_pos ⟨rfl, rfl⟩]; exact hB z y
              · rw [if_neg ei, if_neg ei, if_neg ei]
                have q := c2 i (by omega)
                have k34 : ∀ x, x < 121 + 3 * E.1 → g34 120 x = g 120 x := fun x hx => by rw [e34, up_at, if_neg (by omega), f32.1 120 (by decide), e30, up_at, if_neg (by omega), f28.1 120 (by decide), e26, up_at, if_neg (by omega), i24.1.1 120 (by decide)]
                rw [k34 _ (by omega), k34 _ (by omega), k34 _ (by omega)]
                exact q
            refine w_jnP (fun K36 hK36 => ?_)
            have two : yw S j = 7 ∨ yw S j = 13 → WP K36 (fun r G' => r = R.1 ∧ G' 111 2 = 0 ∧ (∀ c, c ≠ 111 → c ≠ 113 → c ≠ 114 → c ≠ 115 → c ≠ 120 → G' c = G c) ∧ G' 111 18 = G 111 18 ∧ (r ≠ 0 → ∀ i, i < 121 → G' 120 i = G 120 i) ∧ (r = 0 → G' 120 0 = (R.2.1 : Int) ∧ ∀ i : Nat, i < R.2.1 → G' 120 (1 + 3 * i) = R.2.2.1 i ∧ G' 120 (1 + 3 * i + 1) = R.2.2.2.1 i ∧ (R.2.2.1 i = 1 ∨ R.2.2.1 i = 6 ∨ R.2.2.1 i = 7 → G' 120 (1 + 3 * i + 2) = R.2.2.2.2 i))) := by
              intro c7
              have n12 : ¬ yw S j = 12 := by omega
              have eB : wBF P S j = nmF P.1 P.2.1 S (j + 2) := by unfold wBF; rw [if_neg n12, if_pos c7]
              have vB : wB P S j = nmV P.1 P.2.1 S (j + 2) := by unfold wB; rw [if_neg n12, if_pos c7]
              have jB : wJ S j = j + 3 := by unfold wJ; rw [if_neg n12, if_pos c7]
              rw [hK36]
              refine w_bp m_nds (fun v37 e37 => ?_)
              rw [n30.1] at e37
              refine w_bn (m_tTold w a30 (a := 0) (N := P.2.1) (t := P.1) (P := P) (by omega) (fun i hi => by rw [Nat.zero_add]; exact n30.2.2.1 i hi) u3 (za := 0) rfl e37) (fun v38 g39 q39 => ?_)
              obtain ⟨s1, s2, s3⟩ := q39
              exact last v38 g39 s1 (by rw [eB, jB]; exact s2) (fun z _ => by rw [vB]; rw [eB] at z; exact s3 z)
            refine w_ite (fun d1 => two (by omega)) (fun d1 => ?_)
            refine w_ite (fun d7 => two (by omega)) (fun d7 => ?_)
            refine w_ite (fun d6 => ?_) (fun d6 => ?_)
            · have n12 : yw S j = 12 := by omega
              have eB : wBF P S j = nuR S 0 7 (j + 2) := if_pos n12
              have vB : wB P S j = yv S (j + 2) := if_pos n12
              have jB : wJ S j = j + 3 := if_pos n12
              refine w_bn (m_tNu w a30) (fun v40 g41 q41 => ?_)
              obtain ⟨s1, s2, s3⟩ := q41
              exact last v40 g41 s1 (by rw [eB, jB]; exact s2) (fun z _ => by rw [vB]; rw [eB] at z; exact s3 z)
            · have n12 : ¬ yw S j = 12 := by omega
              have n7 : ¬ (yw S j = 7 ∨ yw S j = 13) := by omega
              have eB : wBF P S j = 0 := by unfold wBF; rw [if_neg n12, if_neg n7]
              have jB : wJ S j = j + 2 := by unfold wJ; rw [if_neg n12, if_neg n7]
              exact last 0 g30 (FM8.rf g30) (by rw [eB, jB, orF_r]; exact a30) (fun _ y => by omega)
          refine w_ite (fun d7 => ?_) (fun d7 => ?_)
          · have n13 : yw S j = 13 := by omega
            refine w_bp m_kys (fun v45 e45 => ?_)
            rw [n26.2.1] at e45
            refine w_bn (m_tTold w a26 (a := 8) (N := P.2.2.2) (t := P.2.2.1) (P := P) (by omega) (fun i hi => n26.2.2.2 i hi) u4 (za := 8) rfl e45) (fun v46 g47 q47 => ?_)
            obtain ⟨s1, s2, s3⟩ := q47
            rw [orF_0] at s2 s3
            have eA : wAF P S j = nmF P.2.2.1 P.2.2.2 S (j + 1) := if_pos n13
            have vA : wA P S j = nmV P.2.2.1 P.2.2.2 S (j + 1) := if_pos n13
            exact nxt v46 g47 s1 (by rw [eA]; exact s2) (fun z => by rw [vA]; rw [eA] at z; exact s3 z)
          · have n13 : ¬ yw S j = 13 := by omega
            refine w_bp m_nds (fun v42 e42 => ?_)
            rw [n26.1] at e42
            refine w_bn (m_tTold w a26 (a := 0) (N := P.2.1) (t := P.1) (P := P) (by omega) (fun i hi => by rw [Nat.zero_add]; exact n26.2.2.1 i hi) u3 (za := 0) rfl e42) (fun v43 g44 q44 => ?_)
            obtain ⟨s1, s2, s3⟩ := q44
            rw [orF_0] at s2 s3
            have eA : wAF P S j = nmF P.1 P.2.1 S (j + 1) := if_neg n13
            have vA : wA P S j = nmV P.1 P.2.1 S (j + 1) := if_neg n13
            exact nxt v43 g44 s1 (by rw [eA]; exact s2) (fun z => by rw [vA]; rw [eA] at z; exact s3 z)
  · refine w_ite (fun y => by omega) (fun _ => ?_)
    rw [hK]
    refine w_ite (fun _ => w_rt ?_) (fun y => absurd (by omega) y)
    refine ⟨c1, ?_, fun c a b d e e' => ?_, ?_, fun _ i hi => ?_, fun y => by omega⟩
    · rw [fg.2.1 2 (by decide) (by decide)]; exact z2
    · rw [fg.1 c a e', h2 c a b d e]
    · rw [fg.2.1 18 (by decide) (by decide)]; exact g18
    · rw [fg.2.2 i hi, h2 120 (by decide) (by decide) (by decide) (by decide)]
end WKB
