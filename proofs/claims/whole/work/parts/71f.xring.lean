/-! READING A RING: the class's whole reading -/
section RDR
variable {S : TS} {G : Hp} {n : Nat} {D : DR}
theorem HN2_of (h : MCE S n G) : ∀ j, yk S j ≠ 0 → j < n := by
  have z : ∀ k, (tB S (n + k) : Int) = S.1 := by
    intro k
    induction k with
    | zero => exact h.2.1
    | succ k ih =>
      have e : tEnd S (tB S (n + k)) = tB S (n + k) := by unfold tEnd; rw [if_pos (by omega)]
      have e2 : tB S (n + (k + 1)) = spE isB S (tEnd S (tB S (n + k))) := rfl
      rw [e2, e, spE_eq (Spn.no (by omega))]; exact ih
  intro j hj
  rcases Nat.lt_or_ge j n with c | c
  · exact c
  · exfalso
    obtain ⟨k, rfl⟩ := Nat.exists_eq_add_of_le c
    have := z k
    apply hj
    unfold yk tkd; rw [if_pos (by omega)]
theorem tok_n (w : WTp S) (m : MTp S G) : ∃ n, n ≤ 1000 ∧ ∀ j, yk S j ≠ 0 → j < n := by
  obtain ⟨r, G', e, q⟩ := m_cut w m
  obtain ⟨-, -, -, -, n, q1, q2⟩ := q
  exact ⟨n, by have := w.2.1; omega, HN2_of q2⟩
noncomputable def rgR (S : TS) : Nat → Nat → DR → Int × DR
  | 0, _, D => (0, D)
  | f + 1, j, D => if yk S j = 0 then (0, D) else if lnT S D j = 0 then rgR S f (lnJ S j + 1) (lnD S D j) else (lnT S D j, D)
theorem rgR_e {f j : Nat} (h : yk S j = 0) : rgR S f j D = (0, D) := by
  cases f with
  | zero => rfl
  | succ f => show (if yk S j = 0 then (0, D) else _) = _; rw [if_pos h]
theorem rgR_s {f j : Nat} (h : yk S j ≠ 0) (z : lnT S D j = 0) : rgR S (f + 1) j D = rgR S f (lnJ S j + 1) (lnD S D j) := by
  show (if yk S j = 0 then (0, D) else if lnT S D j = 0 then rgR S f (lnJ S j + 1) (lnD S D j) else (lnT S D j, D)) = _
  rw [if_neg h, if_pos z]
theorem rgR_n {f j : Nat} (h : yk S j ≠ 0) (z : lnT S D j ≠ 0) : rgR S (f + 1) j D = (lnT S D j, D) := by
  show (if yk S j = 0 then (0, D) else if lnT S D j = 0 then rgR S f (lnJ S j + 1) (lnD S D j) else (lnT S D j, D)) = _
  rw [if_neg h, if_neg z]
theorem rgR_w (w : WTp S) : ∀ (f j : Nat) (D : DR), WD S D → WD S (rgR S f j D).2
  | 0, _, _, h => h
  | f + 1, j, D, h => by
    by_cases c : yk S j = 0
    · rw [rgR_e c]; exact h
    · by_cases z : lnT S D j = 0
      · rw [rgR_s c z]; exact rgR_w w f _ _ (WD_ln w h (lnT_p w z).1)
      · rw [rgR_n c z]; exact h
theorem lnJ_up (w : WTp S) (hn : ∀ j, yk S j ≠ 0 → j < n) {j : Nat} (h : yk S j ≠ 0) : j ≤ lnJ S j := by
  unfold lnJ
  split
  · omega
  split
  · omega
  split
  · omega
  split
  · omega
  have q := law_pg w (n := n) (fun j _ k => hn j k) (j := j + 1) (hn j h)
  have := q.2.1
  omega
def fF (D : DR) (k : Nat) (z : Int) : Int := if z = 0 then dkp D k else if z = 1 then (k : Int) else if z = 2 then dC D else (dN D : Int)
noncomputable def lwV (S : TS) (D : DR) (k : Nat) : Int := match dW D with
  | none => dkp D k
  | some t => (run (fF D k) (lawR S t).2.2 []).headD 0
theorem lwV_n {k : Nat} (h : dW D = none) : lwV S D k = dkp D k := by unfold lwV; rw [h]
theorem lwV_s {k t : Nat} {v : Int} (h : dW D = some t) (hv : VL (fF D k) (lawR S t).2.2 v) : lwV S D k = v := by
  unfold lwV; rw [h]
  show (run (fF D k) (lawR S t).2.2 []).headD 0 = v
  rw [hv]; rfl
noncomputable def lieV (S : TS) (D : DR) (k : Nat) : Int := if 0 < dC D then fmd (lwV S D k) (dC D) else 0
theorem x_layK (w : WTp S) (x : XTp S G) (tb : XTb G) (h8 : G 1 8 = 0) (d : XD S D G) (wd : WD S D) : WP (fX4_layKeys 11 G) (fun _ G' => FD G G' ∧ G' 1 8 = 0 ∧ XD S D G' ∧ ∀ i, i < dK D → G' 17 i = lieV S D i) := by
  have wK := wd.2.2.2.2.1
  have wC := wd.1
  unfold fX4_layKeys
  rw [rf_11_0, rf_11_1, rf_12_7, rf_12_8]
  refine w_bd (fun v1 e1 => ?_)
  refine w_lpIH (fun v2 g => ∃ k : Nat, v2 = k ∧ k ≤ dK D ∧ FD G g ∧ g 1 8 = 0 ∧ XD S D g ∧ ∀ i, i < k → g 17 i = lieV S D i) (fun v2 _ => ((dK D : Int) - v2).toNat) (fun rc v2 g hI hr => ?_) v1 G ⟨0, e1, by omega, FD.rf G, h8, d, fun i hi => absurd hi (Nat.not_lt_zero i)⟩ (by omega)
  obtain ⟨k, hv, hk, fg, g8, dg, lg⟩ := hI
  rw [dg.2.2.2.2.1]
  refine w_ite (fun c => ?_) (fun c => ?_)
  · have kK : k < dK D := by omega
    refine w_bh (fun g5 e5 => ?_)
    have h0 : ∀ c, c ≠ 11 → g5 c = g c := fun c hc => by rw [e5, up_ne hc]
    have d5 : XD S D g5 := by
      obtain ⟨d1, d2, d3, d4, d5, d6, d7, d8⟩ := dg
      unfold XD
      rw [h0 12 (by decide), h0 13 (by decide), h0 14 (by decide), h0 15 (by decide), h0 16 (by decide), h0 18 (by decide)]
      refine ⟨d1, d2, ?_, d4, d5, ?_, d7, d8⟩
      · rw [e5, up_at, if_neg (by decide)]; exact d3
      · rw [e5, up_at, if_neg (by decide)]; exact d6
    have F5 : FD G g5 := fg.tr (by rw [e5]; exact FD.up (by omega))
    have k4 : g5 11 4 = (k : Int) := by rw [e5, up_at, if_pos ⟨rfl, rfl⟩]; exact hv
    refine w_rd (by omega) (by omega) (fun v6 e6 => ?_)
    rw [hv, Int.toNat_natCast, (d5.2.2.2.2.2.2.2 k kK).1] at e6
    refine w_bd (fun v7 e7 => ?_)
    refine w_jnP (fun K10 hK => ?_)
    have fin : ∀ (v8 : Int) (g9 : Hp), FD G g9 → g9 1 8 = 0 → XD S D g9 → (∀ i, i < k → g9 17 i = lieV S D i) → v8 = lwV S D k → WP (K10 v8 g9) (fun _ G' => FD G G' ∧ G' 1 8 = 0 ∧ XD S D G' ∧ ∀ i, i < dK D → G' 17 i = lieV S D i) := by
      intro v8 g9 f9 h9 d9 l9 e8
      rw [hK]
      refine w_jnP (fun K12 hK12 => ?_)
      have fin2 : ∀ v11, v11 = lieV S D k → WP (K12 v11) (fun _ G' => FD G G' ∧ G' 1 8 = 0 ∧ XD S D G' ∧ ∀ i, i < dK D → G' 17 i = lieV S D i) := by
        intro v11 e11
        rw [hK12]
        refine w_wr (by omega) (by omega) (fun g13 e13 => ?_)
        rw [hv, Int.toNat_natCast] at e13
        refine w_bd (fun v14 e14 => ?_)
        rw [iadd_id (by omega) (by omega)] at e14
        have h1 : ∀ c, c ≠ 17 → g13 c = g9 c := fun c hc => by rw [e13, up_ne hc]
        refine hr v14 g13 ⟨k + 1, by omega, by omega, f9.tr (by rw [e13]; exact FD.up (by omega)), by rw [h1 1 (by decide)]; exact h9, ?_, fun i hi => ?_⟩ (by omega)
        · unfold XD
          rw [h1 11 (by decide), h1 12 (by decide), h1 13 (by decide), h1 14 (by decide), h1 15 (by decide), h1 16 (by decide), h1 18 (by decide)]
          exact d9
        · rw [e13, up_at]
          by_cases ei : i = k
          · rw [if_pos ⟨rfl, ei⟩, ei]; exact e11
          · rw [if_neg (fun y => ei y.2)]; exact l9 i (by omega)
      rw [d9.1]
      refine w_ite (fun cc => ?_) (fun cc => fin2 0 (by unfold lieV; rw [if_neg cc]))
      rw [x_fmod (by omega) (by omega), bp_s]
      exact fin2 _ (by unfold lieV; rw [if_pos cc, e8])
    have l5 : ∀ i, i < k → g5 17 i = lieV S D i := fun i hi => by rw [h0 17 (by decide)]; exact lg i hi
    have g58 : g5 1 8 = 0 := by rw [h0 1 (by decide)]; exact g8
    have lw := d5.2.2.2.2.2.1
    cases hW : dW D with
    | none =>
      rw [hW] at lw
      refine w_ite (fun _ => ?_) (fun y => absurd lw y)
      exact fin v7 g5 F5 g58 d5 l5 (by rw [lwV_n hW, e7, e6])
    | some t =>
      rw [hW] at lw
      have lw' : g5 11 3 = yp S t := lw
      have y := yp_r w (j := t)
      refine w_ite (fun z => by omega) (fun _ => ?_)
      rw [lw']
      have x5 : XTp S g5 := x.fr (F5.2 3 (by omega)) (F5.1 2 (by decide) (by omega))
      have t5 : XTb g5 := fun i hi => by rw [F5.1 3 (by decide) (by omega)]; exact tb i hi
      refine w_bn (x_goTo w x5 t5 g58) (fun _ g6 q6 => ?_)
      refine w_bn (x_law w q6.2) (fun v17 g7 q7 => ?_)
      obtain ⟨f7, r0, -⟩ := q7
      obtain ⟨y1, y2⟩ := r0 (wd.2.2.2.2.2.2.2.2.2.2 t hW)
      refine w_bd (fun v19 e19 => ?_)
      have d6 := d5.f8 q6.1
      have eF : xF g6 = fF D k := by
        funext z
        have k46 : g6 11 4 = (k : Int) := by rw [q6.1.1 11 (by decide)]; exact k4
        unfold xF fF
        rw [k46, d6.1, d6.2.2.2.1]
        by_cases z0 : z = 0
        · rw [if_pos z0, if_pos z0, if_neg (by omega), if_pos (by omega), Int.toNat_natCast, (d6.2.2.2.2.2.2.2 k kK).1]
        · rw [if_neg z0, if_neg z0]
      rw [eF] at y2
      refine fin v19 g7 (F5.tr (FD.o8 (q6.1.tr f7))) y1.2.2.2 (d6.f8 f7) (fun i hi => ?_) (by rw [e19]; exact (lwV_s hW y2).symm)
      rw [f7.1 17 (by decide), q6.1.1 17 (by decide)]; exact l5 i hi
  · obtain rfl : k = dK D := by omega
    exact w_rt ⟨fg, g8, dg, lg⟩
theorem x_tclr {q : Nat} : WP (fX8_clear q G) (fun _ G' => (∀ c, c ≠ q → G' c = G c) ∧ (∀ i, 3 < i → G' q i = G q i) ∧ G' q 0 = 0 ∧ G' q 1 = 2 ∧ G' q 2 = 0 ∧ G' q 3 = 0) := by
  unfold fX8_clear
  refine w_bh (fun g1 e1 => ?_)
  refine w_bh (fun g2 e2 => ?_)
  refine w_bh (fun g3 e3 => ?_)
  refine w_bh (fun g4 e4 => w_rt ?_)
  subst e1; subst e2; subst e3; subst e4
  refine ⟨fun c hc => by rw [up_ne hc, up_ne hc, up_ne hc, up_ne hc], fun i hi => ?_, ?_, ?_, ?_, ?_⟩
  · rw [up_at, if_neg (by omega), up_at, if_neg (by omega), up_at, if_neg (by omega), up_at, if_neg (by omega)]
  · rw [up_at, if_neg (by omega), up_at, if_neg (by omega), up_at, if_neg (by omega), up_at, if_pos ⟨rfl, rfl⟩]
  · rw [up_at, if_neg (by omega), up_at, if_neg (by omega), up_at, if_pos ⟨rfl, rfl⟩]
  · rw [up_at, if_neg (by omega), up_at, if_pos ⟨rfl, rfl⟩]
  · rw [up_at, if_pos ⟨rfl, rfl⟩]
theorem x_rdRing (w : WTp S) (x : XTp S G) (tb : XTb G) (n1 : n ≤ 1000) (hn : ∀ j, yk S j ≠ 0 → j < n) : WP (fX4_readRing 11 G) (fun r G' => FD G G' ∧ r = (rgR S 1000 0 D0).1 ∧ (r = 0 → XD S (rgR S 1000 0 D0).2 G' ∧ ∀ i, i < dK (rgR S 1000 0 D0).2 → G' 17 i = lieV S (rgR S 1000 0 D0).2 i)) := by
  obtain ⟨R, hR⟩ : ∃ R, rgR S 1000 0 D0 = R := ⟨_, rfl⟩
  rw [hR]
  unfold fX4_readRing
  rw [rf_11_0, rf_11_1]
  refine w_bn x_tclr (fun _ g1 q1 => ?_)
  obtain ⟨q1, -, z0, z1, z2, z3⟩ := q1
  refine w_pz (Or.inl rfl) ?_
  refine w_bh (fun g2 e2 => ?_)
  refine w_bh (fun g3 e3 => ?_)
  refine w_bh (fun g4 e4 => ?_)
  have h0 : ∀ c, c ≠ 11 → g4 c = g1 c := fun c hc => by rw [e4, up_ne hc, e3, up_ne hc, e2, up_ne hc]
  have F4 : FD G g4 := ⟨fun c a b => by rw [h0 c (by omega), q1 c (by omega)], fun k _ => by rw [h0 1 (by decide), q1 1 (by decide)]⟩
  have x4 : XTp S g4 := x.fr (F4.2 3 (by omega)) (F4.1 2 (by decide) (by omega))
  have t4 : XTb g4 := fun i hi => by rw [F4.1 3 (by decide) (by omega)]; exact tb i hi
  refine w_bn (x_restart w x4 t4) (fun _ g5 q5 => ?_)
  have d5 : XD S D0 g5 := by
    refine XD.f8 (G := g4) ?_ q5.1
    refine ⟨by rw [h0 12 (by decide)]; exact z0, by rw [h0 12 (by decide)]; exact z1, ?_, by rw [h0 12 (by decide)]; exact z2, by rw [h0 12 (by decide)]; exact z3, ?_, fun i hi => absurd hi (Nat.not_lt_zero i), fun i hi => absurd hi (Nat.not_lt_zero i)⟩
    · rw [e4, up_at, if_neg (by decide), e3, up_at, if_neg (by decide), e2, up_at, if_pos ⟨rfl, rfl⟩]; rfl
    · rw [e4, up_at, if_neg (by decide), e3, up_at, if_pos ⟨rfl, rfl⟩]; rfl
  refine w_bd (fun v6 e6 => ?_)
  refine w_bd (fun v7 e7 => ?_)
  refine w_lpIIH (fun v8 v9 g => FD G g ∧ ∃ (i f j : Nat) (D : DR), v9 = i ∧ i ≤ 1000 ∧ n ≤ f + j ∧ i ≤ j ∧ WD S D ∧ ((v8 = 1 ∧ XJ S j 0 g ∧ XD S D g ∧ rgR S f j D = R) ∨ (v8 = 0 ∧ g 1 8 = R.1 ∧ R.1 ≠ 0))) (fun _ v9 _ => (1000 - v9).toNat) (fun rc v8 v9 g hI hr => ?_) v6 v7 g5 ⟨F4.tr (FD.o8 q5.1), 0, 1000, 0, D0, e7, by omega, by omega, by omega, WD_0, Or.inl ⟨e6, q5.2, d5, hR⟩⟩ (by omega)
  obtain ⟨fg, i, f, j, D, h9, hi, hf, hij, wd, hc⟩ := hI
  refine w_jnP (fun K12 hK => ?_)
  rcases hc with ⟨c1, c2, c3, c4⟩ | ⟨c1, c2, c3⟩
  · have fin : yk S j = 0 → WP K12 (fun r G' => FD G G' ∧ r = R.1 ∧ (r = 0 → XD S R.2 G' ∧ ∀ i, i < dK R.2 → G' 17 i = lieV S R.2 i)) := by
      intro k0
      rw [rgR_e k0] at c4
      rw [hK]
      refine w_jn ?_
      refine w_ite (fun y => by omega) (fun _ => ?_)
      refine w_bn (x_layK w c2.1 c2.2.1 c2.2.2.2 c3 wd) (fun _ g15 q15 => w_rt ?_)
      rw [← c4]
      exact ⟨fg.tr q15.1, q15.2.1, fun _ => q15.2.2⟩
    refine w_ite (fun a1 => ?_) (fun a1 => ?_)
    · refine w_ite (fun y => by omega) (fun _ => ?_)
      rw [x_kin c2]
      refine w_ite (fun k0 => fin k0) (fun k0 => ?_)
      have jn := hn j k0
      obtain ⟨f', rfl⟩ : ∃ f', f = f' + 1 := ⟨f - 1, by omega⟩
      have ju := lnJ_up w hn k0
      refine w_bn (x_line w c2 c3 wd) (fun v17 g18 q18 => ?_)
      refine w_bd (fun v19 e19 => ?_)
      refine w_bd (fun v20 e20 => ?_)
      rw [iadd_id (by omega) (by omega)] at e20
      rcases q18.2 with ⟨b1, b2, b3, b4⟩ | ⟨b1, b2, b3⟩
      · rw [rgR_s k0 b1] at c4
        exact hr v19 v20 g18 ⟨fg.tr q18.1, i + 1, f', lnJ S j + 1, lnD S D j, by omega, by omega, by omega, by omega, WD_ln w wd (lnT_p w b1).1, Or.inl ⟨by omega, b3, b4, c4⟩⟩ (by omega)
      · rw [rgR_n k0 b1] at c4
        refine hr v19 v20 g18 ⟨fg.tr q18.1, i + 1, f', j + 1, D, by omega, by omega, by omega, by omega, wd, Or.inr ⟨by omega, ?_, ?_⟩⟩ (by omega)
        · rw [← c4]; exact b3
        · rw [← c4]; exact b1
    · refine fin ?_
      by_cases k0 : yk S j = 0
      · exact k0
      · have := hn j k0; omega
  · have fin : WP K12 (fun r G' => FD G G' ∧ r = R.1 ∧ (r = 0 → XD S R.2 G' ∧ ∀ i, i < dK R.2 → G' 17 i = lieV S R.2 i)) := by
      rw [hK]
      refine w_jn ?_
      refine w_ite (fun _ => w_rt ⟨fg, c2, fun y => absurd (c2.symm.trans y) c3⟩) (fun y => absurd c1 y)
    exact w_ite (fun _ => w_ite (fun _ => fin) (fun y => absurd c1 y)) (fun _ => fin)
end RDR
