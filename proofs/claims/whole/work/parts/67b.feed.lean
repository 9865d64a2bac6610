/-! THE TAPE: feed, both sides -/
section TPF
variable {G : Hp} {T : TT}
theorem xt_put {S : TS} {v : Int} {g : Hp} (w : WTp S) (x : XTp S g) (c : v = 10 ∨ (32 ≤ v ∧ v ≤ 126)) (hl : S.1 < 1000) : XTp (tp1 S v) (up (up g 2 (g 1 3).toNat v) 1 3 (iadd ((up g 2 (g 1 3).toNat v) 1 3) 1)) := by
  have w1 := w.1
  have e : (up g 2 (g 1 3).toNat v) 1 3 = g 1 3 := by rw [up_at, if_neg (by omega)]
  have es : tp1 S v = (S.1 + 1, fun i => if i = S.1.toNat then v else S.2 i) := by unfold tp1; rw [if_pos ⟨c, hl⟩]
  rw [es, e, x.1, iadd_id (by omega) (by omega)]
  refine ⟨?_, fun i hi => ?_⟩
  · rw [up_at, if_pos ⟨rfl, rfl⟩]
  · simp only at hi ⊢
    rw [up_at, if_neg (by omega), up_at]
    by_cases h : i = S.1.toNat
    · rw [if_pos ⟨rfl, h⟩, if_pos h]
    · rw [if_neg (by omega), if_neg h]; exact x.2 i (by omega)
theorem xt_out {S : TS} {v : Int} {g : Hp} (x : XTp S g) (c : ¬ ((v = 10 ∨ (32 ≤ v ∧ v ≤ 126)) ∧ S.1 < 1000)) : XTp (tp1 S v) g := by
  unfold tp1; rw [if_neg c]; exact x
def xtF (G G' : Hp) : Prop := (∀ c, c ≠ 1 → c ≠ 2 → G' c = G c) ∧ ∀ k, k ≠ 3 → G' 1 k = G 1 k
theorem xtF.put {g : Hp} (h : xtF G g) (n : Nat) (v u : Int) : xtF G (up (up g 2 n v) 1 3 u) := by
  refine ⟨fun c h1 h2 => ?_, fun j hj => ?_⟩
  · rw [← h.1 c h1 h2]; funext j; rw [up_at, if_neg (by omega), up_at, if_neg (by omega)]
  · rw [← h.2 j hj, up_at, if_neg (by omega), up_at, if_neg (by omega)]
theorem xtF.rf (G : Hp) : xtF G G := ⟨fun _ _ _ => rfl, fun _ _ => rfl⟩
theorem xtF.tr {G1 G2 : Hp} (h : xtF G G1) (h' : xtF G1 G2) : xtF G G2 := ⟨fun c x y => (h'.1 c x y).trans (h.1 c x y), fun j x => (h'.2 j x).trans (h.2 j x)⟩
theorem xt_add {S : TS} (w : WTp S) (x : XTp S G) (a : Int) : WP (fX7_addBytes 1 a G) (fun _ G' => XTp (tpF a 8 S) G' ∧ xtF G G') := by
  unfold fX7_addBytes
  rw [rf_1_0]
  refine w_bd (fun v1 e1 => ?_)
  subst e1
  refine w_lpIH (fun v g => ∃ (n : Nat) (S' : TS), n ≤ 8 ∧ v = 8 * (n : Int) - 8 ∧ WTp S' ∧ XTp S' g ∧ xtF G g ∧ tpF a n S' = tpF a 8 S) (fun v _ => (v + 8).toNat) (fun rc v g hI hr => ?_) 56 G ⟨8, S, by omega, by omega, w, x, xtF.rf G, rfl⟩ (by decide)
  obtain ⟨n, S', hn, hv, ws, xs, fs, es⟩ := hI
  refine w_ite (fun h => ?_) (fun h => ?_)
  · obtain rfl : n = 0 := by omega
    exact w_rt ⟨by rw [← es]; exact xs, fs⟩
  obtain ⟨m, rfl⟩ : ∃ m, n = m + 1 := ⟨n - 1, by omega⟩
  have hv' : v = 8 * (m : Int) := by omega
  refine w_bd (fun v5 e5 => ?_)
  have b5 := and255 (l2i (lushr a v))
  rw [← e5] at b5
  have e5' : v5 = tby a (8 * (m : Int)) := by rw [e5, hv']; rfl
  have kk : ∀ g', XTp (tp1 S' v5) g' → xtF G g' → WP (bd (iadd v (-8)) fun v11 => rc v11 g') (fun _ G' => XTp (tpF a 8 S) G' ∧ xtF G G') := by
    intro g' x' f'
    refine w_bd (fun v11 e => ?_)
    rw [iadd_id (by omega) (by omega)] at e
    exact hr v11 g' ⟨m, tp1 S' v5, by omega, by omega, tp1_w ws, x', f', by rw [← es, e5']; rfl⟩ (by omega)
  have w1 := ws.1
  have xl := xs.1
  refine w_jn ?_
  refine w_jn ?_
  refine w_ite (fun c1 => ?_) (fun c1 => ?_)
  · refine w_bd (fun v8 e8 => ?_)
    refine w_jn ?_
    refine w_ite (fun h0 => absurd (h0.symm.trans e8) (by decide)) (fun _ => ?_)
    refine w_ite (fun hl => ?_) (fun hl => kk g (xt_out xs (by omega)) fs)
    rw [i2c_is b5.1 b5.2]
    refine w_wrC (by omega) (by omega) (by omega) (by omega) (fun g1 q1 => ?_)
    refine w_bh (fun g2 q2 => ?_)
    subst q2; subst q1
    exact kk _ (xt_put ws xs (by omega) (by omega)) (fs.put _ _ _)
  refine w_jn ?_
  refine w_ite (fun c2 => ?_) (fun c2 => ?_)
  · refine w_bd (fun v8 e8 => ?_)
    refine w_jn ?_
    refine w_ite (fun _ => ?_) (fun h0 => absurd e8 h0)
    exact kk g (xt_out xs (by omega)) fs
  refine w_ite (fun c3 => ?_) (fun c3 => ?_)
  · refine w_bd (fun v8 e8 => ?_)
    refine w_jn ?_
    refine w_ite (fun _ => ?_) (fun h0 => absurd e8 h0)
    exact kk g (xt_out xs (by omega)) fs
  · refine w_bd (fun v8 e8 => ?_)
    refine w_jn ?_
    refine w_ite (fun h0 => absurd (h0.symm.trans e8) (by decide)) (fun _ => ?_)
    refine w_ite (fun hl => ?_) (fun hl => kk g (xt_out xs (by omega)) fs)
    rw [i2c_is b5.1 b5.2]
    refine w_wrC (by omega) (by omega) (by omega) (by omega) (fun g1 q1 => ?_)
    refine w_bh (fun g2 q2 => ?_)
    subst q2; subst q1
    exact kk _ (xt_put ws xs (by omega) (by omega)) (fs.put _ _ _)
theorem mt_put {S : TS} {v : Int} {g : Hp} (w : WTp S) (x : MTp S g) (c : v = 10 ∨ (32 ≤ v ∧ v ≤ 126)) (hl : S.1 < 1000) : MTp (tp1 S v) (up (up g 112 (g 111 2).toNat v) 111 2 (iadd ((up g 112 (g 111 2).toNat v) 111 2) 1)) := by
  have w1 := w.1
  have e : (up g 112 (g 111 2).toNat v) 111 2 = g 111 2 := by rw [up_at, if_neg (by omega)]
  have es : tp1 S v = (S.1 + 1, fun i => if i = S.1.toNat then v else S.2 i) := by unfold tp1; rw [if_pos ⟨c, hl⟩]
  rw [es, e, x.1, iadd_id (by omega) (by omega)]
  refine ⟨?_, fun i hi => ?_⟩
  · rw [up_at, if_pos ⟨rfl, rfl⟩]
  · simp only at hi ⊢
    rw [up_at, if_neg (by omega), up_at]
    by_cases h : i = S.1.toNat
    · rw [if_pos ⟨rfl, h⟩, if_pos h]
    · rw [if_neg (by omega), if_neg h]; exact x.2 i (by omega)
theorem mt_out {S : TS} {v : Int} {g : Hp} (x : MTp S g) (c : ¬ ((v = 10 ∨ (32 ≤ v ∧ v ≤ 126)) ∧ S.1 < 1000)) : MTp (tp1 S v) g := by
  unfold tp1; rw [if_neg c]; exact x
def mtF (G G' : Hp) : Prop := (∀ c, c ≠ 111 → c ≠ 112 → G' c = G c) ∧ ∀ k, k ≠ 2 → G' 111 k = G 111 k
theorem mtF.put {g : Hp} (h : mtF G g) (n : Nat) (v u : Int) : mtF G (up (up g 112 n v) 111 2 u) := by
  refine ⟨fun c h1 h2 => ?_, fun j hj => ?_⟩
  · rw [← h.1 c h1 h2]; funext j; rw [up_at, if_neg (by omega), up_at, if_neg (by omega)]
  · rw [← h.2 j hj, up_at, if_neg (by omega), up_at, if_neg (by omega)]
theorem mtF.rf (G : Hp) : mtF G G := ⟨fun _ _ _ => rfl, fun _ _ => rfl⟩
theorem mtF.tr {G1 G2 : Hp} (h : mtF G G1) (h' : mtF G1 G2) : mtF G G2 := ⟨fun c x y => (h'.1 c x y).trans (h.1 c x y), fun j x => (h'.2 j x).trans (h.2 j x)⟩
theorem mt_add {S : TS} (w : WTp S) (x : MTp S G) (a : Int) : WP (fX12_lay 111 a G) (fun _ G' => MTp (tpF a 8 S) G' ∧ mtF G G') := by
  unfold fX12_lay
  rw [rf_111_1]
  refine w_bd (fun v1 e1 => ?_)
  subst e1
  refine w_lpIH (fun v g => ∃ (n : Nat) (S' : TS), n ≤ 8 ∧ v = 8 * (n : Int) - 8 ∧ WTp S' ∧ MTp S' g ∧ mtF G g ∧ tpF a n S' = tpF a 8 S) (fun v _ => (v + 8).toNat) (fun rc v g hI hr => ?_) 56 G ⟨8, S, by omega, by omega, w, x, mtF.rf G, rfl⟩ (by decide)
  obtain ⟨n, S', hn, hv, ws, xs, fs, es⟩ := hI
  refine w_ite (fun h => ?_) (fun h => ?_)
  · obtain rfl : n = 0 := by omega
    exact w_rt ⟨by rw [← es]; exact xs, fs⟩
  obtain ⟨m, rfl⟩ : ∃ m, n = m + 1 := ⟨n - 1, by omega⟩
  have hv' : v = 8 * (m : Int) := by omega
  refine w_bd (fun v5 e5 => ?_)
  have b5 := and255 (l2i (lshr a v))
  rw [← e5] at b5
  have e5' : v5 = tby a (8 * (m : Int)) := by rw [e5, hv']; exact tby_s (by omega)
  have kk : ∀ g', MTp (tp1 S' v5) g' → mtF G g' → WP (bd (iadd v (-8)) fun v11 => rc v11 g') (fun _ G' => MTp (tpF a 8 S) G' ∧ mtF G G') := by
    intro g' x' f'
    refine w_bd (fun v11 e => ?_)
    rw [iadd_id (by omega) (by omega)] at e
    exact hr v11 g' ⟨m, tp1 S' v5, by omega, by omega, tp1_w ws, x', f', by rw [← es, e5']; rfl⟩ (by omega)
  have w1 := ws.1
  have xl := xs.1
  refine w_jn ?_
  refine w_jn ?_
  refine w_ite (fun c1 => ?_) (fun c1 => ?_)
  · refine w_ite (fun hl => ?_) (fun hl => kk g (mt_out xs (by omega)) fs)
    refine w_wr (by omega) (by omega) (fun g1 q1 => ?_)
    refine w_bh (fun g2 q2 => ?_)
    subst q2; subst q1
    exact kk _ (mt_put ws xs (by omega) (by omega)) (fs.put _ _ _)
  refine w_ite (fun c2 => ?_) (fun c2 => ?_)
  · exact kk g (mt_out xs (by omega)) fs
  refine w_ite (fun c3 => ?_) (fun c3 => ?_)
  · exact kk g (mt_out xs (by omega)) fs
  · refine w_ite (fun hl => ?_) (fun hl => kk g (mt_out xs (by omega)) fs)
    refine w_wr (by omega) (by omega) (fun g1 q1 => ?_)
    refine w_bh (fun g2 q2 => ?_)
    subst q2; subst q1
    exact kk _ (mt_put ws xs (by omega) (by omega)) (fs.put _ _ _)
end TPF
