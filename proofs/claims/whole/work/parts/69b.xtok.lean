/-! THE CLASS at a token -/
section XTOK
variable {S : TS} {G : Hp}
noncomputable def yk (S : TS) (j : Nat) : Int := tkd S (tB S j)
noncomputable def yw (S : TS) (j : Nat) : Int := cwd S (tB S j)
noncomputable def yv (S : TS) (j : Nat) : Int := rvl S (tB S j)
noncomputable def yl (S : TS) (j : Nat) : Int := clt S (tB S j)
noncomputable def yp (S : TS) (j : Nat) : Int := (tB S j : Int)
theorem tB_S (w : WTp S) : ∀ j, (tB S j : Int) ≤ S.1
  | 0 => spE_is.le (by have := w.1; omega)
  | j + 1 => spE_is.le (tEnd_le (tB_S w j)).2
theorem yp_r (w : WTp S) {j : Nat} : 0 ≤ yp S j ∧ yp S j ≤ 1000 := by
  have := tB_S w j
  have := w.2.1
  unfold yp; omega
theorem tkd_r {b : Nat} : 0 ≤ tkd S b ∧ tkd S b ≤ 4 := by
  unfold tkd; split <;> (try split) <;> (try split) <;> (try split) <;> omega
theorem yk_r {j : Nat} : 0 ≤ yk S j ∧ yk S j ≤ 4 := tkd_r
theorem yw_r {j : Nat} : -1 ≤ yw S j ∧ yw S j ≤ 24 := cwd_r
theorem yv_n {j : Nat} (h : yk S j = 3) : 0 ≤ yv S j ∧ yv S j ≤ 9999 := tkd_num h
def FX8 (G G' : Hp) : Prop := (∀ c, c ≠ 1 → G' c = G c) ∧ ∀ k, k < 2 ∨ k = 3 ∨ 8 < k → G' 1 k = G 1 k
theorem FX8.rf (G : Hp) : FX8 G G := ⟨fun _ _ => rfl, fun _ _ => rfl⟩
theorem FX8.tr {G1 G2 : Hp} (h : FX8 G G1) (h' : FX8 G1 G2) : FX8 G G2 := ⟨fun c x => (h'.1 c x).trans (h.1 c x), fun c x => (h'.2 c x).trans (h.2 c x)⟩
theorem FX8.o1 {G' : Hp} (h : FX1 G G') : FX8 G G' := ⟨h.1, fun k hk => h.2 k (by omega) (by omega) (by omega) (by omega) (by omega)⟩
theorem FX8.up {g : Hp} (h : FX8 G g) {v : Int} : FX8 G (up g 1 8 v) := by
  refine ⟨fun c hc => ?_, fun k hk => ?_⟩
  · rw [← h.1 c hc]; funext j; rw [up_at, if_neg (by omega)]
  · rw [← h.2 k hk, up_at, if_neg (by omega)]
def XJ (S : TS) (j : Nat) (F : Int) (G : Hp) : Prop := XTp S G ∧ XTb G ∧ XB S (tB S j) G ∧ G 1 8 = F
theorem XTp.f8 {G' : Hp} (x : XTp S G) (h : FX8 G G') : XTp S G' := x.fr (h.2 3 (by omega)) (h.1 2 (by decide))
theorem XTb.f8 {G' : Hp} (x : XTb G) (h : FX8 G G') : XTb G' := fun i hi => by rw [h.1 3 (by decide)]; exact x i hi
/-- cells of the draft may change -/
theorem XJ.fr {j : Nat} {F : Int} {G' : Hp} (h : XJ S j F G) (h1 : G' 1 = G 1) (h2 : G' 2 = G 2) (h3 : G' 3 = G 3) : XJ S j F G' := by
  refine ⟨h.1.fr (by rw [h1]) h2, fun i hi => by rw [h3]; exact h.2.1 i hi, ?_, by rw [h1]; exact h.2.2.2⟩
  unfold XB; rw [h1]; exact h.2.2.1
theorem x_stp {j : Nat} {F : Int} (w : WTp S) (h : XJ S j F G) : WP (fX7_step 1 G) (fun _ G' => FX8 G G' ∧ XJ S (j + 1) F G') := by
  have te := tEnd_le (tB_S w j)
  refine (x_step w h.1 h.2.1 h.2.2.1.2.1 te.2).mono (fun r G' q => ?_)
  have f := FX8.o1 q.1
  exact ⟨f, h.1.f8 f, h.2.1.f8 f, q.2, (q.1.2 8 (by decide) (by decide) (by decide) (by decide) (by decide)).trans h.2.2.2⟩
theorem x_isSgn {j : Nat} {F : Int} (h : XJ S j F G) (c : Int) : fX7_isSign 1 c G = some (if yk S j = 4 ∧ yv S j = c then 1 else 0, G) := by
  obtain ⟨-, -, ⟨-, -, h4, -, h6⟩, -⟩ := h
  unfold fX7_isSign yk yv
  rw [h4]
  by_cases a : tkd S (tB S j) = 4
  · rw [if_pos a, h6 (Or.inr a)]
    by_cases b : rvl S (tB S j) = c
    · rw [if_pos b, if_pos ⟨a, b⟩]; rfl
    · rw [if_neg b, if_neg (fun q => b q.2)]; rfl
  · rw [if_neg a, if_neg (fun q => a q.1)]; rfl
theorem x_isWrd {j : Nat} {F : Int} (h : XJ S j F G) (a b : Int) : fX7_isWord 1 a b G = some (if yk S j = 2 ∧ a ≤ yw S j ∧ yw S j ≤ b then 1 else 0, G) := by
  obtain ⟨-, -, ⟨-, -, h4, h6, -⟩, -⟩ := h
  unfold fX7_isWord yk yw
  rw [h4]
  by_cases c : tkd S (tB S j) = 2
  · rw [if_pos c, (h6 c).1]
    by_cases d : cwd S (tB S j) < a
    · rw [if_pos d, if_neg (by omega)]; rfl
    · rw [if_neg d]
      by_cases e : b < cwd S (tB S j)
      · rw [if_pos e, if_neg (by omega)]; rfl
      · rw [if_neg e, if_pos ⟨c, by omega, by omega⟩]; rfl
  · rw [if_neg c, if_neg (fun q => c q.1)]; rfl
theorem x_isNam {j : Nat} {F : Int} (h : XJ S j F G) : fX7_isName 1 G = some (if yk S j = 2 ∧ (yw S j < 0 ∨ 22 ≤ yw S j) then 1 else 0, G) := by
  obtain ⟨-, -, ⟨-, -, h4, h6, -⟩, -⟩ := h
  unfold fX7_isName yk yw
  rw [h4]
  by_cases c : tkd S (tB S j) = 2
  · rw [if_pos c, (h6 c).1, jn_s]
    by_cases d : cwd S (tB S j) < 0
    · rw [if_pos d, if_pos ⟨c, Or.inl d⟩]; rfl
    · rw [if_neg d]
      by_cases e : cwd S (tB S j) < 22
      · rw [if_pos e, if_neg (by omega)]; rfl
      · rw [if_neg e, if_pos ⟨c, by omega⟩]; rfl
  · rw [if_neg c, if_neg (fun q => c q.1)]; rfl
theorem x_val {j : Nat} {F : Int} (h : XJ S j F G) (k : yk S j = 3 ∨ yk S j = 4) : G 1 6 = yv S j := h.2.2.1.2.2.2.2 k
theorem x_wix {j : Nat} {F : Int} (h : XJ S j F G) (k : yk S j = 2) : G 1 6 = yw S j ∧ G 1 7 = yl S j := h.2.2.1.2.2.2.1 k
theorem x_kin {j : Nat} {F : Int} (h : XJ S j F G) : G 1 4 = yk S j := h.2.2.1.2.2.1
theorem x_bgn {j : Nat} {F : Int} (h : XJ S j F G) : G 1 5 = yp S j := h.2.2.1.1
theorem XJ.wr {j : Nat} {F v : Int} (h : XJ S j F G) : XJ S j v (up G 1 8 v) := by
  have f : FX8 G (up G 1 8 v) := (FX8.rf G).up
  refine ⟨h.1.f8 f, h.2.1.f8 f, ?_, by rw [up_at, if_pos ⟨rfl, rfl⟩]⟩
  obtain ⟨a, b, c, d, e⟩ := h.2.2.1
  exact ⟨by rw [up_at, if_neg (by omega)]; exact a, by rw [up_at, if_neg (by omega)]; exact b, by rw [up_at, if_neg (by omega)]; exact c, fun z => ⟨by rw [up_at, if_neg (by omega)]; exact (d z).1, by rw [up_at, if_neg (by omega)]; exact (d z).2⟩, fun z => by rw [up_at, if_neg (by omega)]; exact e z⟩
theorem x_wrg {j : Nat} {F k : Int} (w : WTp S) (h : XJ S j F G) (k0 : 0 ≤ k) (k1 : k ≤ 5) : fX7_wrong 1 k G = some (0, if F = 0 then up G 1 8 (k + 16 * yp S j) else G) := by
  unfold fX7_wrong
  have y := yp_r w (j := j)
  rw [h.2.2.2]
  by_cases c : F = 0
  · rw [if_pos c, if_pos c, x_bgn h, imul_id (by omega) (by omega), iadd_id (by omega) (by omega)]; rfl
  · rw [if_neg c, if_neg c]; rfl
theorem x_wrg0 {j : Nat} {k : Int} (w : WTp S) (h : XJ S j 0 G) (k0 : 0 ≤ k) (k1 : k ≤ 5) : WP (fX7_wrong 1 k G) (fun r G' => r = 0 ∧ FX8 G G' ∧ XJ S j (k + 16 * yp S j) G') := by
  rw [x_wrg w h k0 k1, if_pos rfl]
  exact ⟨_, _, rfl, rfl, (FX8.rf G).up, h.wr⟩
theorem x_takeSgn {j : Nat} {F : Int} (w : WTp S) (h : XJ S j F G) (c : Int) : WP (fX7_takeSign 1 c G) (fun r G' => FX8 G G' ∧ (F ≠ 0 → ∃ j', XJ S j' F G') ∧ (F = 0 → (yk S j = 4 ∧ yv S j = c ∧ r = 1 ∧ XJ S (j + 1) 0 G') ∨ (¬ (yk S j = 4 ∧ yv S j = c) ∧ r = 0 ∧ XJ S j (1 + 16 * yp S j) G'))) := by
  unfold fX7_takeSign
  rw [x_isSgn h, bp_s]
  by_cases d : yk S j = 4 ∧ yv S j = c
  · rw [if_pos d, if_neg (by decide)]
    refine w_bn (x_stp w h) (fun _ g q => w_rz (Or.inr rfl) ⟨q.1, fun _ => ⟨j + 1, q.2⟩, fun z => Or.inl ⟨d.1, d.2, rfl, z ▸ q.2⟩⟩)
  · rw [if_neg d, if_pos rfl, x_wrg w h (by decide) (by decide)]
    by_cases z : F = 0
    · subst z
      rw [if_pos rfl, bn_s]
      exact w_rz (Or.inl rfl) ⟨(FX8.rf G).up, fun z => absurd rfl z, fun _ => Or.inr ⟨d, rfl, h.wr⟩⟩
    · rw [if_neg z, bn_s]
      exact w_rz (Or.inl rfl) ⟨FX8.rf G, fun _ => ⟨j, h⟩, fun q => absurd q z⟩
theorem x_takeWrd {j : Nat} (w : WTp S) (h : XJ S j 0 G) (c : Int) : WP (fX7_takeWord 1 c G) (fun r G' => FX8 G G' ∧ ((yk S j = 2 ∧ yw S j = c ∧ r = 1 ∧ XJ S (j + 1) 0 G') ∨ (¬ (yk S j = 2 ∧ yw S j = c) ∧ r = 0 ∧ XJ S j (1 + 16 * yp S j) G'))) := by
  unfold fX7_takeWord
  rw [x_isWrd h, bp_s]
  by_cases d : yk S j = 2 ∧ c ≤ yw S j ∧ yw S j ≤ c
  · rw [if_pos d, if_neg (by decide)]
    exact w_bn (x_stp w h) (fun _ g q => w_rz (Or.inr rfl) ⟨q.1, Or.inl ⟨d.1, by omega, rfl, q.2⟩⟩)
  · rw [if_neg d, if_pos rfl]
    refine w_bn (x_wrg0 w h (by decide) (by decide)) (fun v g q => ?_)
    rw [q.1]
    exact w_rz (Or.inl rfl) ⟨q.2.1, Or.inr ⟨by omega, rfl, q.2.2⟩⟩
theorem x_numW {j : Nat} {lo hi : Int} (w : WTp S) (h : XJ S j 0 G) : WP (fX7_numberWithin 1 lo hi G) (fun r G' => FX8 G G' ∧ ((yk S j = 3 ∧ lo ≤ yv S j ∧ yv S j ≤ hi ∧ r = yv S j ∧ XJ S j 0 G') ∨ (yk S j ≠ 3 ∧ r = -1 ∧ XJ S j (1 + 16 * yp S j) G') ∨ (yk S j = 3 ∧ ¬ (lo ≤ yv S j ∧ yv S j ≤ hi) ∧ r = -1 ∧ XJ S j (4 + 16 * yp S j) G'))) := by
  unfold fX7_numberWithin
  rw [x_kin h]
  refine w_ite (fun c => ?_) (fun c => ?_)
  · rw [x_val h (Or.inl c)]
    refine w_jn ?_
    have k : ¬ (lo ≤ yv S j ∧ yv S j ≤ hi) → WP (bn (fX7_wrong 1 4 G) fun v2 G3 => rt ((-1)) G3) (fun r G' => FX8 G G' ∧ ((yk S j = 3 ∧ lo ≤ yv S j ∧ yv S j ≤ hi ∧ r = yv S j ∧ XJ S j 0 G') ∨ (yk S j ≠ 3 ∧ r = -1 ∧ XJ S j (1 + 16 * yp S j) G') ∨ (yk S j = 3 ∧ ¬ (lo ≤ yv S j ∧ yv S j ≤ hi) ∧ r = -1 ∧ XJ S j (4 + 16 * yp S j) G'))) := by
      intro n
      exact w_bn (x_wrg0 w h (by decide) (by decide)) (fun v g q => w_rt ⟨q.2.1, Or.inr (Or.inr ⟨c, n, rfl, q.2.2⟩)⟩)
    refine w_ite (fun d => k (by omega)) (fun d => ?_)
    refine w_ite (fun e => k (by omega)) (fun e => ?_)
    exact w_rt ⟨FX8.rf G, Or.inl ⟨c, by omega, by omega, rfl, h⟩⟩
  · exact w_bn (x_wrg0 w h (by decide) (by decide)) (fun v g q => w_rt ⟨q.2.1, Or.inr (Or.inl ⟨c, rfl, q.2.2⟩)⟩)
theorem spE_nb (w : WTp S) : ∀ j, spE isB S (tB S j) = tB S j := by
  intro j
  have h : ¬ (((tB S j : Nat) : Int) < S.1 ∧ isB (S.2 (tB S j))) := by
    cases j with
    | zero => exact (spE_is (p := isB) (S := S) (i := 0)).2.2
    | succ j => exact (spE_is (p := isB) (S := S) (i := tEnd S (tB S j))).2.2
  exact spE_eq (Spn.no h)
theorem x_goTo {j : Nat} {F : Int} (w : WTp S) (x : XTp S G) (tb : XTb G) (hF : G 1 8 = F) : WP (fX7_goTo 1 (yp S j) G) (fun _ G' => FX8 G G' ∧ XJ S j F G') := by
  unfold fX7_goTo
  have y := yp_r w (j := j)
  refine w_jn ?_
  rw [if_neg (by omega)]
  refine w_bh (fun u q => ?_)
  have f : FX8 G u := by
    rw [q]
    refine ⟨fun c hc => ?_, fun k hk => ?_⟩
    · funext i; rw [up_at, if_neg (by omega)]
    · rw [up_at, if_neg (by omega)]
  have h2 : u 1 2 = tB S j := by rw [q, up_at, if_pos ⟨rfl, rfl⟩]; rfl
  have h8 : u 1 8 = F := by rw [q, up_at, if_neg (by omega)]; exact hF
  refine w_bn (x_step w (x.f8 f) (tb.f8 f) h2 (tB_S w j)) (fun _ g r => w_rt ?_)
  have f' := f.tr (FX8.o1 r.1)
  have e := r.2
  rw [spE_nb w j] at e
  exact ⟨f', x.f8 f', tb.f8 f', e, (r.1.2 8 (by decide) (by decide) (by decide) (by decide) (by decide)).trans h8⟩
theorem x_restart (w : WTp S) (x : XTp S G) (tb : XTb G) : WP (fX7_restart 1 G) (fun _ G' => FX8 G G' ∧ XJ S 0 0 G') := by
  unfold fX7_restart
  refine w_bh (fun u q => ?_)
  have f : FX8 G u := by rw [q]; exact (FX8.rf G).up
  have h8 : u 1 8 = 0 := by rw [q, up_at, if_pos ⟨rfl, rfl⟩]
  refine w_bn (Q' := fun _ G' => FX8 u G' ∧ XJ S 0 0 G') ?_ (fun _ g r => w_rt ⟨f.tr r.1, r.2⟩)
  unfold fX7_goTo
  refine w_jn ?_
  rw [if_neg (by decide)]
  refine w_bh (fun u1 q1 => ?_)
  have f1 : FX8 u u1 := by
    rw [q1]
    refine ⟨fun c hc => ?_, fun k hk => ?_⟩
    · funext i; rw [up_at, if_neg (by omega)]
    · rw [up_at, if_neg (by omega)]
  have h2 : u1 1 2 = ((0 : Nat) : Int) := by rw [q1, up_at, if_pos ⟨rfl, rfl⟩]; rfl
  have h81 : u1 1 8 = 0 := by rw [q1, up_at, if_neg (by omega)]; exact h8
  have xx := x.f8 (f.tr f1)
  have tt := tb.f8 (f.tr f1)
  refine w_bn (x_step w xx tt h2 w.1) (fun _ g r => w_rt ?_)
  have f' := FX8.o1 r.1
  exact ⟨f1.tr f', xx.f8 f', tt.f8 f', r.2, (r.1.2 8 (by decide) (by decide) (by decide) (by decide) (by decide)).trans h81⟩
end XTOK
