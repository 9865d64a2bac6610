/-! THE REFERENCE at a token: (which token, fault) -/
section MTOK
variable {S : TS} {G : Hp} {n : Nat} {s : Nat × Int}
def MJ (S : TS) (n : Nat) (s : Nat × Int) (G : Hp) : Prop := MCE S n G ∧ MTb G ∧ G 111 7 = s.1 ∧ G 111 8 = s.2 ∧ s.1 ≤ n ∧ n ≤ 1000 ∧ 0 ≤ s.2
def FM8 (G G' : Hp) : Prop := (∀ c, c ≠ 111 → G' c = G c) ∧ ∀ k, k ≠ 7 → k ≠ 8 → G' 111 k = G 111 k
theorem FM8.rf (G : Hp) : FM8 G G := ⟨fun _ _ => rfl, fun _ _ _ => rfl⟩
theorem FM8.tr {G1 G2 : Hp} (h : FM8 G G1) (h' : FM8 G1 G2) : FM8 G G2 := ⟨fun c x => (h'.1 c x).trans (h.1 c x), fun c x y => (h'.2 c x y).trans (h.2 c x y)⟩
theorem FM8.up {g : Hp} (h : FM8 G g) {k : Nat} {v : Int} (hk : k = 7 ∨ k = 8) : FM8 G (up g 111 k v) := by
  refine ⟨fun c hc => ?_, fun j a b => ?_⟩
  · rw [← h.1 c hc]; funext j; rw [up_at, if_neg (by omega)]
  · rw [← h.2 j a b, up_at, if_neg (by omega)]
theorem MCE.fr {G' : Hp} (h : MCE S n G) (h1 : G' 113 = G 113) (h2 : G' 114 = G 114) (h3 : G' 115 = G 115) : MCE S n G' := by
  unfold MCE MC; rw [h1, h2, h3]; exact h
theorem MJ.fr {G' : Hp} (h : MJ S n s G) (h1 : G' 113 = G 113) (h2 : G' 114 = G 114) (h3 : G' 115 = G 115) (h4 : G' 116 = G 116) (h5 : G' 111 7 = G 111 7) (h6 : G' 111 8 = G 111 8) : MJ S n s G' :=
  ⟨h.1.fr h1 h2 h3, fun i hi => by rw [h4]; exact h.2.1 i hi, h5.trans h.2.2.1, h6.trans h.2.2.2.1, h.2.2.2.2⟩
theorem MJ.st {s' : Nat × Int} (h : MJ S n s G) (h1 : s'.1 ≤ n) (h2 : 0 ≤ s'.2) {G' : Hp} (f : FM8 G G') (e1 : G' 111 7 = s'.1) (e2 : G' 111 8 = s'.2) : MJ S n s' G' :=
  ⟨h.1.fr (f.1 _ (by decide)) (f.1 _ (by decide)) (f.1 _ (by decide)), fun i hi => by rw [f.1 116 (by decide)]; exact h.2.1 i hi, e1, e2, h1, h.2.2.2.2.2.1, h2⟩
theorem MCE.nd (h : MCE S n G) : yk S n = 0 := by
  unfold yk tkd; rw [if_pos (by have := h.2.1; omega)]
theorem MJ.lt (h : MJ S n s G) (k : yk S s.1 ≠ 0) : s.1 < n := by
  rcases Nat.lt_or_ge s.1 n with c | c
  · exact c
  · have e : s.1 = n := by have := h.2.2.2.2.1; omega
    rw [e] at k; exact absurd h.1.nd k
theorem MJ.k (h : MJ S n s G) : G 113 s.1 = rso (yk S s.1) := by
  rcases Nat.lt_or_ge s.1 n with c | c
  · exact (h.1.1 s.1 c).2.1
  · have e : s.1 = n := by have := h.2.2.2.2.1; omega
    rw [e, h.1.nd, h.1.2.2.1]; rfl
theorem MJ.p (h : MJ S n s G) : G 114 s.1 = yp S s.1 := by
  rcases Nat.lt_or_ge s.1 n with c | c
  · exact (h.1.1 s.1 c).2.2.1
  · have e : s.1 = n := by have := h.2.2.2.2.1; omega
    rw [e, h.1.2.2.2]; unfold yp; rw [h.1.2.1]
theorem MJ.v (h : MJ S n s G) (k0 : yk S s.1 ≠ 0) (k1 : yk S s.1 ≠ 1) : G 115 s.1 = yv S s.1 := (h.1.1 s.1 (h.lt k0)).2.2.2 k1
theorem MJ.at (h : MJ S n s G) : (G 111 7).toNat = s.1 := by rw [h.2.2.1, Int.toNat_natCast]
theorem MJ.in (h : MJ S n s G) : 0 ≤ G 111 7 ∧ G 111 7 < ((1002 : Nat) : Int) := by
  rw [h.2.2.1]; have := h.2.2.2.2.1; have := h.2.2.2.2.2.1; omega
theorem rso_1 {k : Int} (h : 0 ≤ k ∧ k ≤ 4) : (rso k = 1 ↔ k = 2) ∧ (rso k = 2 ↔ k = 3) ∧ (rso k = 3 ↔ k = 4) ∧ (rso k = 0 ↔ k = 0) := by
  unfold rso; split
  · omega
  · split <;> omega
theorem m_isWrd (h : MJ S n s G) {w : Nat} (hw : w < 26) {z : Int} (hz : z = w) : fX12_isWord 111 z G = some (if s.2 = 0 ∧ yk S s.1 = 2 ∧ yw S s.1 = cixw w then 1 else 0, G) := by
  unfold fX12_isWord
  have i := h.in
  rw [rf_111_4, rf_111_6, rf_111_9, h.2.2.2.1, rd_in i.1 i.2, br_s, h.at, h.k, rd_in i.1 i.2, br_s, rd_in (by omega) (by omega), br_s, h.at, hz, Int.toNat_natCast, h.2.1 w hw]
  have r := (rso_1 (yk_r (S := S) (j := s.1))).1
  by_cases c : s.2 = 0
  · rw [if_pos c]
    by_cases d : yk S s.1 = 2
    · rw [if_pos (r.mpr d), h.v (by omega) (by omega)]
      have t : yv S s.1 = W37 w ↔ yw S s.1 = cixw w := tok_wd (S := S) (b := tB S s.1) d hw
      by_cases e : yw S s.1 = cixw w
      · rw [if_pos (lcmp_z.mpr (t.mpr e)), if_pos ⟨c, d, e⟩]; rfl
      · rw [if_neg (fun q => e (t.mp (lcmp_z.mp q))), if_neg (fun q => e q.2.2)]; rfl
    · rw [if_neg (fun q => d (r.mp q)), if_neg (fun q => d q.2.1)]; rfl
  · rw [if_neg c, if_neg (fun q => c q.1)]; rfl
theorem m_isSgn (h : MJ S n s G) (c : Int) : fX12_isSign 111 c G = some (if s.2 = 0 ∧ yk S s.1 = 4 ∧ yv S s.1 = c then 1 else 0, G) := by
  unfold fX12_isSign
  have i := h.in
  rw [rf_111_4, rf_111_6, h.2.2.2.1, rd_in i.1 i.2, br_s, h.at, h.k, rd_in i.1 i.2, br_s, h.at]
  have r := (rso_1 (yk_r (S := S) (j := s.1))).2.2.1
  by_cases d : s.2 = 0
  · rw [if_pos d]
    by_cases e : yk S s.1 = 4
    · rw [if_pos (r.mpr e), h.v (by omega) (by omega)]
      by_cases f : yv S s.1 = c
      · rw [if_pos (lcmp_z.mpr f), if_pos ⟨d, e, f⟩]; rfl
      · rw [if_neg (fun q => f (lcmp_z.mp q)), if_neg (fun q => f q.2.2)]; rfl
    · rw [if_neg (fun q => e (r.mp q)), if_neg (fun q => e q.2.1)]; rfl
  · rw [if_neg d, if_neg (fun q => d q.1)]; rfl
noncomputable def aWr (S : TS) (k : Int) (s : Nat × Int) : Nat × Int := if s.2 = 0 then (s.1, k + 16 * yp S s.1) else s
theorem aWr_n {k : Int} (h : s.2 ≠ 0) : aWr S k s = s := if_neg h
theorem aWr_z {k : Int} (h : s.2 = 0) : aWr S k s = (s.1, k + 16 * yp S s.1) := if_pos h
theorem m_wrg {k : Int} (w : WTp S) (h : MJ S n s G) (k0 : 1 ≤ k) (k1 : k ≤ 5) : WP (fX12_wrong 111 k G) (fun _ G' => FM8 G G' ∧ MJ S n (aWr S k s) G') := by
  unfold fX12_wrong
  have i := h.in
  have y := yp_r w (j := s.1)
  rw [rf_111_5, h.2.2.2.1]
  refine w_ite (fun c => ?_) (fun c => ?_)
  · refine w_rd i.1 i.2 (fun v e => ?_)
    rw [h.at, h.p] at e
    refine w_bh (fun u q => w_rt ?_)
    rw [e, imul_id (by omega) (by omega), iadd_id (by omega) (by omega)] at q
    have f : FM8 G u := by rw [q]; exact (FM8.rf G).up (by omega)
    refine ⟨f, ?_⟩
    rw [aWr_z c]
    exact MJ.st (s' := (s.1, k + 16 * yp S s.1)) h h.2.2.2.2.1 (by simp only; omega) f (by rw [q, up_at, if_neg (by omega)]; exact h.2.2.1) (by rw [q, up_at, if_pos ⟨rfl, rfl⟩])
  · rw [aWr_n c]; exact w_rt ⟨FM8.rf G, h⟩
theorem m_inc (h : MJ S n s G) (k : yk S s.1 ≠ 0) : FM8 G (up G 111 7 (iadd (G 111 7) 1)) ∧ MJ S n (s.1 + 1, s.2) (up G 111 7 (iadd (G 111 7) 1)) := by
  have l := h.lt k
  have i := h.2.2.2.2.2.1
  have f : FM8 G (up G 111 7 (iadd (G 111 7) 1)) := (FM8.rf G).up (by omega)
  refine ⟨f, MJ.st (s' := (s.1 + 1, s.2)) h (by simp only; omega) h.2.2.2.2.2.2 f ?_ ?_⟩
  · rw [up_at, if_pos ⟨rfl, rfl⟩, h.2.2.1, iadd_id (by omega) (by omega)]; simp only; omega
  · rw [up_at, if_neg (by omega)]; exact h.2.2.2.1
theorem m_inc0 (h : MJ S n s G) : FM8 G (up G 111 7 (iadd (G 111 7) 0)) ∧ MJ S n s (up G 111 7 (iadd (G 111 7) 0)) := by
  have i := h.in
  have f : FM8 G (up G 111 7 (iadd (G 111 7) 0)) := (FM8.rf G).up (by omega)
  refine ⟨f, h.st h.2.2.2.2.1 h.2.2.2.2.2.2 f ?_ ?_⟩
  · rw [up_at, if_pos ⟨rfl, rfl⟩, iadd_id (by omega) (by omega), Int.add_zero]; exact h.2.2.1
  · rw [up_at, if_neg (by omega)]; exact h.2.2.2.1
noncomputable def aSg (S : TS) (c : Int) (s : Nat × Int) : Nat × Int := if s.2 = 0 ∧ yk S s.1 = 4 ∧ yv S s.1 = c then (s.1 + 1, s.2) else aWr S 1 s
noncomputable def aWd (S : TS) (c : Nat) (s : Nat × Int) : Nat × Int := if s.2 = 0 ∧ yk S s.1 = 2 ∧ yw S s.1 = cixw c then (s.1 + 1, s.2) else aWr S 1 s
theorem m_takeSgn (w : WTp S) (h : MJ S n s G) (c : Int) : WP (fX12_takeSign 111 c G) (fun _ G' => FM8 G G' ∧ MJ S n (aSg S c s) G') := by
  unfold fX12_takeSign aSg
  rw [m_isSgn h, bp_s]
  by_cases d : s.2 = 0 ∧ yk S s.1 = 4 ∧ yv S s.1 = c
  · rw [if_pos d, if_neg (by decide), if_pos d]
    refine w_bh (fun u q => w_rt ?_)
    rw [q]; exact m_inc h (by omega)
  · rw [if_neg d, if_pos rfl, if_neg d]
    exact w_bn (m_wrg w h (by decide) (by decide)) (fun _ g q => w_rt q)
theorem m_hasSgn (h : MJ S n s G) (c : Int) : WP (fX12_hasSign 111 c G) (fun r G' => FM8 G G' ∧ ((s.2 = 0 ∧ yk S s.1 = 4 ∧ yv S s.1 = c ∧ r = 1 ∧ MJ S n (s.1 + 1, s.2) G') ∨ (¬ (s.2 = 0 ∧ yk S s.1 = 4 ∧ yv S s.1 = c) ∧ r = 0 ∧ MJ S n s G'))) := by
  unfold fX12_hasSign
  rw [m_isSgn h, bp_s]
  refine w_bd (fun v2 e2 => ?_)
  refine w_jn ?_
  by_cases d : s.2 = 0 ∧ yk S s.1 = 4 ∧ yv S s.1 = c
  · rw [if_pos d] at e2
    rw [if_neg (by omega)]
    refine w_bh (fun u q => w_rz (by omega) ?_)
    have r := m_inc h (by omega)
    rw [← q] at r
    exact ⟨r.1, Or.inl ⟨d.1, d.2.1, d.2.2, e2, r.2⟩⟩
  · rw [if_neg d] at e2
    rw [if_pos e2]
    refine w_bh (fun u q => w_rz (by omega) ?_)
    have r := m_inc0 h
    rw [← q] at r
    exact ⟨r.1, Or.inr ⟨d, e2, r.2⟩⟩
theorem m_hasWrd (h : MJ S n s G) {c : Nat} (hc : c < 26) {z : Int} (hz : z = c) : WP (fX12_hasWord 111 z G) (fun r G' => FM8 G G' ∧ ((s.2 = 0 ∧ yk S s.1 = 2 ∧ yw S s.1 = cixw c ∧ r = 1 ∧ MJ S n (s.1 + 1, s.2) G') ∨ (¬ (s.2 = 0 ∧ yk S s.1 = 2 ∧ yw S s.1 = cixw c) ∧ r = 0 ∧ MJ S n s G'))) := by
  unfold fX12_hasWord
  rw [m_isWrd h hc hz, bp_s]
  refine w_bd (fun v2 e2 => ?_)
  refine w_jn ?_
  by_cases d : s.2 = 0 ∧ yk S s.1 = 2 ∧ yw S s.1 = cixw c
  · rw [if_pos d] at e2
    rw [if_neg (by omega)]
    refine w_bh (fun u q => w_rz (by omega) ?_)
    have r := m_inc h (by omega)
    rw [← q] at r
    exact ⟨r.1, Or.inl ⟨d.1, d.2.1, d.2.2, e2, r.2⟩⟩
  · rw [if_neg d] at e2
    rw [if_pos e2]
    refine w_bh (fun u q => w_rz (by omega) ?_)
    have r := m_inc0 h
    rw [← q] at r
    exact ⟨r.1, Or.inr ⟨d, e2, r.2⟩⟩
theorem m_takeWrd (w : WTp S) (h : MJ S n s G) {c : Nat} (hc : c < 26) {z : Int} (hz : z = c) : WP (fX12_takeWord 111 z G) (fun _ G' => FM8 G G' ∧ MJ S n (aWd S c s) G') := by
  unfold fX12_takeWord aWd
  refine w_bn (m_hasWrd h hc hz) (fun v g q => ?_)
  obtain ⟨f, ⟨a, b, c', d, e⟩ | ⟨a, d, e⟩⟩ := q
  · rw [if_neg (by omega), if_pos ⟨a, b, c'⟩]; exact w_rt ⟨f, e⟩
  · rw [if_neg a, if_pos d]
    exact w_bn (m_wrg w e (by decide) (by decide)) (fun _ g q => w_rt ⟨f.tr q.1, q.2⟩)
/-- taking a number -/
noncomputable def aNu (S : TS) (lo hi : Int) (s : Nat × Int) : (Nat × Int) × Int := if s.2 ≠ 0 then (s, 0) else if yk S s.1 ≠ 3 then ((s.1, 1 + 16 * yp S s.1), 0) else if lo ≤ yv S s.1 ∧ yv S s.1 ≤ hi then ((s.1 + 1, 0), yv S s.1) else ((s.1, 4 + 16 * yp S s.1), 0)
theorem lcmp_lt {a b : Int} : lcmp' a b < 0 ↔ a < b := by
  unfold lcmp'; split
  · omega
  · split <;> omega
theorem lcmp_gt {a b : Int} : 0 < lcmp' a b ↔ b < a := by
  unfold lcmp'; split
  · omega
  · split <;> omega
theorem l2i_id {v : Int} (h1 : -2147483648 ≤ v) (h2 : v ≤ 2147483647) : l2i v = v := w32_id ⟨h1, h2⟩
theorem m_takeNum (w : WTp S) (h : MJ S n s G) {lo hi : Int} : WP (fX12_takeNumber 111 lo hi G) (fun r G' => FM8 G G' ∧ r = (aNu S lo hi s).2 ∧ MJ S n (aNu S lo hi s).1 G') := by
  unfold fX12_takeNumber
  have i := h.in
  have rr := (rso_1 (yk_r (S := S) (j := s.1))).2.1
  rw [rf_111_4, rf_111_6]
  refine w_jn ?_
  refine w_jn ?_
  by_cases c : s.2 = 0
  · refine w_ite (fun _ => ?_) (fun z => absurd (h.2.2.2.1.trans c) z)
    refine w_rd i.1 i.2 (fun v11 e11 => ?_)
    rw [h.at, h.k] at e11
    refine w_ite (fun d => ?_) (fun d => ?_)
    · have k3 : yk S s.1 = 3 := rr.mp (by omega)
      have vn := yv_n k3
      refine w_ite (fun _ => ?_) (fun z => absurd (h.2.2.2.1.trans c) z)
      refine w_rd i.1 i.2 (fun v6 e6 => ?_)
      rw [h.at, h.v (by omega) (by omega)] at e6
      refine w_jn ?_
      have bad : ¬ (lo ≤ yv S s.1 ∧ yv S s.1 ≤ hi) → WP (bn (fX12_wrong 111 4 G) fun _ G8 => if 0 < (G8 111 8) then rt 0 G8 else (bh (up G8 111 7 (iadd (G8 111 7) 1)) fun G3 => br (rd G3 115 1002 (isub (G3 111 7) 1)) fun v4 => rt (l2i v4) G3)) (fun r G' => FM8 G G' ∧ r = (aNu S lo hi s).2 ∧ MJ S n (aNu S lo hi s).1 G') := by
        intro nb
        have ea : aNu S lo hi s = ((s.1, 4 + 16 * yp S s.1), 0) := by unfold aNu; rw [if_neg (by omega), if_neg (by omega), if_neg nb]
        refine w_bn (m_wrg w h (by decide) (by decide)) (fun _ g q => ?_)
        obtain ⟨f, m⟩ := q
        rw [aWr_z c] at m
        have y := yp_r w (j := s.1)
        have e8 := m.2.2.2.1
        simp only at e8
        rw [if_pos (by omega)]
        exact w_rt ⟨f, by rw [ea], by rw [ea]; exact m⟩
      refine w_ite (fun z => bad (by rw [lcmp_lt] at z; omega)) (fun z => ?_)
      refine w_rd i.1 i.2 (fun v10 e10 => ?_)
      rw [h.at, h.v (by omega) (by omega)] at e10
      refine w_ite (fun z' => bad (by rw [lcmp_gt] at z'; omega)) (fun z' => ?_)
      rw [lcmp_lt] at z
      rw [lcmp_gt] at z'
      have ea : aNu S lo hi s = ((s.1 + 1, 0), yv S s.1) := by unfold aNu; rw [if_neg (by omega), if_neg (by omega), if_pos ⟨by omega, by omega⟩]
      refine w_ite (fun y => by have := h.2.2.2.1; omega) (fun _ => ?_)
      have r := m_inc h (by omega)
      refine w_bh (fun u q => ?_)
      rw [← q] at r
      rw [c] at r
      have u7 : u 111 7 = ((s.1 + 1 : Nat) : Int) := r.2.2.2.1
      have l := h.lt (by omega)
      have b := h.2.2.2.2.2.1
      rw [u7, isub_id (by omega) (by omega)]
      refine w_rd (by omega) (by omega) (fun v4 e4 => w_rt ?_)
      have e5 : (((s.1 + 1 : Nat) : Int) - 1).toNat = s.1 := by omega
      rw [e5, r.1.1 115 (by decide), h.v (by omega) (by omega)] at e4
      rw [e4, l2i_id (by omega) (by omega), ea]
      exact ⟨r.1, rfl, r.2⟩
    · have k3 : yk S s.1 ≠ 3 := fun z => d (by rw [e11]; exact rr.mpr z)
      have ea : aNu S lo hi s = ((s.1, 1 + 16 * yp S s.1), 0) := by unfold aNu; rw [if_neg (by omega), if_pos k3]
      refine w_bn (m_wrg w h (by decide) (by decide)) (fun _ g q => ?_)
      obtain ⟨f, m⟩ := q
      rw [aWr_z c] at m
      have y := yp_r w (j := s.1)
      have e8 := m.2.2.2.1
      simp only at e8
      refine w_ite (fun _ => ?_) (fun z => by omega)
      exact w_rt ⟨f, by rw [ea], by rw [ea]; exact m⟩
  · have e8 := h.2.2.2.1
    have p := h.2.2.2.2.2.2
    have ea : aNu S lo hi s = (s, 0) := by unfold aNu; rw [if_pos c]
    refine w_ite (fun z => by omega) (fun _ => ?_)
    refine w_ite (fun z => by omega) (fun _ => ?_)
    refine w_ite (fun _ => ?_) (fun z => by omega)
    exact w_rt ⟨FM8.rf G, by rw [ea], by rw [ea]; exact h⟩
/-- which word it is -/
def aIs (S : TS) (s : Nat × Int) (w : Nat) : Prop := s.2 = 0 ∧ yk S s.1 = 2 ∧ yw S s.1 = cixw w
theorem m_wordHere (h : MJ S n s G) {a b : Nat} (hab : a + b ≤ 26) {za zb : Int} (ha : za = a) (hb : zb = b) : WP (fX12_wordHere 111 za zb G) (fun r _ => (r = -1 ∧ ∀ k, k < b → ¬ aIs S s (a + k)) ∨ ∃ k, k < b ∧ r = (k : Int) ∧ aIs S s (a + k)) := by
  unfold fX12_wordHere
  refine w_bd (fun v1 e1 => ?_)
  refine w_bd (fun v2 e2 => ?_)
  refine w_lpII (fun r v => ∃ i : Nat, i ≤ b ∧ v = i ∧ ((r = -1 ∧ ∀ k, k < i → ¬ aIs S s (a + k)) ∨ ∃ k, k < i ∧ r = (k : Int) ∧ aIs S s (a + k))) (fun _ v => (b - v).toNat) (fun rc r v hI hr => ?_) v1 v2 ⟨0, by omega, e2, Or.inl ⟨e1, fun k hk => by omega⟩⟩ (by omega)
  obtain ⟨i, ib, hv, hd⟩ := hI
  refine w_ite (fun c => ?_) (fun c => ?_)
  · rw [hv, ha, iadd_id (by omega) (by omega), m_isWrd h (w := a + i) (by omega) (by omega), bp_s]
    refine w_jn ?_
    by_cases d : s.2 = 0 ∧ yk S s.1 = 2 ∧ yw S s.1 = cixw (a + i)
    · rw [if_pos d, if_neg (by decide)]
      refine w_bd (fun v9 e9 => ?_)
      refine w_bd (fun v10 e10 => ?_)
      rw [iadd_id (by omega) (by omega)] at e10
      exact hr v9 v10 ⟨i + 1, by omega, by omega, Or.inr ⟨i, by omega, e9, d⟩⟩ (by omega)
    · rw [if_neg d, if_pos rfl]
      refine w_bd (fun v9 e9 => ?_)
      refine w_bd (fun v10 e10 => ?_)
      rw [iadd_id (by omega) (by omega)] at e10
      refine hr v9 v10 ⟨i + 1, by omega, by omega, ?_⟩ (by omega)
      rcases hd with ⟨x, y⟩ | ⟨k, x, y, z⟩
      · refine Or.inl ⟨by omega, fun k hk => ?_⟩
        by_cases e : k = i
        · rw [e]; exact d
        · exact y k (by omega)
      · exact Or.inr ⟨k, by omega, by omega, z⟩
  · obtain rfl : i = b := by omega
    exact w_rt hd
end MTOK
