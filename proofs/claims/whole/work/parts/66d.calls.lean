section WLDS
variable {b : Nat} {a : AS} {G : Hp} {T : TT}
/-! deeds as calls -/
def nW (W : WLD) (a' : AS) (ok : Bool) : WLD := (a', if ok then pU W.2.1 W.1 else W.2.1, W.2.2)
theorem OW_n {W : WLD} (o_ : OW T W) {a' : AS} (h : WA T a') (ok : Bool) : OW T (nW W a' ok) := by
  obtain ⟨w, hw, wu, hS, hk, wm, u16⟩ := o_
  cases ok
  · exact ⟨w, h, wu, hS, hk, wm, u16⟩
  · exact ⟨w, h, WU_p wu u16 hw, hS, hk, wm, pU_le _ _ u16⟩
/-- frames of a deed, class's side -/
def FDC (G G' : Hp) : Prop := ∀ c, c ≠ 27 → c ≠ 28 → c ≠ 29 → c ≠ 30 → c ≠ 32 → c ≠ 44 → ¬ (46 ≤ c ∧ c < 80) → G' c = G c
theorem CW.d {W : WLD} {G' : Hp} {a' : AS} {ok : Bool} (h : CW T W G) (f : FDC G G') (x : XA 27 a' G') (p : ∃ nx, XP nx (nW W a' ok).2.1 G') : CW T (nW W a' ok) G' := by
  obtain ⟨h1, h2, -, h4, h5, h6⟩ := h
  have at_ : ∀ {c : Nat}, (c < 27 ∨ (32 < c ∧ c < 44) ∨ 80 ≤ c) → G' c = G c := fun hc => f _ (by omega) (by omega) (by omega) (by omega) (by omega) (by omega) (by omega)
  exact ⟨h1.fr (at_ (by omega)) (at_ (by omega)) (at_ (by omega)) (at_ (by omega)), x, p, h4.fr (fun c x y => at_ (by omega)), h5.fr (fun c x y => at_ (by omega)), h6.fr (fun c x => at_ (by omega))⟩
/-- a deed whose answer is yes or no -/
theorem SX_b {W : WLD} {f d : Hp → RT} {D : Int × AS} (h01 : D.1 = 0 ∨ D.1 = 1) (hf : ∀ G, f G = bn (fX3_lay 44 27 G) fun _ G1 => bn (d G1) fun v2 G3 => bn (fX3_keepIf 44 v2 G3) fun v4 G5 => rz v4 G5) (hd : ∀ G, XT T G → XA 27 W.1 G → WP (d G) (fun r G' => FRD G G' ∧ r = D.1 ∧ XA 27 D.2 G')) : SX T f W (nW W D.2 (decide (D.1 = 1))) (fun r => r = D.1) := by
  intro G cw
  have cw0 := cw
  obtain ⟨hT, hA, ⟨nx, hP⟩, -⟩ := cw
  rw [hf]
  have n17 := hP.2.1
  refine w_bn (x_lay hA hP) (fun _ G1 q1 => ?_)
  have c1 : ∀ c, ¬ (46 ≤ c ∧ c < 80) → G1 c = G c := fun c z => q1.1 c (by omega) (by omega)
  have P1 : XP nx W.2.1 G1 := hP.fr (fun c x y _ => q1.1 c x y)
  refine w_bn (hd G1 (hT.fr (c1 4 (by omega)) (c1 5 (by omega)) (c1 6 (by omega)) (c1 9 (by omega))) (hA.fr (c1 27 (by omega)) (c1 28 (by omega)))) (fun v2 G3 q3 => ?_)
  have P3 : XP nx W.2.1 G3 := P1.fr (fun c _ _ z => q3.1 c (by omega) (by omega) (by omega) (by omega) (by omega))
  have X3 : XA (46 + 2 * nx) W.1 G3 := q1.2.same (fun c z => q3.1 c (by omega) (by omega) (by omega) (by omega) (by omega))
  refine w_bn (x_keepIf (by rw [q3.2.1]; exact h01) P3 X3) (fun v4 G5 q5 => ?_)
  have e4 : v4 = D.1 := q5.1.trans q3.2.1
  have FF : FDC G G5 := fun c x1 x2 x3 x4 x5 x6 x7 => by rw [q5.2.1 c x6, q3.1 c x1 x2 x3 x4 x5, c1 c x7]
  refine w_rz (by rw [e4]; exact h01) ⟨e4, CW.d cw0 FF (q3.2.2.fr (q5.2.1 27 (by decide)) (q5.2.1 28 (by decide))) ?_, fun c x => FF c (by omega) (by omega) (by omega) (by omega) (by omega) (by omega) (by omega), fun c x => FF c (by omega) (by omega) (by omega) (by omega) (by omega) (by omega) (by omega)⟩
  rcases q5.2.2 with z | z
  · refine ⟨nx, ?_⟩
    have : decide (D.1 = 1) = false := by rw [decide_eq_false_iff_not]; have := q3.2.1; omega
    rw [this]; exact z.2
  · have : decide (D.1 = 1) = true := by rw [decide_eq_true_iff]; have := q3.2.1; omega
    rw [this]; exact z.2
/-- a deed whose answer is a number, or none -/
theorem SX_n {W : WLD} {f d : Hp → RT} {D : Int × AS} (hf : ∀ G, f G = bn (fX3_lay 44 27 G) fun _ G1 => bn (d G1) fun v2 G3 => bn (fX3_keepUnlessNone 44 v2 G3) fun v4 G5 => rt v4 G5) (hd : ∀ G, XT T G → XA 27 W.1 G → WP (d G) (fun r G' => FRD G G' ∧ r = D.1 ∧ XA 27 D.2 G')) : SX T f W (nW W D.2 (decide (D.1 ≠ -1))) (fun r => r = D.1) := by
  intro G cw
  have cw0 := cw
  obtain ⟨hT, hA, ⟨nx, hP⟩, -⟩ := cw
  rw [hf]
  have n17 := hP.2.1
  refine w_bn (x_lay hA hP) (fun _ G1 q1 => ?_)
  have c1 : ∀ c, ¬ (46 ≤ c ∧ c < 80) → G1 c = G c := fun c z => q1.1 c (by omega) (by omega)
  have P1 : XP nx W.2.1 G1 := hP.fr (fun c x y _ => q1.1 c x y)
  refine w_bn (hd G1 (hT.fr (c1 4 (by omega)) (c1 5 (by omega)) (c1 6 (by omega)) (c1 9 (by omega))) (hA.fr (c1 27 (by omega)) (c1 28 (by omega)))) (fun v2 G3 q3 => ?_)
  have P3 : XP nx W.2.1 G3 := P1.fr (fun c _ _ z => q3.1 c (by omega) (by omega) (by omega) (by omega) (by omega))
  have X3 : XA (46 + 2 * nx) W.1 G3 := q1.2.same (fun c z => q3.1 c (by omega) (by omega) (by omega) (by omega) (by omega))
  refine w_bn (x_keepN P3 X3) (fun v4 G5 q5 => ?_)
  have e4 : v4 = D.1 := q5.1.trans q3.2.1
  have FF : FDC G G5 := fun c x1 x2 x3 x4 x5 x6 x7 => by rw [q5.2.1 c x6, q3.1 c x1 x2 x3 x4 x5, c1 c x7]
  refine w_rt ⟨e4, CW.d cw0 FF (q3.2.2.fr (q5.2.1 27 (by decide)) (q5.2.1 28 (by decide))) ?_, fun c x => FF c (by omega) (by omega) (by omega) (by omega) (by omega) (by omega) (by omega), fun c x => FF c (by omega) (by omega) (by omega) (by omega) (by omega) (by omega) (by omega)⟩
  rcases q5.2.2 with z | z
  · refine ⟨nx, ?_⟩
    have : decide (D.1 ≠ -1) = false := by rw [decide_eq_false_iff_not]; have := q3.2.1; omega
    rw [this]; exact z.2
  · have : decide (D.1 ≠ -1) = true := by rw [decide_eq_true_iff]; have := q3.2.1; omega
    rw [this]; exact z.2
/-- frames of a deed, the reference's side -/
def FDM (G G' : Hp) : Prop := (∀ c, c ≠ 111 → c ≠ 123 → c ≠ 126 → c ≠ 127 → G' c = G c) ∧ (∀ k, k ≠ 0 → k ≠ 18 → k ≠ 21 → G' 111 k = G 111 k) ∧ (∀ i, 130 ≤ i → i < 775 → G' 123 i = G 123 i)
theorem RW.d {W : WLD} {G' : Hp} {a' : AS} {ok : Bool} (o_ : OW T W) (h : RW T W G) (f : FDM G G') (x : MR 0 a' G') (p : MP (nW W a' ok).2.1 G') : RW T (nW W a' ok) G' := by
  obtain ⟨h1, h2, -, h4, h5, h6⟩ := h
  have at_ : ∀ {c : Nat}, (c < 111 ∨ (111 < c ∧ c < 123) ∨ c = 124 ∨ c = 125) → G' c = G c := fun hc => f.1 _ (by omega) (by omega) (by omega) (by omega)
  refine ⟨h1.fr (at_ (by omega)) (at_ (by omega)), x, p, ?_, h5.fr (at_ (by omega)), MM.fr o_.2.2.2.2.2.1 h6 (at_ (by omega)) (fun i _ y => f.2.2 i (by omega) y)⟩
  have s8 := o_.2.2.2.1.1.2
  refine ⟨by rw [f.2.2 _ (by omega) (by omega)]; exact h4.1, fun i i1 i2 => ?_⟩
  have i2 : i < W.2.2.1.1 := i2
  have q := h4.2 i i1 i2
  rw [f.2.2 _ (by omega) (by omega), f.2.2 _ (by omega) (by omega), f.2.2 _ (by omega) (by omega)]; exact q
def SMK (T : TT) (W' : WLD) (A : Int → Prop) (G : Hp) (r : Int) (G' : Hp) : Prop := A r ∧ RW T W' G' ∧ (∀ c, c < 111 → G' c = G c) ∧ G' 112 = G 112 ∧ G' 116 = G 116 ∧ G' 117 = G 117 ∧ G' 119 = G 119 ∧ G' 111 2 = G 111 2
theorem SMK_d {W : WLD} {G' : Hp} {a' : AS} {ok : Bool} {A : Int → Prop} {r : Int} (o_ : OW T W) (h : RW T W G) (hr : A r) (f : FDM G G') (x : MR 0 a' G') (p : MP (nW W a' ok).2.1 G') : SMK T (nW W a' ok) A G r G' :=
  ⟨hr, RW.d o_ h f x p, fun c z => f.1 c (by omega) (by omega) (by omega) (by omega), f.1 112 (by decide) (by decide) (by decide) (by decide), f.1 116 (by decide) (by decide) (by decide) (by decide), f.1 117 (by decide) (by decide) (by decide) (by decide), f.1 119 (by decide) (by decide) (by decide) (by decide), f.2.1 2 (by decide) (by decide) (by decide)⟩
/-- after laying aside -/
theorem m_pre {W : WLD} {K : Hp → RT} {Q : Int → Hp → Prop} (h : RW T W G) (k : ∀ G2, FDM G G2 → MT T G2 → MR 0 W.1 G2 → MP W.2.1 G2 → MR 3410 W.1 G2 → WP (K G2) Q) : WP (bh (up G 111 0 0) fun G1 => bn (fX12_aside 111 G1) fun _ G2 => K G2) Q := by
  obtain ⟨h1, h2, h3, h4, h5, h6⟩ := h
  rw [bh_s]
  refine w_bn (m_aside (h2.fr (up_ne (by decide)))) (fun _ G2 q => ?_)
  have cc : ∀ c, c ≠ 111 → c ≠ 123 → G2 c = G c := fun c x y => by rw [q.1 c y, up_ne x]
  have ci : ∀ i, i < 3410 → G2 123 i = G 123 i := fun i x => by rw [q.2.1 i x, up_ne (by decide)]
  have c1 : ∀ k, k ≠ 0 → G2 111 k = G 111 k := fun k x => by rw [q.1 111 (by decide), up_at, if_neg (fun z => x z.2)]
  exact k G2 ⟨fun c x y _ _ => cc c x y, fun k x _ _ => c1 k x, fun i _ y => ci i (by omega)⟩ (h1.fr (cc 117 (by decide) (by decide)) (cc 125 (by decide) (by decide))) (h2.lo2 (fun i _ y => ci i (by omega))) (h3.fr (c1 18 (by decide)) (fun i _ y => ci i (by omega))) q.2.2
theorem FDM.m {G2 G5 : Hp} (h : FDM G G2) (f : FRM 0 G2 G5) : FDM G G5 := ⟨fun c x y z u => by rw [f.1 c x y z u, h.1 c x y z u], fun k x y z => by rw [f.2.1 k z, h.2.1 k x y z], fun i x y => by rw [f.2.2 i (by omega), h.2.2 i x y]⟩
theorem m_fin {W : WLD} {G2 G5 : Hp} {D : Int × AS} (o_ : OW T W) (h : RW T W G) (f2 : FDM G G2) (p2 : MP W.2.1 G2) (x2 : MR 3410 W.1 G2) (f5 : FRM 0 G2 G5) (x5 : MR 0 D.2 G5) (hD : D.1 = -1 ∨ 0 ≤ D.1) : WP (bd D.1 fun v7 => bn (fX12_done 111 v7 G5) fun v8 G9 => rt v8 G9) (SMK T (nW W D.2 (decide (D.1 ≠ -1))) (fun r => r = D.1) G) := by
  rw [bd_s]
  refine w_bn (m_done (a := W.1) (p2.fr (f5.2.1 18 (by decide)) (fun i x _ => f5.2.2 i (by omega))) (x2.ou (q := 0) (by omega) f5.2.2)) (fun v8 G9 q => ?_)
  refine w_rt (SMK_d o_ h q.1 ?_ (x5.lo2 (fun i _ y => q.2.2.2.1 i (by omega))) ?_)
  · have f := f2.m f5
    exact ⟨fun c x y z u => by rw [q.2.1 c x y, f.1 c x y z u], fun k x y z => by rw [q.2.2.1 k y, f.2.1 k x y z], fun i x y => by rw [q.2.2.2.1 i y, f.2.2 i x y]⟩
  · rcases q.2.2.2.2 with z | z
    · have : decide (D.1 ≠ -1) = false := by rw [decide_eq_false_iff_not]; omega
      rw [this]; exact z.2
    · have : decide (D.1 ≠ -1) = true := by rw [decide_eq_true_iff]; omega
      rw [this]; exact z.2
theorem m_finB {W : WLD} {G2 G5 : Hp} {D : Int × AS} {v : Int} (o_ : OW T W) (h : RW T W G) (f2 : FDM G G2) (p2 : MP W.2.1 G2) (x2 : MR 3410 W.1 G2) (f5 : FRM 0 G2 G5) (x5 : MR 0 D.2 G5) (hv : v = D.1) (hD : D.1 = 0 ∨ D.1 = 1) : WP (if v = 0 then rz 0 G5 else bn (fX12_keeps 111 G5) fun _ G6 => rz 1 G6) (SMK T (nW W D.2 (decide (D.1 = 1))) (fun r => r = D.1) G) := by
  have f := f2.m f5
  have p5 := p2.fr (f5.2.1 18 (by decide)) (fun i x _ => f5.2.2 i (by omega))
  refine w_ite (fun c => ?_) (fun c => ?_)
  · refine w_rz (Or.inl rfl) (SMK_d o_ h (by omega) f x5 ?_)
    have : decide (D.1 = 1) = false := by rw [decide_eq_false_iff_not]; omega
    rw [this]; exact p5
  · refine w_bn (m_keeps (a := W.1) p5 (x2.ou (q := 0) (by omega) f5.2.2)) (fun _ G6 q => ?_)
    refine w_rz (Or.inr rfl) (SMK_d o_ h (by omega) ⟨fun c x y z u => by rw [q.1 c x y, f.1 c x y z u], fun k x y z => by rw [q.2.1 k y, f.2.1 k x y z], fun i x y => by rw [q.2.2.1 i y, f.2.2 i x y]⟩ (x5.lo2 (fun i _ y => q.2.2.1 i (by omega))) ?_)
    have : decide (D.1 = 1) = true := by rw [decide_eq_true_iff]; omega
    rw [this]; exact q.2.2.2
theorem xd_start {W : WLD} (o_ : OW T W) {n : Int} : SX T (fun G => fX11_start 0 n G) W (nW W (eBeg T W.1 n).2 (decide ((eBeg T W.1 n).1 = 1))) (fun r => r = (eBeg T W.1 n).1) := by
  refine SX_b (d := fun G => fX0_doBegin 31 n G) (by unfold eBeg; split <;> simp) (fun G => rfl) (fun G hT hA => ?_)
  exact x_doBegin o_.1 o_.2.1 hA hT
theorem md_start {W : WLD} (o_ : OW T W) {n : Int} : SM T (fun G => fX12_start 111 n G) W (nW W (eBeg T W.1 n).2 (decide ((eBeg T W.1 n).1 = 1))) (fun r => r = (eBeg T W.1 n).1) := by
  intro G rw_
  show WP (fX12_start 111 n G) _
  unfold fX12_start
  refine m_pre rw_ (fun G2 f2 M2 R2 p2 x2 => ?_)
  have h01 : (eBeg T W.1 n).1 = 0 ∨ (eBeg T W.1 n).1 = 1 := by unfold eBeg; split <;> simp
  rw [m_isNode M2, bp_s]
  by_cases c : 0 ≤ n ∧ n < tN T
  · rw [if_pos c, if_neg (by decide)]
    refine w_bn (m_begun (b := 0) o_.1 o_.2.1 (by omega) R2 M2 c.1 c.2) (fun v G5 q => ?_)
    exact m_finB o_ rw_ f2 p2 x2 q.1 q.2.2 q.2.1 h01
  · rw [if_neg c, if_pos rfl]
    have e : eBeg T W.1 n = (0, W.1) := by
      unfold eBeg; rw [if_neg (fun z => by have := o_.2.1.inr (n := n); omega)]
    have := m_finB (D := eBeg T W.1 n) (v := 0) (G5 := G2) o_ rw_ f2 p2 x2 (FRM.rf 0 G2) (by rw [e]; exact R2) (by rw [e]) h01
    rw [if_pos rfl] at this; exact this

theorem xd_leave {W : WLD} (o_ : OW T W) {n : Int} : SX T (fun G => fX11_leave 0 n G) W (nW W (eLeave W.1 n).2 (decide ((eLeave W.1 n).1 = 1))) (fun r => r = (eLeave W.1 n).1) := by
  refine SX_b (d := fun G => fX0_doLeave 31 n G) (by unfold eLeave; split <;> simp) (fun G => rfl) (fun G hT hA => ?_)
  exact x_doLeave o_.1 o_.2.1 hA hT
theorem md_leave {W : WLD} (o_ : OW T W) {n : Int} : SM T (fun G => fX12_leave 111 n G) W (nW W (eLeave W.1 n).2 (decide ((eLeave W.1 n).1 = 1))) (fun r => r = (eLeave W.1 n).1) := by
  intro G rw_
  show WP (fX12_leave 111 n G) _
  unfold fX12_leave
  refine m_pre rw_ (fun G2 f2 M2 R2 p2 x2 => ?_)
  have h01 : (eLeave W.1 n).1 = 0 ∨ (eLeave W.1 n).1 = 1 := by unfold eLeave; split <;> simp
  rw [m_isNode M2, bp_s]
  by_cases c : 0 ≤ n ∧ n < tN T
  · rw [if_pos c, if_neg (by decide)]
    refine w_bn (m_left (b := 0) o_.1 o_.2.1 (by omega) R2 M2 c.1 c.2) (fun v G5 q => ?_)
    exact m_finB o_ rw_ f2 p2 x2 q.1 q.2.2 q.2.1 h01
  · rw [if_neg c, if_pos rfl]
    have e : eLeave W.1 n = (0, W.1) := by
      unfold eLeave; rw [if_neg (fun z => by have := o_.2.1.inr (n := n); omega)]
    have := m_finB (D := eLeave W.1 n) (v := 0) (G5 := G2) o_ rw_ f2 p2 x2 (FRM.rf 0 G2) (by rw [e]; exact R2) (by rw [e]) h01
    rw [if_pos rfl] at this; exact this

theorem xd_fix {W : WLD} (o_ : OW T W) {n i : Int} : SX T (fun G => fX11_fix 0 n i G) W (nW W (eFix T W.1 n i).2 (decide ((eFix T W.1 n i).1 = 1))) (fun r => r = (eFix T W.1 n i).1) := by
  refine SX_b (d := fun G => fX0_doFix 31 n i G) (by unfold eFix; split <;> simp) (fun G => rfl) (fun G hT hA => ?_)
  exact x_doFix o_.1 o_.2.1 hA hT
theorem md_fix {W : WLD} (o_ : OW T W) {n i : Int} : SM T (fun G => fX12_fix 111 n i G) W (nW W (eFix T W.1 n i).2 (decide ((eFix T W.1 n i).1 = 1))) (fun r => r = (eFix T W.1 n i).1) := by
  intro G rw_
  show WP (fX12_fix 111 n i G) _
  unfold fX12_fix
  refine m_pre rw_ (fun G2 f2 M2 R2 p2 x2 => ?_)
  have h01 : (eFix T W.1 n i).1 = 0 ∨ (eFix T W.1 n i).1 = 1 := by unfold eFix; split <;> simp
  rw [m_isNode M2, bp_s]
  by_cases c : 0 ≤ n ∧ n < tN T
  · rw [if_pos c, if_neg (by decide)]
    refine w_bn (m_fixed (b := 0) o_.1 o_.2.1 (by omega) R2 M2 c.2) (fun v G5 q => ?_)
    exact m_finB o_ rw_ f2 p2 x2 q.1 q.2.2 q.2.1 h01
  · rw [if_neg c, if_pos rfl]
    have e : eFix T W.1 n i = (0, W.1) := by
      unfold eFix; rw [if_neg (fun z => by have := o_.2.1.inr (n := n); omega)]
    have := m_finB (D := eFix T W.1 n i) (v := 0) (G5 := G2) o_ rw_ f2 p2 x2 (FRM.rf 0 G2) (by rw [e]; exact R2) (by rw [e]) h01
    rw [if_pos rfl] at this; exact this

theorem xd_fail {W : WLD} (o_ : OW T W) {n : Int} : SX T (fun G => fX11_fail 0 n G) W (nW W (eFail W.1 n).2 (decide ((eFail W.1 n).1 ≠ -1))) (fun r => r = (eFail W.1 n).1) := by
  refine SX_n (d := fun G => fX0_doFail 31 n G) (fun G => rfl) (fun G hT hA => ?_)
  exact x_doFail o_.1 o_.2.1 hA hT
theorem md_fail {W : WLD} (o_ : OW T W) {n : Int} : SM T (fun G => fX12_fail 111 n G) W (nW W (eFail W.1 n).2 (decide ((eFail W.1 n).1 ≠ -1))) (fun r => r = (eFail W.1 n).1) := by
  intro G rw_
  show WP (fX12_fail 111 n G) _
  unfold fX12_fail
  refine m_pre rw_ (fun G2 f2 M2 R2 p2 x2 => ?_)
  have w := o_.1
  have hw := o_.2.1
  have hD : (eFail W.1 n).1 = -1 ∨ 0 ≤ (eFail W.1 n).1 := by
    have := pcn_r (bits (fun k => hld W.1 k = n) 10)
    unfold eFail; split
    · right; exact this.1
    · left; rfl
  rw [m_isNode M2, bp_s, jn_s]
  by_cases c : 0 ≤ n ∧ n < tN T
  · rw [if_pos c, if_neg (by decide)]
    refine w_bn (m_failed (b := 0) o_.1 o_.2.1 (by omega) R2 M2 c.1 c.2) (fun v G5 q => ?_)
    rw [q.2.1]
    exact m_fin o_ rw_ f2 p2 x2 q.1 q.2.2 hD
  · rw [if_neg c, if_pos rfl]
    have e : eFail W.1 n = (-1, W.1) := by
      unfold eFail; rw [if_neg (fun z => by have := o_.2.1.inr (n := n); omega)]
    have := m_fin (D := eFail W.1 n) (G5 := G2) o_ rw_ f2 p2 x2 (FRM.rf 0 G2) (by rw [e]; exact R2) hD
    rw [e] at this ⊢; exact this

theorem xd_tidy {W : WLD} (o_ : OW T W) {n : Int} : SX T (fun G => fX11_tidy 0 n G) W (nW W (eTidy T W.1 n).2 (decide ((eTidy T W.1 n).1 ≠ -1))) (fun r => r = (eTidy T W.1 n).1) := by
  refine SX_n (d := fun G => fX0_doTidy 31 n G) (fun G => rfl) (fun G hT hA => ?_)
  exact x_doTidy o_.1 o_.2.1 hA hT
theorem md_tidy {W : WLD} (o_ : OW T W) {n : Int} : SM T (fun G => fX12_tidy 111 n G) W (nW W (eTidy T W.1 n).2 (decide ((eTidy T W.1 n).1 ≠ -1))) (fun r => r = (eTidy T W.1 n).1) := by
  intro G rw_
  show WP (fX12_tidy 111 n G) _
  unfold fX12_tidy
  refine m_pre rw_ (fun G2 f2 M2 R2 p2 x2 => ?_)
  have w := o_.1
  have hw := o_.2.1
  have hD : (eTidy T W.1 n).1 = -1 ∨ 0 ≤ (eTidy T W.1 n).1 := by
    unfold eTidy; split
    · rename_i z; right; exact (mnt_r hw w z.2).1
    · left; rfl
  rw [m_isNode M2, bp_s, jn_s]
  by_cases c : 0 ≤ n ∧ n < tN T
  · rw [if_pos c, if_neg (by decide)]
    refine w_bn (m_tidied (b := 0) o_.1 o_.2.1 (by omega) R2 M2 c.1 c.2) (fun v G5 q => ?_)
    rw [q.2.1]
    exact m_fin o_ rw_ f2 p2 x2 q.1 q.2.2 hD
  · rw [if_neg c, if_pos rfl]
    have e : eTidy T W.1 n = (-1, W.1) := by
      unfold eTidy; rw [if_neg (fun z => by have := o_.2.1.inr (n := n); omega)]
    have := m_fin (D := eTidy T W.1 n) (G5 := G2) o_ rw_ f2 p2 x2 (FRM.rf 0 G2) (by rw [e]; exact R2) hD
    rw [e] at this ⊢; exact this

theorem xd_flush {W : WLD} (o_ : OW T W) {n : Int} : SX T (fun G => fX11_flush 0 n G) W (nW W (eFlush W.1 n).2 (decide ((eFlush W.1 n).1 ≠ -1))) (fun r => r = (eFlush W.1 n).1) := by
  refine SX_n (d := fun G => fX0_doFlush 31 n G) (fun G => rfl) (fun G hT hA => ?_)
  exact x_eFlush o_.1 o_.2.1 hA
theorem md_flush {W : WLD} (o_ : OW T W) {n : Int} : SM T (fun G => fX12_flush 111 n G) W (nW W (eFlush W.1 n).2 (decide ((eFlush W.1 n).1 ≠ -1))) (fun r => r = (eFlush W.1 n).1) := by
  intro G rw_
  show WP (fX12_flush 111 n G) _
  unfold fX12_flush
  refine m_pre rw_ (fun G2 f2 M2 R2 p2 x2 => ?_)
  have w := o_.1
  have hw := o_.2.1
  have hD : (eFlush W.1 n).1 = -1 ∨ 0 ≤ (eFlush W.1 n).1 := by
    have := gFl_r hw n
    unfold eFlush; split
    · right; exact this.1
    · left; rfl
  rw [m_isNode M2, bp_s, jn_s]
  by_cases c : 0 ≤ n ∧ n < tN T
  · rw [if_pos c, if_neg (by decide)]
    refine w_bn (m_eFlush (b := 0) o_.1 o_.2.1 (by omega) R2 M2 c.2) (fun v G5 q => ?_)
    rw [q.2.1]
    exact m_fin o_ rw_ f2 p2 x2 q.1 q.2.2 hD
  · rw [if_neg c, if_pos rfl]
    have e : eFlush W.1 n = (-1, W.1) := by
      unfold eFlush; rw [if_neg (fun z => by have := o_.2.1.inr (n := n); omega)]
    have := m_fin (D := eFlush W.1 n) (G5 := G2) o_ rw_ f2 p2 x2 (FRM.rf 0 G2) (by rw [e]; exact R2) hD
    rw [e] at this ⊢; exact this

theorem xd_hand {W : WLD} (o_ : OW T W) {n : Int} : SX T (fun G => fX11_hand 0 n G) W (nW W (eHand T W.1 n).2 (decide ((eHand T W.1 n).1 ≠ -1))) (fun r => r = (eHand T W.1 n).1) := by
  refine SX_n (d := fun G => fX0_doHand 31 n G) (fun G => rfl) (fun G hT hA => ?_)
  exact x_doHand o_.1 o_.2.1 hA hT
theorem md_hand {W : WLD} (o_ : OW T W) {n : Int} : SM T (fun G => fX12_hand 111 n G) W (nW W (eHand T W.1 n).2 (decide ((eHand T W.1 n).1 ≠ -1))) (fun r => r = (eHand T W.1 n).1) := by
  intro G rw_
  show WP (fX12_hand 111 n G) _
  unfold fX12_hand
  refine m_pre rw_ (fun G2 f2 M2 R2 p2 x2 => ?_)
  have w := o_.1
  have hw := o_.2.1
  have hD : (eHand T W.1 n).1 = -1 ∨ 0 ≤ (eHand T W.1 n).1 := by
    unfold eHand; split
    · right; exact (cnt_r _ _).1
    · left; rfl
  rw [m_isNode M2, bp_s, jn_s]
  by_cases c : 0 ≤ n ∧ n < tN T
  · rw [if_pos c, if_neg (by decide)]
    refine w_bn (m_handed (b := 0) o_.1 o_.2.1 (by omega) R2 M2 c.2) (fun v G5 q => ?_)
    rw [q.2.1]
    exact m_fin o_ rw_ f2 p2 x2 q.1 q.2.2 hD
  · rw [if_neg c, if_pos rfl]
    have e : eHand T W.1 n = (-1, W.1) := by
      unfold eHand; rw [if_neg (fun z => by have := o_.2.1.inr (n := n); omega)]
    have := m_fin (D := eHand T W.1 n) (G5 := G2) o_ rw_ f2 p2 x2 (FRM.rf 0 G2) (by rw [e]; exact R2) hD
    rw [e] at this ⊢; exact this

theorem mnS_0 {n : Int} (i : Nat) : 0 ≤ (mnS T a n i).1 := by
  induction i with
  | zero => rw [mnS]; exact Int.le_refl _
  | succ i ih => rw [mnS]; show 0 ≤ (mnS T a n i).1 + (if _ then 0 else 1); split <;> omega
theorem xd_mend {W : WLD} (o_ : OW T W) {n : Int} : SX T (fun G => fX11_mend 0 n G) W (nW W (eMend T W.1 n).2 (decide ((eMend T W.1 n).1 ≠ -1))) (fun r => r = (eMend T W.1 n).1) := by
  refine SX_n (d := fun G => fX0_doMend 31 n G) (fun G => rfl) (fun G hT hA => ?_)
  exact x_doMend o_.1 o_.2.1 hA hT
theorem md_mend {W : WLD} (o_ : OW T W) {n : Int} : SM T (fun G => fX12_mend 111 n G) W (nW W (eMend T W.1 n).2 (decide ((eMend T W.1 n).1 ≠ -1))) (fun r => r = (eMend T W.1 n).1) := by
  intro G rw_
  show WP (fX12_mend 111 n G) _
  unfold fX12_mend
  refine m_pre rw_ (fun G2 f2 M2 R2 p2 x2 => ?_)
  have w := o_.1
  have hw := o_.2.1
  have hD : (eMend T W.1 n).1 = -1 ∨ 0 ≤ (eMend T W.1 n).1 := by
    unfold eMend; split
    · right; exact mnS_0 8
    · left; rfl
  rw [m_isNode M2, bp_s, jn_s]
  by_cases c : 0 ≤ n ∧ n < tN T
  · rw [if_pos c, if_neg (by decide)]
    refine w_bn (m_mended (b := 0) o_.1 o_.2.1 (by omega) R2 M2 c.2) (fun v G5 q => ?_)
    rw [q.2.1]
    exact m_fin o_ rw_ f2 p2 x2 q.1 q.2.2 hD
  · rw [if_neg c, if_pos rfl]
    have e : eMend T W.1 n = (-1, W.1) := by
      unfold eMend; rw [if_neg (fun z => by have := o_.2.1.inr (n := n); omega)]
    have := m_fin (D := eMend T W.1 n) (G5 := G2) o_ rw_ f2 p2 x2 (FRM.rf 0 G2) (by rw [e]; exact R2) hD
    rw [e] at this ⊢; exact this

theorem xd_put {W : WLD} (o_ : OW T W) {k y : Int} : SX T (fun G => fX11_put 0 k y G) W (nW W (ePut T W.1 k y).2 (decide ((ePut T W.1 k y).1 ≠ -1))) (fun r => r = (ePut T W.1 k y).1) := by
  refine SX_n (d := fun G => fX0_doPut 31 k y G) (fun G => rfl) (fun G hT hA => ?_)
  exact x_doPut o_.1 o_.2.1 hA hT
theorem md_put {W : WLD} (o_ : OW T W) {k y : Int} : SM T (fun G => fX12_put 111 k y G) W (nW W (ePut T W.1 k y).2 (decide ((ePut T W.1 k y).1 ≠ -1))) (fun r => r = (ePut T W.1 k y).1) := by
  intro G rw_
  show WP (fX12_put 111 k y G) _
  unfold fX12_put
  refine m_pre rw_ (fun G2 f2 M2 R2 p2 x2 => ?_)
  have yi := o_.2.1.inr (n := y)
  have hD : (ePut T W.1 k y).1 = -1 ∨ 0 ≤ (ePut T W.1 k y).1 := by
    have := (skf_r o_.2.1 o_.1 y (tl T k)).1
    unfold ePut; split
    · rename_i z; right; show 0 ≤ skf T W.1 y (tl T k); omega
    · left; rfl
  have non : ¬ (0 ≤ k ∧ k < tK T ∧ 0 ≤ y ∧ y < tN T) → WP (bd (-1) fun v7 => bn (fX12_done 111 v7 G2) fun v8 G9 => rt v8 G9) (SMK T (nW W (ePut T W.1 k y).2 (decide ((ePut T W.1 k y).1 ≠ -1))) (fun r => r = (ePut T W.1 k y).1) G) := fun c => by
    have e : ePut T W.1 k y = (-1, W.1) := by unfold ePut; rw [if_neg (fun z => by omega)]
    have := m_fin (D := ePut T W.1 k y) (G5 := G2) o_ rw_ f2 p2 x2 (FRM.rf 0 G2) (by rw [e]; exact R2) hD
    rw [e] at this ⊢; exact this
  rw [m_isKey M2, bp_s, jn_s, jn_s, m_isNode M2, bp_s]
  by_cases c : 0 ≤ k ∧ k < tK T
  · rw [if_pos c, if_neg (by decide)]
    by_cases d : 0 ≤ y ∧ y < tN T
    · rw [if_pos d, if_neg (by decide)]
      refine w_bn (m_putBy (b := 0) o_.1 o_.2.1 (by omega) R2 M2 c.1 c.2 d.2) (fun v G5 q => ?_)
      rw [q.2.1]
      exact m_fin o_ rw_ f2 p2 x2 q.1 q.2.2 hD
    · rw [if_neg d, if_pos rfl]; exact non (by omega)
  · rw [if_neg c, if_pos rfl]; exact non (by omega)
theorem md_join {W : WLD} (o_ : OW T W) {k y : Int} : SM T (fun G => fX12_join 111 k y G) W (nW W (eJoin T W.1 k y).2 (decide ((eJoin T W.1 k y).1 ≠ -1))) (fun r => r = (eJoin T W.1 k y).1) := by
  intro G rw_
  show WP (fX12_join 111 k y G) _
  unfold fX12_join
  refine m_pre rw_ (fun G2 f2 M2 R2 p2 x2 => ?_)
  have yi := o_.2.1.inr (n := y)
  have hD : (eJoin T W.1 k y).1 = -1 ∨ 0 ≤ (eJoin T W.1 k y).1 := by
    have := (skf_r o_.2.1 o_.1 y (tp T k)).1
    unfold eJoin; split
    · rename_i z; right; show 0 ≤ skf T W.1 y (tp T k); omega
    · left; rfl
  have non : ¬ (0 ≤ k ∧ k < tN T ∧ 0 ≤ y ∧ y < tN T) → WP (bd (-1) fun v7 => bn (fX12_done 111 v7 G2) fun v8 G9 => rt v8 G9) (SMK T (nW W (eJoin T W.1 k y).2 (decide ((eJoin T W.1 k y).1 ≠ -1))) (fun r => r = (eJoin T W.1 k y).1) G) := fun c => by
    have e : eJoin T W.1 k y = (-1, W.1) := by unfold eJoin; rw [if_neg (fun z => by omega)]
    have := m_fin (D := eJoin T W.1 k y) (G5 := G2) o_ rw_ f2 p2 x2 (FRM.rf 0 G2) (by rw [e]; exact R2) hD
    rw [e] at this ⊢; exact this
  rw [m_isNode M2, bp_s, jn_s, jn_s, m_isNode M2, bp_s]
  by_cases c : 0 ≤ k ∧ k < tN T
  · rw [if_pos c, if_neg (by decide)]
    by_cases d : 0 ≤ y ∧ y < tN T
    · rw [if_pos d, if_neg (by decide)]
      refine w_bn (m_joined (b := 0) o_.1 o_.2.1 (by omega) R2 M2 c.1 c.2 d.2) (fun v G5 q => ?_)
      rw [q.2.1]
      exact m_fin o_ rw_ f2 p2 x2 q.1 q.2.2 hD
    · rw [if_neg d, if_pos rfl]; exact non (by omega)
  · rw [if_neg c, if_pos rfl]; exact non (by omega)
theorem xd_join {W : WLD} (o_ : OW T W) {k y : Int} : SX T (fun G => fX11_join 0 k y G) W (nW W (eJoin T W.1 k y).2 (decide ((eJoin T W.1 k y).1 ≠ -1))) (fun r => r = (eJoin T W.1 k y).1) := by
  have b := SX_b (T := T) (W := W) (f := fun G => bn (fX3_lay 44 27 G) fun _ G1 => bn (fX0_doJoin 31 k y G1) fun v2 G3 => bn (fX3_keepIf 44 v2 G3) fun v4 G5 => rz v4 G5) (d := fun G => fX0_doJoin 31 k y G) (D := (if (eJoin T W.1 k y).1 = -1 then 0 else 1, (eJoin T W.1 k y).2)) (by show (if _ then _ else _) = (0 : Int) ∨ (if _ then _ else _) = (1 : Int); split <;> simp) (fun G => rfl) (fun G hT hA => x_doJoin o_.1 o_.2.1 hA hT)
  intro G cw
  obtain ⟨r, G5, e1, e2, e3, e4, e5⟩ := b G cw
  have ed : decide ((if (eJoin T W.1 k y).1 = -1 then (0 : Int) else 1) = 1) = decide ((eJoin T W.1 k y).1 ≠ -1) := by
    by_cases z : (eJoin T W.1 k y).1 = -1
    · rw [if_pos z]; simp [z]
    · rw [if_neg z]; simp [z]
  rw [show (if (eJoin T W.1 k y).1 = -1 then (0 : Int) else 1, (eJoin T W.1 k y).2).1 = (if (eJoin T W.1 k y).1 = -1 then (0 : Int) else 1) from rfl, ed] at e3
  have hx : XA 27 (eJoin T W.1 k y).2 G5 := e3.2.1
  have key : fX11_join 0 k y G = (if r = 0 then rt (-1) G5 else bp (fX6_listAt 27 k 0 G5) fun v6 => rt v6 G5) := by
    show (bn (fX3_lay 44 27 G) fun _ G1 => bn (fX0_doJoin 31 k y G1) fun v2 G3 => bn (fX3_keepIf 44 v2 G3) fun v4 G5 => if v4 = 0 then (rt ((-1)) G5) else (bp (fX6_listAt 27 k 0 G5) fun v6 => rt v6 G5)) = _
    revert e1
    show (bn (fX3_lay 44 27 G) fun _ G1 => bn (fX0_doJoin 31 k y G1) fun v2 G3 => bn (fX3_keepIf 44 v2 G3) fun v4 G5 => rz v4 G5) = some (r, G5) → _
    cases h1 : fX3_lay 44 27 G with
    | none => intro h; cases h
    | some p1 =>
      show (bn (fX0_doJoin 31 k y p1.2) fun v2 G3 => bn (fX3_keepIf 44 v2 G3) fun v4 G5 => rz v4 G5) = some (r, G5) → (bn (fX0_doJoin 31 k y p1.2) fun v2 G3 => bn (fX3_keepIf 44 v2 G3) fun v4 G5 => if v4 = 0 then (rt ((-1)) G5) else (bp (fX6_listAt 27 k 0 G5) fun v6 => rt v6 G5)) = _
      cases h2 : fX0_doJoin 31 k y p1.2 with
      | none => intro h; cases h
      | some p2 =>
        show (bn (fX3_keepIf 44 p2.1 p2.2) fun v4 G5 => rz v4 G5) = some (r, G5) → (bn (fX3_keepIf 44 p2.1 p2.2) fun v4 G5 => if v4 = 0 then (rt ((-1)) G5) else (bp (fX6_listAt 27 k 0 G5) fun v6 => rt v6 G5)) = _
        cases h3 : fX3_keepIf 44 p2.1 p2.2 with
        | none => intro h; cases h
        | some p3 =>
          show rz p3.1 p3.2 = some (r, G5) → (if p3.1 = 0 then (rt ((-1)) p3.2) else (bp (fX6_listAt 27 k 0 p3.2) fun v6 => rt v6 p3.2)) = _
          unfold rz
          split
          · intro h; cases h; rfl
          · intro h; cases h
  show WP (fX11_join 0 k y G) _
  rw [key, x_listAt hx, bp_s]
  have er : r = if (eJoin T W.1 k y).1 = -1 then 0 else 1 := e2
  by_cases z : (eJoin T W.1 k y).1 = -1
  · rw [if_pos z] at er
    rw [if_pos er]
    exact w_rt ⟨z.symm, e3, e4, e5⟩
  · rw [if_neg z] at er
    rw [if_neg (by omega)]
    refine w_rt ⟨?_, e3, e4, e5⟩
    have w := o_.1
    have hw := o_.2.1
    have sr := (skf_r hw w y (tp T k)).1
    unfold eJoin at z ⊢
    split at z
    · rename_i c
      rw [if_pos c]
      show lst (dLs (dIn W.1 k) k (nls T W.1 k (skf T W.1 y (tp T k)))) k 0 = skf T W.1 y (tp T k)
      have wr := w.rg
      rw [dLs_lst, if_pos ⟨rfl, c.1, by omega, by omega, by omega⟩]
      exact nl_0 w hw (by omega) (by omega)
    · exact absurd rfl z
end WLDS
