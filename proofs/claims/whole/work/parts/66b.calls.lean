section WLDS
variable {b : Nat} {a : AS} {G : Hp} {T : TT}
theorem xq_listed {W : WLD} (o_ : OW T W) {n i : Int} : SX T (fun G => fX11_listed 0 n i G) W W (fun r => r = lst W.1 n i) := by
  refine SX_q (fun G cw => ?_)
  obtain ⟨w, hw, wu, hS, hk, wm, u16⟩ := o_
  obtain ⟨hT_G, hA_G, hP, xs, kx, xm⟩ := cw
  show WP (fX11_listed 0 n i G) _
  unfold fX11_listed
  simp only [rf_0_0, rf_0_1, rf_0_3, rf_0_5, rf_0_6, rf_0_7, rf_0_8, rf_0_9, rf_0_10, rf_0_11, rf_4_4, rf_4_5, rf_4_8]
  rw [x_listAt hA_G, bp_s]
  exact w_rt ⟨FCQ.rf G, hA_G, rfl⟩
theorem mq_listed {W : WLD} (o_ : OW T W) {n i : Int} : SM T (fun G => fX12_listed 111 n i G) W W (fun r => r = lst W.1 n i) := by
  refine SM_q o_ (fun G rw_ => ?_)
  obtain ⟨w, hw, wu, hS, hk, wm, u16⟩ := o_
  obtain ⟨hM_G, hR_G, hP, ms, kx, xm⟩ := rw_
  show WP (fX12_listed 111 n i G) _
  have R1 : MR 0 W.1 (up G 111 0 0) := hR_G.fr (up_ne (by decide))
  have M1 : MT T (up G 111 0 0) := hM_G.fr (up_ne (by decide)) (up_ne (by decide))
  have F1 : FRS G (up G 111 0 0) := FRS.th
  unfold fX12_listed
  rw [bh_s]
  generalize up G 111 0 0 = G1 at R1 M1 F1 ⊢
  rw [m_isNode M1, bp_s]
  have wr := w.rg
  have l := llen_rng W.1 n
  have z : ¬ (0 ≤ n ∧ n < tN T) → lst W.1 n i = -1 := fun z => by
    rcases isi_01 W.1 n with q | q
    · exact (hw.o q).1 i
    · have := hw.inr (n := n); omega
  by_cases c : 0 ≤ n ∧ n < tN T
  · rw [if_pos c, if_neg (by decide)]
    by_cases d : i < 0
    · rw [if_pos d]; exact w_rt ⟨F1, by unfold lst; rw [if_neg (by omega)]⟩
    · rw [if_neg d, show (0 : Int) = ((0 : Nat) : Int) from rfl, m_longOf R1 (by omega) c.1 (by omega), bp_s]
      by_cases e : i < llen W.1 n
      · rw [if_pos e, m_listedOf R1 (by omega) c.1 (by omega) (by omega) (by omega), bp_s]; exact w_rt ⟨F1, rfl⟩
      · rw [if_neg e]; exact w_rt ⟨F1, (llen_out hw (by omega)).symm⟩
  · rw [if_neg c, if_pos rfl]; exact w_rt ⟨F1, (z c).symm⟩

theorem xq_finger {W : WLD} (o_ : OW T W) {n i : Int} : SX T (fun G => fX11_finger 0 n i G) W W (fun r => r = fng W.1 n i) := by
  refine SX_q (fun G cw => ?_)
  obtain ⟨w, hw, wu, hS, hk, wm, u16⟩ := o_
  obtain ⟨hT_G, hA_G, hP, xs, kx, xm⟩ := cw
  show WP (fX11_finger 0 n i G) _
  unfold fX11_finger
  simp only [rf_0_0, rf_0_1, rf_0_3, rf_0_5, rf_0_6, rf_0_7, rf_0_8, rf_0_9, rf_0_10, rf_0_11, rf_4_4, rf_4_5, rf_4_8]
  rw [x_fingerAt hA_G, bp_s]
  exact w_rt ⟨FCQ.rf G, hA_G, rfl⟩
theorem mq_finger {W : WLD} (o_ : OW T W) {n i : Int} : SM T (fun G => fX12_finger 111 n i G) W W (fun r => r = fng W.1 n i) := by
  refine SM_q o_ (fun G rw_ => ?_)
  obtain ⟨w, hw, wu, hS, hk, wm, u16⟩ := o_
  obtain ⟨hM_G, hR_G, hP, ms, kx, xm⟩ := rw_
  show WP (fX12_finger 111 n i G) _
  have R1 : MR 0 W.1 (up G 111 0 0) := hR_G.fr (up_ne (by decide))
  have M1 : MT T (up G 111 0 0) := hM_G.fr (up_ne (by decide)) (up_ne (by decide))
  have F1 : FRS G (up G 111 0 0) := FRS.th
  unfold fX12_finger
  rw [bh_s]
  generalize up G 111 0 0 = G1 at R1 M1 F1 ⊢
  rw [m_isNode M1, bp_s]
  have wr := w.rg
  have z : ¬ (0 ≤ n ∧ n < tN T) → fng W.1 n i = -1 := fun z => by
    rcases isi_01 W.1 n with q | q
    · exact (hw.o q).2.2 i
    · have := hw.inr (n := n); omega
  by_cases c : 0 ≤ n ∧ n < tN T
  · rw [if_pos c, if_neg (by decide), m_within, bp_s]
    by_cases d : 0 ≤ i ∧ i ≤ 7
    · rw [if_pos d, if_neg (by decide), show (0 : Int) = ((0 : Nat) : Int) from rfl, m_fingerOf R1 (by omega) c.1 (by omega) d.1 (by omega), bp_s]; exact w_rt ⟨F1, rfl⟩
    · rw [if_neg d, if_pos rfl]; exact w_rt ⟨F1, by unfold fng; rw [if_neg (by omega)]⟩
  · rw [if_neg c, if_pos rfl]; exact w_rt ⟨F1, (z c).symm⟩

theorem xq_astray {W : WLD} (o_ : OW T W) : SX T (fun G => fX11_astray 0 G) W W (fun r => r = asB T W.1) := by
  refine SX_q (fun G cw => ?_)
  obtain ⟨w, hw, wu, hS, hk, wm, u16⟩ := o_
  obtain ⟨hT_G, hA_G, hP, xs, kx, xm⟩ := cw
  show WP (fX11_astray 0 G) _
  unfold fX11_astray
  simp only [rf_0_0, rf_0_1, rf_0_3, rf_0_5, rf_0_6, rf_0_7, rf_0_8, rf_0_9, rf_0_10, rf_0_11, rf_4_4, rf_4_5, rf_4_8]
  rw [x_astrayKeys w hw hA_G hT_G, bp_s]
  exact w_rt ⟨FCQ.rf G, hA_G, rfl⟩
theorem mq_astray {W : WLD} (o_ : OW T W) : SM T (fun G => fX12_astray 111 G) W W (fun r => r = asB T W.1) := by
  refine SM_q o_ (fun G rw_ => ?_)
  obtain ⟨w, hw, wu, hS, hk, wm, u16⟩ := o_
  obtain ⟨hM_G, hR_G, hP, ms, kx, xm⟩ := rw_
  show WP (fX12_astray 111 G) _
  have R1 : MR 0 W.1 (up G 111 0 0) := hR_G.fr (up_ne (by decide))
  have M1 : MT T (up G 111 0 0) := hM_G.fr (up_ne (by decide)) (up_ne (by decide))
  have F1 : FRS G (up G 111 0 0) := FRS.th
  unfold fX12_astray
  rw [bh_s]
  generalize up G 111 0 0 = G1 at R1 M1 F1 ⊢
  rw [show (0 : Int) = ((0 : Nat) : Int) from rfl, m_astrayBy w hw (by omega) R1 M1, bp_s]
  exact w_rt ⟨F1, rfl⟩

theorem xq_lost {W : WLD} (o_ : OW T W) : SX T (fun G => fX11_lost 0 G) W W (fun r => r = bits (fun k => hld W.1 k = -1) (tK T).toNat) := by
  refine SX_q (fun G cw => ?_)
  obtain ⟨w, hw, wu, hS, hk, wm, u16⟩ := o_
  obtain ⟨hT_G, hA_G, hP, xs, kx, xm⟩ := cw
  show WP (fX11_lost 0 G) _
  unfold fX11_lost
  simp only [rf_0_0, rf_0_1, rf_0_3, rf_0_5, rf_0_6, rf_0_7, rf_0_8, rf_0_9, rf_0_10, rf_0_11, rf_4_4, rf_4_5, rf_4_8]
  rw [x_lostKeys w hw hA_G hT_G, bp_s]
  exact w_rt ⟨FCQ.rf G, hA_G, rfl⟩
theorem mq_lost {W : WLD} (o_ : OW T W) : SM T (fun G => fX12_lost 111 G) W W (fun r => r = bits (fun k => hld W.1 k = -1) (tK T).toNat) := by
  refine SM_q o_ (fun G rw_ => ?_)
  obtain ⟨w, hw, wu, hS, hk, wm, u16⟩ := o_
  obtain ⟨hM_G, hR_G, hP, ms, kx, xm⟩ := rw_
  show WP (fX12_lost 111 G) _
  have R1 : MR 0 W.1 (up G 111 0 0) := hR_G.fr (up_ne (by decide))
  have M1 : MT T (up G 111 0 0) := hM_G.fr (up_ne (by decide)) (up_ne (by decide))
  have F1 : FRS G (up G 111 0 0) := FRS.th
  unfold fX12_lost
  rw [bh_s]
  generalize up G 111 0 0 = G1 at R1 M1 F1 ⊢
  rw [show (0 : Int) = ((0 : Nat) : Int) from rfl, m_heldSet w (by omega) M1 R1 hw, bp_s]
  exact w_rt ⟨F1, rfl⟩

theorem xq_amiss {W : WLD} (o_ : OW T W) : SX T (fun G => fX11_amiss 0 G) W W (fun r => r = amB T W.1) := by
  refine SX_q (fun G cw => ?_)
  obtain ⟨w, hw, wu, hS, hk, wm, u16⟩ := o_
  obtain ⟨hT_G, hA_G, hP, xs, kx, xm⟩ := cw
  show WP (fX11_amiss 0 G) _
  unfold fX11_amiss
  simp only [rf_0_0, rf_0_1, rf_0_3, rf_0_5, rf_0_6, rf_0_7, rf_0_8, rf_0_9, rf_0_10, rf_0_11, rf_4_4, rf_4_5, rf_4_8]
  rw [x_amissNodes w hw hA_G hT_G, bp_s]
  exact w_rt ⟨FCQ.rf G, hA_G, rfl⟩
theorem mq_amiss {W : WLD} (o_ : OW T W) : SM T (fun G => fX12_amiss 111 G) W W (fun r => r = amB T W.1) := by
  refine SM_q o_ (fun G rw_ => ?_)
  obtain ⟨w, hw, wu, hS, hk, wm, u16⟩ := o_
  obtain ⟨hM_G, hR_G, hP, ms, kx, xm⟩ := rw_
  show WP (fX12_amiss 111 G) _
  have R1 : MR 0 W.1 (up G 111 0 0) := hR_G.fr (up_ne (by decide))
  have M1 : MT T (up G 111 0 0) := hM_G.fr (up_ne (by decide)) (up_ne (by decide))
  have F1 : FRS G (up G 111 0 0) := FRS.th
  unfold fX12_amiss
  rw [bh_s]
  generalize up G 111 0 0 = G1 at R1 M1 F1 ⊢
  rw [show (0 : Int) = ((0 : Nat) : Int) from rfl, m_amissBy w hw (by omega) R1 M1, bp_s]
  exact w_rt ⟨F1, rfl⟩

theorem xq_behind {W : WLD} (o_ : OW T W) : SX T (fun G => fX11_behind 0 G) W W (fun r => r = beB T W.1) := by
  refine SX_q (fun G cw => ?_)
  obtain ⟨w, hw, wu, hS, hk, wm, u16⟩ := o_
  obtain ⟨hT_G, hA_G, hP, xs, kx, xm⟩ := cw
  show WP (fX11_behind 0 G) _
  unfold fX11_behind
  simp only [rf_0_0, rf_0_1, rf_0_3, rf_0_5, rf_0_6, rf_0_7, rf_0_8, rf_0_9, rf_0_10, rf_0_11, rf_4_4, rf_4_5, rf_4_8]
  rw [x_behindNodes w hw hA_G hT_G, bp_s]
  exact w_rt ⟨FCQ.rf G, hA_G, rfl⟩
theorem mq_behind {W : WLD} (o_ : OW T W) : SM T (fun G => fX12_behind 111 G) W W (fun r => r = beB T W.1) := by
  refine SM_q o_ (fun G rw_ => ?_)
  obtain ⟨w, hw, wu, hS, hk, wm, u16⟩ := o_
  obtain ⟨hM_G, hR_G, hP, ms, kx, xm⟩ := rw_
  show WP (fX12_behind 111 G) _
  have R1 : MR 0 W.1 (up G 111 0 0) := hR_G.fr (up_ne (by decide))
  have M1 : MT T (up G 111 0 0) := hM_G.fr (up_ne (by decide)) (up_ne (by decide))
  have F1 : FRS G (up G 111 0 0) := FRS.th
  unfold fX12_behind
  rw [bh_s]
  generalize up G 111 0 0 = G1 at R1 M1 F1 ⊢
  rw [show (0 : Int) = ((0 : Nat) : Int) from rfl, m_behindBy w hw (by omega) R1 M1, bp_s]
  exact w_rt ⟨F1, rfl⟩

theorem xq_ordered {W : WLD} (o_ : OW T W) : SX T (fun G => fX11_ordered 0 G) W W (fun r => r = ordd T W.1) := by
  refine SX_q (fun G cw => ?_)
  obtain ⟨w, hw, wu, hS, hk, wm, u16⟩ := o_
  obtain ⟨hT_G, hA_G, hP, xs, kx, xm⟩ := cw
  show WP (fX11_ordered 0 G) _
  unfold fX11_ordered
  simp only [rf_0_0, rf_0_1, rf_0_3, rf_0_5, rf_0_6, rf_0_7, rf_0_8, rf_0_9, rf_0_10, rf_0_11, rf_4_4, rf_4_5, rf_4_8]
  rw [x_isOrdered w hw hA_G hT_G, bp_s]
  exact w_rz ordd_01 ⟨FCQ.rf G, hA_G, rfl⟩
theorem mq_ordered {W : WLD} (o_ : OW T W) : SM T (fun G => fX12_ordered 111 G) W W (fun r => r = ordd T W.1) := by
  refine SM_q o_ (fun G rw_ => ?_)
  obtain ⟨w, hw, wu, hS, hk, wm, u16⟩ := o_
  obtain ⟨hM_G, hR_G, hP, ms, kx, xm⟩ := rw_
  show WP (fX12_ordered 111 G) _
  have R1 : MR 0 W.1 (up G 111 0 0) := hR_G.fr (up_ne (by decide))
  have M1 : MT T (up G 111 0 0) := hM_G.fr (up_ne (by decide)) (up_ne (by decide))
  have F1 : FRS G (up G 111 0 0) := FRS.th
  unfold fX12_ordered
  rw [bh_s]
  generalize up G 111 0 0 = G1 at R1 M1 F1 ⊢
  rw [show (0 : Int) = ((0 : Nat) : Int) from rfl, m_isOrdered w hw (by omega) R1 M1, bp_s]
  exact w_rz ordd_01 ⟨F1, rfl⟩

theorem xq_widest {W : WLD} (o_ : OW T W) : SX T (fun G => fX11_widest 0 G) W W (fun r => r = (wdS T W.1 8).1) := by
  refine SX_q (fun G cw => ?_)
  obtain ⟨w, hw, wu, hS, hk, wm, u16⟩ := o_
  obtain ⟨hT_G, hA_G, hP, xs, kx, xm⟩ := cw
  show WP (fX11_widest 0 G) _
  unfold fX11_widest
  simp only [rf_0_0, rf_0_1, rf_0_3, rf_0_5, rf_0_6, rf_0_7, rf_0_8, rf_0_9, rf_0_10, rf_0_11, rf_4_4, rf_4_5, rf_4_8]
  rw [x_widestArc w hw hA_G hT_G, bp_s]
  exact w_rt ⟨FCQ.rf G, hA_G, rfl⟩
theorem mq_widest {W : WLD} (o_ : OW T W) : SM T (fun G => fX12_widest 111 G) W W (fun r => r = (wdS T W.1 8).1) := by
  refine SM_q o_ (fun G rw_ => ?_)
  obtain ⟨w, hw, wu, hS, hk, wm, u16⟩ := o_
  obtain ⟨hM_G, hR_G, hP, ms, kx, xm⟩ := rw_
  show WP (fX12_widest 111 G) _
  exact (m_widest w hw hR_G hM_G).mono (fun r G' q => ⟨by rw [q.1]; exact FRS.th, q.2⟩)

theorem xq_load {W : WLD} (o_ : OW T W) {n : Int} : SX T (fun G => fX11_load 0 n G) W W (fun r => r = (if isi W.1 n = 1 then bits (fun k => own T W.1.1 (tl T k) = n) (tK T).toNat else -1)) := by
  refine SX_q (fun G cw => ?_)
  obtain ⟨w, hw, wu, hS, hk, wm, u16⟩ := o_
  obtain ⟨hT_G, hA_G, hP, xs, kx, xm⟩ := cw
  show WP (fX11_load 0 n G) _
  unfold fX11_load
  simp only [rf_0_0, rf_0_1, rf_0_3, rf_0_5, rf_0_6, rf_0_7, rf_0_8, rf_0_9, rf_0_10, rf_0_11, rf_4_4, rf_4_5, rf_4_8]
  rw [x_isIn hA_G hw.1, bp_s]
  rcases isi_01 W.1 n with q | q
  · rw [if_pos q, if_neg (by omega)]; exact w_rt ⟨FCQ.rf G, hA_G, rfl⟩
  · rw [if_neg (by omega), if_pos q, x_ownedBy w hw hA_G hT_G, bp_s]; exact w_rt ⟨FCQ.rf G, hA_G, rfl⟩
theorem mq_load {W : WLD} (o_ : OW T W) {n : Int} : SM T (fun G => fX12_load 111 n G) W W (fun r => r = (if isi W.1 n = 1 then bits (fun k => own T W.1.1 (tl T k) = n) (tK T).toNat else -1)) := by
  refine SM_q o_ (fun G rw_ => ?_)
  obtain ⟨w, hw, wu, hS, hk, wm, u16⟩ := o_
  obtain ⟨hM_G, hR_G, hP, ms, kx, xm⟩ := rw_
  show WP (fX12_load 111 n G) _
  exact (m_load w hw hR_G hM_G).mono (fun r G' q => ⟨by rw [q.1]; exact FRS.th, q.2⟩)

theorem xq_wrongs {W : WLD} (o_ : OW T W) {n : Int} : SX T (fun G => fX11_wrongs 0 n G) W W (fun r => r = (if isi W.1 n = 1 then bits (fun k => 2 ^ (k).toNat < tC T ∧ fng W.1 n k ≠ own T W.1.1 (fp T n k)) 8 else -1)) := by
  refine SX_q (fun G cw => ?_)
  obtain ⟨w, hw, wu, hS, hk, wm, u16⟩ := o_
  obtain ⟨hT_G, hA_G, hP, xs, kx, xm⟩ := cw
  show WP (fX11_wrongs 0 n G) _
  unfold fX11_wrongs
  simp only [rf_0_0, rf_0_1, rf_0_3, rf_0_5, rf_0_6, rf_0_7, rf_0_8, rf_0_9, rf_0_10, rf_0_11, rf_4_4, rf_4_5, rf_4_8]
  rw [x_isIn hA_G hw.1, bp_s]
  rcases isi_01 W.1 n with q | q
  · rw [if_pos q, if_neg (by omega)]; exact w_rt ⟨FCQ.rf G, hA_G, rfl⟩
  · rw [if_neg (by omega), if_pos q, x_wrongFingers w hw hA_G hT_G q, bp_s]; exact w_rt ⟨FCQ.rf G, hA_G, rfl⟩
theorem mq_wrongs {W : WLD} (o_ : OW T W) {n : Int} : SM T (fun G => fX12_wrongs 111 n G) W W (fun r => r = (if isi W.1 n = 1 then bits (fun k => 2 ^ (k).toNat < tC T ∧ fng W.1 n k ≠ own T W.1.1 (fp T n k)) 8 else -1)) := by
  refine SM_q o_ (fun G rw_ => ?_)
  obtain ⟨w, hw, wu, hS, hk, wm, u16⟩ := o_
  obtain ⟨hM_G, hR_G, hP, ms, kx, xm⟩ := rw_
  show WP (fX12_wrongs 111 n G) _
  exact (m_wrongs w hw hR_G hM_G).mono (fun r G' q => ⟨by rw [q.1]; exact FRS.th, q.2⟩)

theorem xq_reaches {W : WLD} (o_ : OW T W) {n : Int} : SX T (fun G => fX11_reaches 0 n G) W W (fun r => r = (if isi W.1 n = 1 then rO W.1 (ishl 1 n) 8 else -1)) := by
  refine SX_q (fun G cw => ?_)
  obtain ⟨w, hw, wu, hS, hk, wm, u16⟩ := o_
  obtain ⟨hT_G, hA_G, hP, xs, kx, xm⟩ := cw
  show WP (fX11_reaches 0 n G) _
  unfold fX11_reaches
  simp only [rf_0_0, rf_0_1, rf_0_3, rf_0_5, rf_0_6, rf_0_7, rf_0_8, rf_0_9, rf_0_10, rf_0_11, rf_4_4, rf_4_5, rf_4_8]
  rw [x_isIn hA_G hw.1, bp_s]
  rcases isi_01 W.1 n with q | q
  · rw [if_pos q, if_neg (by omega)]; exact w_rt ⟨FCQ.rf G, hA_G, rfl⟩
  · rw [if_neg (by omega), if_pos q, x_reachedFrom w hw hA_G hT_G q, bp_s]; exact w_rt ⟨FCQ.rf G, hA_G, rfl⟩
theorem mq_reaches {W : WLD} (o_ : OW T W) {n : Int} : SM T (fun G => fX12_reaches 111 n G) W W (fun r => r = (if isi W.1 n = 1 then rO W.1 (ishl 1 n) 8 else -1)) := by
  refine SM_q o_ (fun G rw_ => ?_)
  obtain ⟨w, hw, wu, hS, hk, wm, u16⟩ := o_
  obtain ⟨hM_G, hR_G, hP, ms, kx, xm⟩ := rw_
  show WP (fX12_reaches 111 n G) _
  exact (m_reaches w hw hR_G hM_G).mono (fun r G' q => ⟨by rw [q.1]; exact FRS.th, q.2⟩)

theorem xq_arc {W : WLD} (o_ : OW T W) {n : Int} : SX T (fun G => fX11_arc 0 n G) W W (fun r => r = (if isi W.1 n = 1 then arc T W.1 n else -1)) := by
  refine SX_q (fun G cw => ?_)
  obtain ⟨w, hw, wu, hS, hk, wm, u16⟩ := o_
  obtain ⟨hT_G, hA_G, hP, xs, kx, xm⟩ := cw
  show WP (fX11_arc 0 n G) _
  unfold fX11_arc
  simp only [rf_0_0, rf_0_1, rf_0_3, rf_0_5, rf_0_6, rf_0_7, rf_0_8, rf_0_9, rf_0_10, rf_0_11, rf_4_4, rf_4_5, rf_4_8]
  rw [x_isIn hA_G hw.1, bp_s]
  rcases isi_01 W.1 n with q | q
  · rw [if_pos q, if_neg (by omega)]; exact w_rt ⟨FCQ.rf G, hA_G, rfl⟩
  · rw [if_neg (by omega), if_pos q, x_arcOf w hw hA_G hT_G q, bp_s]; exact w_rt ⟨FCQ.rf G, hA_G, rfl⟩
theorem mq_arc {W : WLD} (o_ : OW T W) {n : Int} : SM T (fun G => fX12_arc 111 n G) W W (fun r => r = (if isi W.1 n = 1 then arc T W.1 n else -1)) := by
  refine SM_q o_ (fun G rw_ => ?_)
  obtain ⟨w, hw, wu, hS, hk, wm, u16⟩ := o_
  obtain ⟨hM_G, hR_G, hP, ms, kx, xm⟩ := rw_
  show WP (fX12_arc 111 n G) _
  have R1 : MR 0 W.1 (up G 111 0 0) := hR_G.fr (up_ne (by decide))
  have M1 : MT T (up G 111 0 0) := hM_G.fr (up_ne (by decide)) (up_ne (by decide))
  have F1 : FRS G (up G 111 0 0) := FRS.th
  unfold fX12_arc
  rw [bh_s, m_isThere w hw R1 M1, bp_s]
  rcases isi_01 W.1 n with q | q
  · rw [if_pos q, if_neg (by omega)]; exact w_rt ⟨FRS.th, rfl⟩
  · rw [if_neg (by omega), if_pos q, m_arcOf w hw R1 M1 q, bp_s]; exact w_rt ⟨FRS.th, rfl⟩

theorem xq_far {W : WLD} (o_ : OW T W) {n : Int} : SX T (fun G => fX11_far 0 n G) W W (fun r => r = (if isi W.1 n = 1 then frS T W.1 n (tK T).toNat else -1)) := by
  refine SX_q (fun G cw => ?_)
  obtain ⟨w, hw, wu, hS, hk, wm, u16⟩ := o_
  obtain ⟨hT_G, hA_G, hP, xs, kx, xm⟩ := cw
  show WP (fX11_far 0 n G) _
  unfold fX11_far
  simp only [rf_0_0, rf_0_1, rf_0_3, rf_0_5, rf_0_6, rf_0_7, rf_0_8, rf_0_9, rf_0_10, rf_0_11, rf_4_4, rf_4_5, rf_4_8]
  rw [x_isIn hA_G hw.1, bp_s]
  rcases isi_01 W.1 n with q | q
  · rw [if_pos q, if_neg (by omega)]; exact w_rt ⟨FCQ.rf G, hA_G, rfl⟩
  · rw [if_neg (by omega), if_pos q]
    refine w_bn (x_mostSteps w hw hA_G hT_G q) (fun v G3 y => ?_)
    exact w_rt ⟨fun c _ _ x3 x4 _ _ _ _ _ _ _ => y.1 c x3 x4, hA_G.fr (y.1 27 (by decide) (by decide)) (y.1 28 (by decide) (by decide)), y.2⟩
theorem mq_far {W : WLD} (o_ : OW T W) {n : Int} : SM T (fun G => fX12_far 111 n G) W W (fun r => r = (if isi W.1 n = 1 then frS T W.1 n (tK T).toNat else -1)) := by
  refine SM_q o_ (fun G rw_ => ?_)
  obtain ⟨w, hw, wu, hS, hk, wm, u16⟩ := o_
  obtain ⟨hM_G, hR_G, hP, ms, kx, xm⟩ := rw_
  show WP (fX12_far 111 n G) _
  exact (m_far w hw hR_G hM_G).mono (fun r G' q => ⟨q.1, q.2⟩)

theorem xq_toil {W : WLD} (o_ : OW T W) {n : Int} : SX T (fun G => fX11_toil 0 n G) W W (fun r => r = (if isi W.1 n = 1 then toi T W.1 n (tK T).toNat else -1)) := by
  refine SX_q (fun G cw => ?_)
  obtain ⟨w, hw, wu, hS, hk, wm, u16⟩ := o_
  obtain ⟨hT_G, hA_G, hP, xs, kx, xm⟩ := cw
  show WP (fX11_toil 0 n G) _
  unfold fX11_toil
  simp only [rf_0_0, rf_0_1, rf_0_3, rf_0_5, rf_0_6, rf_0_7, rf_0_8, rf_0_9, rf_0_10, rf_0_11, rf_4_4, rf_4_5, rf_4_8]
  rw [x_isIn hA_G hw.1, bp_s]
  rcases isi_01 W.1 n with q | q
  · rw [if_pos q, if_neg (by omega)]; exact w_rt ⟨FCQ.rf G, hA_G, rfl⟩
  · rw [if_neg (by omega), if_pos q]
    refine w_bn (x_allSteps w hw hA_G hT_G q) (fun v G3 y => ?_)
    exact w_rt ⟨fun c _ _ x3 x4 _ _ _ _ _ _ _ => y.1 c x3 x4, hA_G.fr (y.1 27 (by decide) (by decide)) (y.1 28 (by decide) (by decide)), y.2⟩
theorem mq_toil {W : WLD} (o_ : OW T W) {n : Int} : SM T (fun G => fX12_toil 111 n G) W W (fun r => r = (if isi W.1 n = 1 then toi T W.1 n (tK T).toNat else -1)) := by
  refine SM_q o_ (fun G rw_ => ?_)
  obtain ⟨w, hw, wu, hS, hk, wm, u16⟩ := o_
  obtain ⟨hM_G, hR_G, hP, ms, kx, xm⟩ := rw_
  show WP (fX12_toil 111 n G) _
  exact (m_toil w hw hR_G hM_G).mono (fun r G' q => ⟨q.1, q.2⟩)

theorem xq_hosts {W : WLD} (o_ : OW T W) {n : Int} : SX T (fun G => fX11_hosts 0 n G) W W (fun r => r = (if 0 ≤ n ∧ n < tN T then bits (pho W.1 n) 8 else -1)) := by
  refine SX_q (fun G cw => ?_)
  obtain ⟨w, hw, wu, hS, hk, wm, u16⟩ := o_
  obtain ⟨hT_G, hA_G, hP, xs, kx, xm⟩ := cw
  show WP (fX11_hosts 0 n G) _
  unfold fX11_hosts
  simp only [rf_0_0, rf_0_1, rf_0_3, rf_0_5, rf_0_6, rf_0_7, rf_0_8, rf_0_9, rf_0_10, rf_0_11, rf_4_4, rf_4_5, rf_4_8]
  rw [x_isNode hT_G, bp_s]
  by_cases c : 0 ≤ n ∧ n < tN T
  · rw [if_pos c, if_neg (by decide), if_pos c, x_hostsOf w hw hA_G hT_G c.1, bp_s]; exact w_rt ⟨FCQ.rf G, hA_G, rfl⟩
  · rw [if_neg c, if_pos rfl, if_neg c]; exact w_rt ⟨FCQ.rf G, hA_G, rfl⟩
theorem mq_hosts {W : WLD} (o_ : OW T W) {n : Int} : SM T (fun G => fX12_hosts 111 n G) W W (fun r => r = (if 0 ≤ n ∧ n < tN T then bits (pho W.1 n) 8 else -1)) := by
  refine SM_q o_ (fun G rw_ => ?_)
  obtain ⟨w, hw, wu, hS, hk, wm, u16⟩ := o_
  obtain ⟨hM_G, hR_G, hP, ms, kx, xm⟩ := rw_
  show WP (fX12_hosts 111 n G) _
  exact (m_hosts w hw hR_G hM_G).mono (fun r G' q => ⟨by rw [q.1]; exact FRS.th, q.2⟩)

theorem xq_moves {W : WLD} (o_ : OW T W) {n : Int} : SX T (fun G => fX11_moves 0 n G) W W (fun r => r = (if 0 ≤ n ∧ n < tN T then cnt (fun k => own T W.1.1 (tl T k) ≠ own T (flp W.1 n) (tl T k)) (tK T).toNat else -1)) := by
  refine SX_q (fun G cw => ?_)
  obtain ⟨w, hw, wu, hS, hk, wm, u16⟩ := o_
  obtain ⟨hT_G, hA_G, hP, xs, kx, xm⟩ := cw
  show WP (fX11_moves 0 n G) _
  unfold fX11_moves
  simp only [rf_0_0, rf_0_1, rf_0_3, rf_0_5, rf_0_6, rf_0_7, rf_0_8, rf_0_9, rf_0_10, rf_0_11, rf_4_4, rf_4_5, rf_4_8]
  rw [x_isNode hT_G, bp_s]
  by_cases c : 0 ≤ n ∧ n < tN T
  · rw [if_pos c, if_neg (by decide), if_pos c, x_movedKeys w hw hA_G hT_G c.1 c.2, bp_s]; exact w_rt ⟨FCQ.rf G, hA_G, rfl⟩
  · rw [if_neg c, if_pos rfl, if_neg c]; exact w_rt ⟨FCQ.rf G, hA_G, rfl⟩
theorem mq_moves {W : WLD} (o_ : OW T W) {n : Int} : SM T (fun G => fX12_moves 111 n G) W W (fun r => r = (if 0 ≤ n ∧ n < tN T then cnt (fun k => own T W.1.1 (tl T k) ≠ own T (flp W.1 n) (tl T k)) (tK T).toNat else -1)) := by
  refine SM_q o_ (fun G rw_ => ?_)
  obtain ⟨w, hw, wu, hS, hk, wm, u16⟩ := o_
  obtain ⟨hM_G, hR_G, hP, ms, kx, xm⟩ := rw_
  show WP (fX12_moves 111 n G) _
  exact (m_moves w hw hR_G hM_G).mono (fun r G' q => ⟨q.1, q.2⟩)

theorem xq_risk {W : WLD} (o_ : OW T W) {n : Int} : SX T (fun G => fX11_risk 0 n G) W W (fun r => r = (if 1 ≤ n ∧ n ≤ 3 then cnt (prk W.1 n) 256 else -1)) := by
  refine SX_q (fun G cw => ?_)
  obtain ⟨w, hw, wu, hS, hk, wm, u16⟩ := o_
  obtain ⟨hT_G, hA_G, hP, xs, kx, xm⟩ := cw
  show WP (fX11_risk 0 n G) _
  unfold fX11_risk
  simp only [rf_0_0, rf_0_1, rf_0_3, rf_0_5, rf_0_6, rf_0_7, rf_0_8, rf_0_9, rf_0_10, rf_0_11, rf_4_4, rf_4_5, rf_4_8]
  by_cases c : n < 1
  · rw [if_pos c, if_neg (by omega)]; exact w_rt ⟨FCQ.rf G, hA_G, rfl⟩
  · rw [if_neg c]
    by_cases d : 3 < n
    · rw [if_pos d, if_neg (by omega)]; exact w_rt ⟨FCQ.rf G, hA_G, rfl⟩
    · rw [if_neg d, if_pos (by omega), x_riskySets w hw hA_G hT_G, bp_s]; exact w_rt ⟨FCQ.rf G, hA_G, rfl⟩
theorem mq_risk {W : WLD} (o_ : OW T W) {n : Int} : SM T (fun G => fX12_risk 111 n G) W W (fun r => r = (if 1 ≤ n ∧ n ≤ 3 then cnt (prk W.1 n) 256 else -1)) := by
  refine SM_q o_ (fun G rw_ => ?_)
  obtain ⟨w, hw, wu, hS, hk, wm, u16⟩ := o_
  obtain ⟨hM_G, hR_G, hP, ms, kx, xm⟩ := rw_
  show WP (fX12_risk 111 n G) _
  exact (m_risk w hw hR_G hM_G).mono (fun r G' q => ⟨by rw [q.1]; exact FRS.th, q.2⟩)

theorem xq_heirs {W : WLD} (o_ : OW T W) {n i : Int} : SX T (fun G => fX11_heirs 0 n i G) W W (fun r => (0 ≤ n ∧ n < tK T ∧ HE T W.1 (tl T n) i r) ∨ (¬ (0 ≤ n ∧ n < tK T) ∧ r = -1)) := by
  refine SX_q (fun G cw => ?_)
  obtain ⟨w, hw, wu, hS, hk, wm, u16⟩ := o_
  obtain ⟨hT_G, hA_G, hP, xs, kx, xm⟩ := cw
  show WP (fX11_heirs 0 n i G) _
  unfold fX11_heirs
  simp only [rf_0_0, rf_0_1, rf_0_3, rf_0_5, rf_0_6, rf_0_7, rf_0_8, rf_0_9, rf_0_10, rf_0_11, rf_4_4, rf_4_5, rf_4_8]
  rw [x_isKey hT_G, bp_s]
  by_cases c : 0 ≤ n ∧ n < tK T
  · rw [if_pos c, if_neg (by decide)]
    refine w_bpq (x_heirOf w hw hA_G hT_G c.1 c.2) (fun v g q => ?_)
    exact w_rt ⟨FCQ.rf G, hA_G, Or.inl ⟨c.1, c.2, q.2⟩⟩
  · rw [if_neg c, if_pos rfl]; exact w_rt ⟨FCQ.rf G, hA_G, Or.inr ⟨c, rfl⟩⟩
theorem mq_heirs {W : WLD} (o_ : OW T W) {n i : Int} : SM T (fun G => fX12_heirs 111 n i G) W W (fun r => (0 ≤ n ∧ n < tK T ∧ HE T W.1 (tl T n) i r) ∨ (¬ (0 ≤ n ∧ n < tK T) ∧ r = -1)) := by
  refine SM_q o_ (fun G rw_ => ?_)
  obtain ⟨w, hw, wu, hS, hk, wm, u16⟩ := o_
  obtain ⟨hM_G, hR_G, hP, ms, kx, xm⟩ := rw_
  show WP (fX12_heirs 111 n i G) _
  exact (m_heirs w hw hR_G hM_G).mono (fun r G' q => ⟨by rw [q.1]; exact FRS.th, q.2⟩)

theorem heirs_u {W : WLD} (o_ : OW T W) {n i : Int} : ∀ r r', ((0 ≤ n ∧ n < tK T ∧ HE T W.1 (tl T n) i r) ∨ (¬ (0 ≤ n ∧ n < tK T) ∧ r = -1)) → ((0 ≤ n ∧ n < tK T ∧ HE T W.1 (tl T n) i r') ∨ (¬ (0 ≤ n ∧ n < tK T) ∧ r' = -1)) → r = r' := by
  intro r r' h h'
  rcases h with h | h
  · rcases h' with k | k
    · have := o_.1.li h.1 h.2.1
      exact HE_u o_.1 o_.2.1 (by omega) (by omega) h.2.2 k.2.2
    · exact absurd ⟨h.1, h.2.1⟩ k.1
  · rcases h' with k | k
    · exact absurd ⟨k.1, k.2.1⟩ h.1
    · rw [h.2, k.2]
end WLDS
