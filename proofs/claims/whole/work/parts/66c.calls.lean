section WLDS
variable {b : Nat} {a : AS} {G : Hp} {T : TT}
theorem xq_node {W : WLD} (o_ : OW T W) {n i : Int} : SX T (fun G => fX11_node 0 n i G) W W (fun r => r = (if 0 ≤ n ∧ n < tN T then (if i = 0 then tk T n else if i = 1 then tp T n else if i = 2 then isi W.1 n else if i = 3 then ahd W.1 n else if i = 4 then fst4 W.1 W.1.1 n else if i = 5 then bits (fun k => hld W.1 k = n) 10 else -2) else -2)) := by
  refine SX_q (fun G cw => ?_)
  obtain ⟨w, hw, wu, hS, hk, wm, u16⟩ := o_
  obtain ⟨hT_G, hA_G, hP, xs, kx, xm⟩ := cw
  show WP (fX11_node 0 n i G) _
  unfold fX11_node
  simp only [rf_0_0, rf_0_1, rf_0_3, rf_0_5, rf_0_6, rf_0_7, rf_0_8, rf_0_9, rf_0_10, rf_0_11, rf_4_4, rf_4_5, rf_4_8]
  have wr := w.rg
  rw [x_isNode hT_G, bp_s]
  by_cases c : 0 ≤ n ∧ n < tN T
  · rw [if_pos c, if_neg (by decide), if_pos c]
    by_cases c0 : i = 0
    · rw [if_pos c0, if_pos c0, x_kind hT_G w c.1 c.2, br_s]; exact w_rt ⟨FCQ.rf G, hA_G, rfl⟩
    · rw [if_neg c0, if_neg c0]
      by_cases c1 : i = 1
      · rw [if_pos c1, if_pos c1, x_place hT_G w c.1 c.2, br_s]; exact w_rt ⟨FCQ.rf G, hA_G, rfl⟩
      · rw [if_neg c1, if_neg c1]
        by_cases c2 : i = 2
        · rw [if_pos c2, if_pos c2, x_isIn hA_G hw.1, bp_s]
          rcases isi_01 W.1 n with q | q
          · rw [q, if_pos rfl]; exact w_rt ⟨FCQ.rf G, hA_G, rfl⟩
          · rw [q, if_neg (by decide)]; exact w_rt ⟨FCQ.rf G, hA_G, rfl⟩
        · rw [if_neg c2, if_neg c2]
          by_cases c3 : i = 3
          · rw [if_pos c3, if_pos c3, x_aheadOf hA_G, bp_s]; exact w_rt ⟨FCQ.rf G, hA_G, rfl⟩
          · rw [if_neg c3, if_neg c3]
            by_cases c4 : i = 4
            · rw [if_pos c4, if_pos c4, x_first hA_G hw w, bp_s]; exact w_rt ⟨FCQ.rf G, hA_G, rfl⟩
            · rw [if_neg c4, if_neg c4]
              by_cases c5 : i = 5
              · rw [if_pos c5, if_pos c5, x_heldBy hA_G, bp_s]; exact w_rt ⟨FCQ.rf G, hA_G, rfl⟩
              · rw [if_neg c5, if_neg c5]; exact w_rt ⟨FCQ.rf G, hA_G, rfl⟩
  · rw [if_neg c, if_pos rfl, if_neg c]; exact w_rt ⟨FCQ.rf G, hA_G, rfl⟩
theorem mq_node {W : WLD} (o_ : OW T W) {n i : Int} : SM T (fun G => fX12_node 111 n i G) W W (fun r => r = (if 0 ≤ n ∧ n < tN T then (if i = 0 then tk T n else if i = 1 then tp T n else if i = 2 then isi W.1 n else if i = 3 then ahd W.1 n else if i = 4 then fst4 W.1 W.1.1 n else if i = 5 then bits (fun k => hld W.1 k = n) 10 else -2) else -2)) := by
  refine SM_q o_ (fun G rw_ => ?_)
  obtain ⟨w, hw, wu, hS, hk, wm, u16⟩ := o_
  obtain ⟨hM_G, hR_G, hP, ms, kx, xm⟩ := rw_
  show WP (fX12_node 111 n i G) _
  have R1 : MR 0 W.1 (up G 111 0 0) := hR_G.fr (up_ne (by decide))
  have M1 : MT T (up G 111 0 0) := hM_G.fr (up_ne (by decide)) (up_ne (by decide))
  have F1 : FRS G (up G 111 0 0) := FRS.th
  have wr := w.rg
  unfold fX12_node
  rw [bh_s]
  generalize up G 111 0 0 = G1 at R1 M1 F1 ⊢
  rw [m_isNode M1, bp_s]
  by_cases c : 0 ≤ n ∧ n < tN T
  · rw [if_pos c, if_neg (by decide), if_pos c]
    have hb : bits (fun k => hld W.1 k = n) 10 = bits (fun k => hld W.1 k = n) (tK T).toNat := bits_more 10 (by omega) (fun i x y z => by have := hw.kz (k := i) (by omega); omega)
    by_cases c0 : i = 0
    · rw [if_pos c0, if_pos c0, m_kindOf M1 w c.1 c.2, bp_s]; exact w_rt ⟨F1, rfl⟩
    · rw [if_neg c0, if_neg c0]
      by_cases c1 : i = 1
      · rw [if_pos c1, if_pos c1, m_placeOf M1 w c.1 c.2, bp_s]; exact w_rt ⟨F1, rfl⟩
      · rw [if_neg c1, if_neg c1]
        have m2 : fX12_isIn 111 0 n G1 = some (isi W.1 n, G1) := m_isIn (b := 0) R1 (by omega) (by omega)
        have m3 : fX12_aheadOf 111 0 n G1 = some (ahd W.1 n, G1) := m_aheadOf (b := 0) R1 (by omega) c.1 (by omega)
        have m4 : fX12_firstOf 111 0 n G1 = some (fst4 W.1 W.1.1 n, G1) := m_firstOf (b := 0) (by omega) w hw R1 c.1 (by omega)
        have m5 : fX12_heldSet 111 0 n G1 = some (bits (fun k => hld W.1 k = n) (tK T).toNat, G1) := m_heldSet (b := 0) w (by omega) M1 R1 hw
        rw [m2, m3, m4, m5, bp_s, bp_s, bp_s, bp_s]
        by_cases c2 : i = 2
        · rw [if_pos c2, if_pos c2]
          rcases isi_01 W.1 n with q | q
          · rw [q, if_pos rfl]; exact w_rt ⟨F1, rfl⟩
          · rw [q, if_neg (by decide)]; exact w_rt ⟨F1, rfl⟩
        · rw [if_neg c2, if_neg c2]
          by_cases c3 : i = 3
          · rw [if_pos c3, if_pos c3]; exact w_rt ⟨F1, rfl⟩
          · rw [if_neg c3, if_neg c3]
            by_cases c4 : i = 4
            · rw [if_pos c4, if_pos c4]; exact w_rt ⟨F1, rfl⟩
            · rw [if_neg c4, if_neg c4]
              by_cases c5 : i = 5
              · rw [if_pos c5, if_pos c5]; exact w_rt ⟨F1, hb.symm⟩
              · rw [if_neg c5, if_neg c5]; exact w_rt ⟨F1, rfl⟩
  · rw [if_neg c, if_pos rfl, if_neg c]; exact w_rt ⟨F1, rfl⟩

theorem xq_key {W : WLD} (o_ : OW T W) {n i : Int} : SX T (fun G => fX11_key 0 n i G) W W (fun r => r = (if 0 ≤ n ∧ n < tK T then (if i = 0 then tl T n else if i = 1 then hld W.1 n else if i = 2 then own T W.1.1 (tl T n) else -2) else -2)) := by
  refine SX_q (fun G cw => ?_)
  obtain ⟨w, hw, wu, hS, hk, wm, u16⟩ := o_
  obtain ⟨hT_G, hA_G, hP, xs, kx, xm⟩ := cw
  show WP (fX11_key 0 n i G) _
  unfold fX11_key
  simp only [rf_0_0, rf_0_1, rf_0_3, rf_0_5, rf_0_6, rf_0_7, rf_0_8, rf_0_9, rf_0_10, rf_0_11, rf_4_4, rf_4_5, rf_4_8]
  have wr := w.rg
  rw [x_isKey hT_G, bp_s]
  by_cases c : 0 ≤ n ∧ n < tK T
  · have li := w.li c.1 c.2
    rw [if_pos c, if_neg (by decide), if_pos c]
    by_cases c0 : i = 0
    · rw [if_pos c0, if_pos c0, x_lie hT_G w c.1 c.2, br_s]; exact w_rt ⟨FCQ.rf G, hA_G, rfl⟩
    · rw [if_neg c0, if_neg c0]
      by_cases c1 : i = 1
      · rw [if_pos c1, if_pos c1, x_holderOf hA_G, bp_s]; exact w_rt ⟨FCQ.rf G, hA_G, rfl⟩
      · rw [if_neg c1, if_neg c1]
        by_cases c2 : i = 2
        · rw [if_pos c2, if_pos c2, x_lie hT_G w c.1 c.2, br_s, x_ownerIn w hw hA_G hT_G (by omega), bp_s]; exact w_rt ⟨FCQ.rf G, hA_G, rfl⟩
        · rw [if_neg c2, if_neg c2]; exact w_rt ⟨FCQ.rf G, hA_G, rfl⟩
  · rw [if_neg c, if_pos rfl, if_neg c]; exact w_rt ⟨FCQ.rf G, hA_G, rfl⟩
theorem mq_key {W : WLD} (o_ : OW T W) {n i : Int} : SM T (fun G => fX12_key 111 n i G) W W (fun r => r = (if 0 ≤ n ∧ n < tK T then (if i = 0 then tl T n else if i = 1 then hld W.1 n else if i = 2 then own T W.1.1 (tl T n) else -2) else -2)) := by
  refine SM_q o_ (fun G rw_ => ?_)
  obtain ⟨w, hw, wu, hS, hk, wm, u16⟩ := o_
  obtain ⟨hM_G, hR_G, hP, ms, kx, xm⟩ := rw_
  show WP (fX12_key 111 n i G) _
  have R1 : MR 0 W.1 (up G 111 0 0) := hR_G.fr (up_ne (by decide))
  have M1 : MT T (up G 111 0 0) := hM_G.fr (up_ne (by decide)) (up_ne (by decide))
  have F1 : FRS G (up G 111 0 0) := FRS.th
  have wr := w.rg
  unfold fX12_key
  rw [bh_s]
  generalize up G 111 0 0 = G1 at R1 M1 F1 ⊢
  rw [m_isKey M1, bp_s, m_within, bp_s]
  by_cases c : 0 ≤ n ∧ n < tK T
  · rw [if_pos c, if_neg (by decide), if_pos c]
    have m1 : rd G1 125 10 n = some (tl T n) := (rd_in (by omega) (by omega)).trans (congrArg some (M1.2.2.2.2.2 n (by omega) (by omega)))
    have m2 : fX12_holderOf 111 0 n G1 = some (hld W.1 n, G1) := m_holderOf (b := 0) R1 (by omega) c.1 (by omega)
    have m3 : fX12_ownerOf 111 0 n G1 = some (own T W.1.1 (tl T n), G1) := m_ownerOf (b := 0) w hw.iN (by omega) R1 M1 c.1 c.2
    rw [rf_111_20, m1, m2, m3, br_s, bp_s, bp_s]
    by_cases c0 : i = 0
    · rw [if_pos (show 0 ≤ i ∧ i ≤ 2 by omega), if_neg (by decide), if_pos c0, if_pos c0]; exact w_rt ⟨F1, rfl⟩
    · by_cases c1 : i = 1
      · rw [if_pos (show 0 ≤ i ∧ i ≤ 2 by omega), if_neg (by decide), if_neg c0, if_pos c1, if_neg c0, if_pos c1]; exact w_rt ⟨F1, rfl⟩
      · by_cases c2 : i = 2
        · rw [if_pos (show 0 ≤ i ∧ i ≤ 2 by omega), if_neg (by decide), if_neg c0, if_neg c1, if_neg c0, if_neg c1, if_pos c2]; exact w_rt ⟨F1, rfl⟩
        · rw [if_neg (show ¬ (0 ≤ i ∧ i ≤ 2) by omega), if_pos rfl, if_neg c0, if_neg c1, if_neg c2]; exact w_rt ⟨F1, rfl⟩
  · rw [if_neg c, if_pos rfl, if_neg c]; exact w_rt ⟨F1, rfl⟩

theorem xq_cycles {W : WLD} (o_ : OW T W) {i : Int} : SX T (fun G => fX11_cycles 0 i G) W W (fun r => r = (if i = 0 then cnt (lea W.1) 8 else if i = 1 then bits (onC W.1) 8 else if i = 2 then bits (hng W.1) 8 else if i = 3 then bits (brk W.1) 8 else -1)) := by
  refine SX_q (fun G cw => ?_)
  obtain ⟨w, hw, wu, hS, hk, wm, u16⟩ := o_
  obtain ⟨hT_G, hA_G, hP, xs, kx, xm⟩ := cw
  show WP (fX11_cycles 0 i G) _
  unfold fX11_cycles
  simp only [rf_0_0, rf_0_1, rf_0_3, rf_0_5, rf_0_6, rf_0_7, rf_0_8, rf_0_9, rf_0_10, rf_0_11, rf_4_4, rf_4_5, rf_4_8]
  rw [x_cycleCount w hw hA_G hT_G, x_onCycles w hw hA_G hT_G, x_hangers w hw hA_G hT_G, x_broken w hw hA_G hT_G, bp_s, bp_s, bp_s, bp_s]
  by_cases c0 : i = 0
  · rw [if_pos c0, if_pos c0]; exact w_rt ⟨FCQ.rf G, hA_G, rfl⟩
  · rw [if_neg c0, if_neg c0]
    by_cases c1 : i = 1
    · rw [if_pos c1, if_pos c1]; exact w_rt ⟨FCQ.rf G, hA_G, rfl⟩
    · rw [if_neg c1, if_neg c1]
      by_cases c2 : i = 2
      · rw [if_pos c2, if_pos c2]; exact w_rt ⟨FCQ.rf G, hA_G, rfl⟩
      · rw [if_neg c2, if_neg c2]
        by_cases c3 : i = 3
        · rw [if_pos c3, if_pos c3]; exact w_rt ⟨FCQ.rf G, hA_G, rfl⟩
        · rw [if_neg c3, if_neg c3]; exact w_rt ⟨FCQ.rf G, hA_G, rfl⟩
theorem mq_cycles {W : WLD} (o_ : OW T W) {i : Int} : SM T (fun G => fX12_cycles 111 i G) W W (fun r => r = (if i = 0 then cnt (lea W.1) 8 else if i = 1 then bits (onC W.1) 8 else if i = 2 then bits (hng W.1) 8 else if i = 3 then bits (brk W.1) 8 else -1)) := by
  refine SM_q o_ (fun G rw_ => ?_)
  obtain ⟨w, hw, wu, hS, hk, wm, u16⟩ := o_
  obtain ⟨hM_G, hR_G, hP, ms, kx, xm⟩ := rw_
  show WP (fX12_cycles 111 i G) _
  have R1 : MR 0 W.1 (up G 111 0 0) := hR_G.fr (up_ne (by decide))
  have M1 : MT T (up G 111 0 0) := hM_G.fr (up_ne (by decide)) (up_ne (by decide))
  have F1 : FRS G (up G 111 0 0) := FRS.th
  unfold fX12_cycles
  rw [bh_s]
  generalize up G 111 0 0 = G1 at R1 M1 F1 ⊢
  have m1 : fX12_cycleSet 111 0 G1 = some (bits (onC W.1) 8, G1) := m_cycleSet (b := 0) w hw (by omega) R1 M1
  have m2 : fX12_brokenSet 111 0 G1 = some (bits (brk W.1) 8, G1) := m_brokenSet (b := 0) w hw (by omega) R1 M1
  have m3 : fX12_cyclesMany 111 0 G1 = some (cnt (lea W.1) 8, G1) := m_cyclesMany (b := 0) w hw (by omega) R1 M1
  have m4 : fX12_inSet 111 0 G1 = some (W.1.1, G1) := m_inSet (b := 0) w (by omega) M1 R1 hw
  have r1 := bits8_r (onC W.1)
  have r2 := bits8_r (brk W.1)
  have va := hw.1
  unfold okv at va
  rw [m1, bp_s, bd_s, m2, bp_s, bd_s, m3, bp_s, m4, bp_s, isub_id (a := W.1.1) (by omega) (by omega), isub_id (by omega) (by omega)]
  have hh := hng_sum hw
  by_cases c0 : i = 0
  · rw [if_pos c0, if_pos c0]; exact w_rt ⟨F1, rfl⟩
  · rw [if_neg c0, if_neg c0]
    by_cases c1 : i = 1
    · rw [if_pos c1, if_pos c1]; exact w_rt ⟨F1, rfl⟩
    · rw [if_neg c1, if_neg c1]
      by_cases c2 : i = 2
      · rw [if_pos c2, if_pos c2]; exact w_rt ⟨F1, hh⟩
      · rw [if_neg c2, if_neg c2]
        by_cases c3 : i = 3
        · rw [if_pos c3, if_pos c3]; exact w_rt ⟨F1, rfl⟩
        · rw [if_neg c3, if_neg c3]; exact w_rt ⟨F1, rfl⟩

theorem m_canFind (w : WT T) (hw : WA T a) (hR_G : MR 0 a G) (hM_G : MT T G) {n p : Int} : fX12_canFind 111 n p G = some (if isi a n = 1 ∧ 0 ≤ p ∧ p < tC T then 1 else 0, G) := by
  have wr := w.rg
  have ni := hw.inr (n := n)
  unfold fX12_canFind
  rw [m_isNode hM_G, bp_s, m_isPlace hM_G, bp_s]
  by_cases c : 0 ≤ n ∧ n < tN T
  · have m2 : fX12_isIn 111 0 n G = some (isi a n, G) := m_isIn (b := 0) hR_G (by omega) (by omega)
    rw [if_pos c, if_neg (by decide), m2, bp_s]
    by_cases d : 0 ≤ p ∧ p < tC T
    · rw [if_pos d, if_neg (by decide)]
      rcases isi_01 a n with q | q
      · rw [if_pos q, if_neg (by omega)]; rfl
      · rw [if_neg (by omega), if_pos ⟨q, d⟩]; rfl
    · rw [if_neg d, if_pos rfl, if_neg (fun z => d z.2)]; rfl
  · rw [if_neg c, if_pos rfl, if_neg (fun z => by omega)]; rfl
theorem xq_find {W : WLD} (o_ : OW T W) {n p : Int} : SX T (fun G => fX11_find 0 n p G) W W (fun r => r = (if isi W.1 n = 1 ∧ 0 ≤ p ∧ p < tC T ∧ skf T W.1 n p ≠ -1 then skf T W.1 n p else -1)) := by
  refine SX_q (fun G cw => ?_)
  obtain ⟨w, hw, wu, hS, hk, wm, u16⟩ := o_
  obtain ⟨hT_G, hA_G, hP, xs, kx, xm⟩ := cw
  show WP (fX11_find 0 n p G) _
  unfold fX11_find
  simp only [rf_0_0, rf_0_1, rf_0_3, rf_0_5, rf_0_6, rf_0_7, rf_0_8, rf_0_9, rf_0_10, rf_0_11, rf_4_4, rf_4_5, rf_4_8]
  refine w_bn (x_seek2 w hw hA_G hT_G (n := n) (p := p)) (fun v G2 y => ?_)
  obtain ⟨f2, sy, sn⟩ := y
  have FF : FCQ G G2 := fun c _ _ x3 x4 _ _ _ _ _ _ _ => f2 c x3 x4
  have A2 : XA 27 W.1 G2 := hA_G.fr (f2 27 (by decide) (by decide)) (f2 28 (by decide) (by decide))
  by_cases c : isi W.1 n = 1 ∧ 0 ≤ p ∧ p < tC T
  · have s := sy c
    refine w_ite (fun z => ?_) (fun z => ?_)
    · exact w_rt ⟨FF, A2, by rw [if_neg (fun y => by omega)]⟩
    · exact w_rt ⟨FF, A2, by rw [if_pos ⟨c.1, c.2.1, c.2.2, by omega⟩]; exact s.1⟩
  · have s := sn c
    rw [if_pos s.1, if_neg (fun y => c ⟨y.1, y.2.1, y.2.2.1⟩)]
    exact w_rt ⟨FF, A2, rfl⟩
theorem mq_find {W : WLD} (o_ : OW T W) {n p : Int} : SM T (fun G => fX12_find 111 n p G) W W (fun r => r = (if isi W.1 n = 1 ∧ 0 ≤ p ∧ p < tC T ∧ skf T W.1 n p ≠ -1 then skf T W.1 n p else -1)) := by
  refine SM_q o_ (fun G rw_ => ?_)
  obtain ⟨w, hw, wu, hS, hk, wm, u16⟩ := o_
  obtain ⟨hM_G, hR_G, hP, ms, kx, xm⟩ := rw_
  show WP (fX12_find 111 n p G) _
  have R1 : MR 0 W.1 (up G 111 0 0) := hR_G.fr (up_ne (by decide))
  have M1 : MT T (up G 111 0 0) := hM_G.fr (up_ne (by decide)) (up_ne (by decide))
  have F1 : FRS G (up G 111 0 0) := FRS.th
  unfold fX12_find
  rw [bh_s]
  generalize up G 111 0 0 = G1 at R1 M1 F1 ⊢
  have wr := w.rg
  have ni := hw.inr (n := n)
  rw [m_canFind w hw R1 M1, bp_s]
  by_cases c : isi W.1 n = 1 ∧ 0 ≤ p ∧ p < tC T
  · rw [if_pos c, if_neg (by decide)]
    refine w_bn (m_finds (b := 0) w hw (by omega) R1 M1 (n := n) (p := p) (by omega) (by omega) (by omega)) (fun v G4 y => ?_)
    refine w_rt ⟨F1.tr (FSx.S ⟨fun c x y' _ => y.1 c x y', y.2.1⟩), ?_⟩
    rw [y.2.2.1]
    by_cases z : skf T W.1 n p = -1
    · rw [if_neg (fun t => t.2.2.2 z)]; exact z
    · rw [if_pos ⟨c.1, c.2.1, c.2.2, z⟩]
  · rw [if_neg c, if_pos rfl, if_neg (fun y => c ⟨y.1, y.2.1, y.2.2.1⟩)]; exact w_rt ⟨F1, rfl⟩

theorem xq_steps {W : WLD} (o_ : OW T W) {n p : Int} : SX T (fun G => fX11_steps 0 n p G) W W (fun r => r = (if isi W.1 n = 1 ∧ 0 ≤ p ∧ p < tC T ∧ skf T W.1 n p ≠ -1 then skt T W.1 n p else -1)) := by
  refine SX_q (fun G cw => ?_)
  obtain ⟨w, hw, wu, hS, hk, wm, u16⟩ := o_
  obtain ⟨hT_G, hA_G, hP, xs, kx, xm⟩ := cw
  show WP (fX11_steps 0 n p G) _
  unfold fX11_steps
  simp only [rf_0_0, rf_0_1, rf_0_3, rf_0_5, rf_0_6, rf_0_7, rf_0_8, rf_0_9, rf_0_10, rf_0_11, rf_4_4, rf_4_5, rf_4_8]
  refine w_bn (x_seek2 w hw hA_G hT_G (n := n) (p := p)) (fun v G2 y => ?_)
  obtain ⟨f2, sy, sn⟩ := y
  have FF : FCQ G G2 := fun c _ _ x3 x4 _ _ _ _ _ _ _ => f2 c x3 x4
  have A2 : XA 27 W.1 G2 := hA_G.fr (f2 27 (by decide) (by decide)) (f2 28 (by decide) (by decide))
  by_cases c : isi W.1 n = 1 ∧ 0 ≤ p ∧ p < tC T
  · have s := sy c
    refine w_ite (fun z => ?_) (fun z => ?_)
    · exact w_rt ⟨FF, A2, by rw [if_neg (fun y => by omega)]⟩
    · exact w_rt ⟨FF, A2, by rw [if_pos ⟨c.1, c.2.1, c.2.2, by omega⟩]; exact s.2.1⟩
  · have s := sn c
    rw [if_pos s.1, if_neg (fun y => c ⟨y.1, y.2.1, y.2.2.1⟩)]
    exact w_rt ⟨FF, A2, rfl⟩
theorem mq_steps {W : WLD} (o_ : OW T W) {n p : Int} : SM T (fun G => fX12_steps 111 n p G) W W (fun r => r = (if isi W.1 n = 1 ∧ 0 ≤ p ∧ p < tC T ∧ skf T W.1 n p ≠ -1 then skt T W.1 n p else -1)) := by
  refine SM_q o_ (fun G rw_ => ?_)
  obtain ⟨w, hw, wu, hS, hk, wm, u16⟩ := o_
  obtain ⟨hM_G, hR_G, hP, ms, kx, xm⟩ := rw_
  show WP (fX12_steps 111 n p G) _
  have R1 : MR 0 W.1 (up G 111 0 0) := hR_G.fr (up_ne (by decide))
  have M1 : MT T (up G 111 0 0) := hM_G.fr (up_ne (by decide)) (up_ne (by decide))
  have F1 : FRS G (up G 111 0 0) := FRS.th
  unfold fX12_steps
  rw [bh_s]
  generalize up G 111 0 0 = G1 at R1 M1 F1 ⊢
  have wr := w.rg
  have ni := hw.inr (n := n)
  rw [m_canFind w hw R1 M1, bp_s]
  by_cases c : isi W.1 n = 1 ∧ 0 ≤ p ∧ p < tC T
  · rw [if_pos c, if_neg (by decide)]
    refine w_bn (m_stepsTo (b := 0) w hw (by omega) R1 M1 (n := n) (p := p) (by omega) (by omega) (by omega)) (fun v G4 y => ?_)
    refine w_rt ⟨F1.tr (FSx.S ⟨fun c x y' _ => y.1 c x y', y.2.1⟩), ?_⟩
    rcases y.2.2.1 with z | z
    · rw [if_neg (fun t => t.2.2.2 z.1)]; exact z.2
    · rw [if_pos ⟨c.1, c.2.1, c.2.2, z.1⟩]; exact z.2
  · rw [if_neg c, if_pos rfl, if_neg (fun y => c ⟨y.1, y.2.1, y.2.2.1⟩)]; exact w_rt ⟨F1, rfl⟩

theorem xq_judged {W : WLD} (o_ : OW T W) {i : Int} : SX T (fun G => fX11_judged 0 i G) W W (fun r => r = (if 0 ≤ i ∧ i ≤ 2 then jdg T W.2.2.2.1 i else -2)) := by
  refine SX_q (fun G cw => ?_)
  obtain ⟨w, hw, wu, hS, hk, wm, u16⟩ := o_
  obtain ⟨hT_G, hA_G, hP, xs, kx, xm⟩ := cw
  show WP (fX11_judged 0 i G) _
  unfold fX11_judged
  simp only [rf_0_0, rf_0_1, rf_0_3, rf_0_5, rf_0_6, rf_0_7, rf_0_8, rf_0_9, rf_0_10, rf_0_11, rf_4_4, rf_4_5, rf_4_8]
  by_cases c : i < 0
  · rw [if_pos c, if_neg (by omega)]; exact w_rt ⟨FCQ.rf G, hA_G, rfl⟩
  · rw [if_neg c]
    by_cases d : 2 < i
    · rw [if_pos d, if_neg (by omega)]; exact w_rt ⟨FCQ.rf G, hA_G, rfl⟩
    · rw [if_neg d, if_pos (by omega)]
      refine w_bn (x_judgeWork w hw hA_G hT_G hk kx) (fun v G2 y => ?_)
      exact w_rt ⟨FCQ.oT y.1, y.2.1, y.2.2⟩
theorem mq_judged {W : WLD} (o_ : OW T W) {i : Int} : SM T (fun G => fX12_judged 111 i G) W W (fun r => r = (if 0 ≤ i ∧ i ≤ 2 then jdg T W.2.2.2.1 i else -2)) := by
  refine SM_q o_ (fun G rw_ => ?_)
  obtain ⟨w, hw, wu, hS, hk, wm, u16⟩ := o_
  obtain ⟨hM_G, hR_G, hP, ms, kx, xm⟩ := rw_
  show WP (fX12_judged 111 i G) _
  exact (m_judged w hw hR_G hM_G hk kx).mono (fun r G' q => ⟨q.1, q.2⟩)

theorem xq_rests {W : WLD} (o_ : OW T W) : SX T (fun G => fX11_rests 0 G) W W (fun r => RS T W.1 r) := by
  refine SX_q (fun G cw => ?_)
  obtain ⟨w, hw, wu, hS, hk, wm, u16⟩ := o_
  obtain ⟨hT_G, hA_G, hP, xs, kx, xm⟩ := cw
  show WP (fX11_rests 0 G) _
  unfold fX11_rests
  simp only [rf_0_0, rf_0_1, rf_0_3, rf_0_5, rf_0_6, rf_0_7, rf_0_8, rf_0_9, rf_0_10, rf_0_11, rf_4_4, rf_4_5, rf_4_8]
  refine w_bn (x_roundsTillRest w hw hA_G hT_G) (fun v G2 y => ?_)
  exact w_rt ⟨FCQ.oT y.1, y.2.1, y.2.2⟩
theorem mq_rests {W : WLD} (o_ : OW T W) : SM T (fun G => fX12_rests 111 G) W W (fun r => RS T W.1 r) := by
  refine SM_q o_ (fun G rw_ => ?_)
  obtain ⟨w, hw, wu, hS, hk, wm, u16⟩ := o_
  obtain ⟨hM_G, hR_G, hP, ms, kx, xm⟩ := rw_
  show WP (fX12_rests 111 G) _
  exact (m_rests w hw hR_G hM_G).mono (fun r G' q => ⟨q.1, q.2⟩)

theorem xq_after {W : WLD} (o_ : OW T W) {m i : Int} : SX T (fun G => fX11_after 0 m i G) W W (fun r => r = (if (0 ≤ m ∧ m ≤ 30) ∧ 0 ≤ i ∧ i ≤ 3 then aft T (rn T W.1 m.toNat) i else -1)) := by
  refine SX_q (fun G cw => ?_)
  obtain ⟨w, hw, wu, hS, hk, wm, u16⟩ := o_
  obtain ⟨hT_G, hA_G, hP, xs, kx, xm⟩ := cw
  show WP (fX11_after 0 m i G) _
  unfold fX11_after
  simp only [rf_0_0, rf_0_1, rf_0_3, rf_0_5, rf_0_6, rf_0_7, rf_0_8, rf_0_9, rf_0_10, rf_0_11, rf_4_4, rf_4_5, rf_4_8]
  by_cases c : (0 ≤ m ∧ m ≤ 30) ∧ 0 ≤ i ∧ i ≤ 3
  · rw [if_neg (by omega), if_neg (by omega), if_neg (by omega), if_neg (by omega), if_pos c]
    refine w_bn (x_afterRounds w hw hA_G hT_G c.1 c.2) (fun v G2 y => ?_)
    exact w_rt ⟨FCQ.oT y.1, y.2.1, y.2.2⟩
  · rw [if_neg c]
    refine w_ite (fun _ => w_rt ⟨FCQ.rf G, hA_G, rfl⟩) (fun c1 => w_ite (fun _ => w_rt ⟨FCQ.rf G, hA_G, rfl⟩) (fun c2 => w_ite (fun _ => w_rt ⟨FCQ.rf G, hA_G, rfl⟩) (fun c3 => w_ite (fun _ => w_rt ⟨FCQ.rf G, hA_G, rfl⟩) (fun c4 => absurd (by omega) c))))
theorem mq_after {W : WLD} (o_ : OW T W) {m i : Int} : SM T (fun G => fX12_after 111 m i G) W W (fun r => r = (if (0 ≤ m ∧ m ≤ 30) ∧ 0 ≤ i ∧ i ≤ 3 then aft T (rn T W.1 m.toNat) i else -1)) := by
  refine SM_q o_ (fun G rw_ => ?_)
  obtain ⟨w, hw, wu, hS, hk, wm, u16⟩ := o_
  obtain ⟨hM_G, hR_G, hP, ms, kx, xm⟩ := rw_
  show WP (fX12_after 111 m i G) _
  exact (m_after w hw hR_G hM_G).mono (fun r G' q => ⟨q.1, q.2⟩)

theorem xq_drives {W : WLD} (o_ : OW T W) {g m i : Int} : SX T (fun G => fX11_drives 0 g m i G) W W (fun r => r = (if (0 ≤ g ∧ g ≤ 9999) ∧ (1 ≤ m ∧ m ≤ 99) ∧ 0 ≤ i ∧ i ≤ 2 then (if 0 < tN T then drv gN dr T W.1 g m i else 0) else -1)) := by
  refine SX_q (fun G cw => ?_)
  obtain ⟨w, hw, wu, hS, hk, wm, u16⟩ := o_
  obtain ⟨hT_G, hA_G, hP, xs, kx, xm⟩ := cw
  show WP (fX11_drives 0 g m i G) _
  unfold fX11_drives
  simp only [rf_0_0, rf_0_1, rf_0_3, rf_0_5, rf_0_6, rf_0_7, rf_0_8, rf_0_9, rf_0_10, rf_0_11, rf_4_4, rf_4_5, rf_4_8]
  by_cases c : (0 ≤ g ∧ g ≤ 9999) ∧ (1 ≤ m ∧ m ≤ 99) ∧ 0 ≤ i ∧ i ≤ 2
  · rw [if_neg (by omega), if_neg (by omega), if_neg (by omega), if_neg (by omega), if_neg (by omega), if_neg (by omega), if_pos c]
    refine w_bn (x_drive gN_ok dr_r x_draw w hw hA_G hT_G ⟨by omega, by omega⟩ c.2.1) (fun v G2 y => ?_)
    exact w_rt ⟨FCQ.oT y.1, y.2.1, y.2.2⟩
  · rw [if_neg c]
    refine w_ite (fun _ => w_rt ⟨FCQ.rf G, hA_G, rfl⟩) (fun c1 => w_ite (fun _ => w_rt ⟨FCQ.rf G, hA_G, rfl⟩) (fun c2 => w_ite (fun _ => w_rt ⟨FCQ.rf G, hA_G, rfl⟩) (fun c3 => w_ite (fun _ => w_rt ⟨FCQ.rf G, hA_G, rfl⟩) (fun c4 => w_ite (fun _ => w_rt ⟨FCQ.rf G, hA_G, rfl⟩) (fun c5 => w_ite (fun _ => w_rt ⟨FCQ.rf G, hA_G, rfl⟩) (fun c6 => absurd (by omega) c))))))
theorem mq_drives {W : WLD} (o_ : OW T W) {g m i : Int} : SM T (fun G => fX12_drives 111 g m i G) W W (fun r => r = (if (0 ≤ g ∧ g ≤ 9999) ∧ (1 ≤ m ∧ m ≤ 99) ∧ 0 ≤ i ∧ i ≤ 2 then (if 0 < tN T then drv gN dr T W.1 g m i else 0) else -1)) := by
  refine SM_q o_ (fun G rw_ => ?_)
  obtain ⟨w, hw, wu, hS, hk, wm, u16⟩ := o_
  obtain ⟨hM_G, hR_G, hP, ms, kx, xm⟩ := rw_
  show WP (fX12_drives 111 g m i G) _
  exact (m_drives gN_ok dr_r m_draw w hw hR_G hM_G).mono (fun r G' q => ⟨q.1, q.2⟩)

theorem xq_who {W : WLD} (o_ : OW T W) : SX T (fun G => fX11_who 0 G) W W (fun r => r = bits (who T W.1 W.2.2.1) 8) := by
  refine SX_q (fun G cw => ?_)
  obtain ⟨w, hw, wu, hS, hk, wm, u16⟩ := o_
  obtain ⟨hT_G, hA_G, hP, xs, kx, xm⟩ := cw
  show WP (fX11_who 0 G) _
  unfold fX11_who
  simp only [rf_0_0, rf_0_1, rf_0_3, rf_0_5, rf_0_6, rf_0_7, rf_0_8, rf_0_9, rf_0_10, rf_0_11, rf_4_4, rf_4_5, rf_4_8]
  rw [hA_G.1]
  refine w_bn (x_suspects w hw hA_G hT_G hS xs) (fun v G2 y => ?_)
  exact w_rt ⟨FCQ.oQ y.1, y.1.A hA_G, y.2⟩
theorem mq_who {W : WLD} (o_ : OW T W) : SM T (fun G => fX12_who 111 G) W W (fun r => r = bits (who T W.1 W.2.2.1) 8) := by
  refine SM_q o_ (fun G rw_ => ?_)
  obtain ⟨w, hw, wu, hS, hk, wm, u16⟩ := o_
  obtain ⟨hM_G, hR_G, hP, ms, kx, xm⟩ := rw_
  show WP (fX12_who 111 G) _
  have R1 : MR 0 W.1 (up G 111 0 0) := hR_G.fr (up_ne (by decide))
  have M1 : MT T (up G 111 0 0) := hM_G.fr (up_ne (by decide)) (up_ne (by decide))
  have F1 : FRS G (up G 111 0 0) := FRS.th
  unfold fX12_who
  have S1 : MSe 0 W.2.2.1 (up G 111 0 0) := ms.fr (up_ne (by decide))
  rw [bh_s]
  generalize up G 111 0 0 = G1 at S1 R1 M1 F1 ⊢
  refine w_bn (m_whoNow w hw R1 M1 hS S1) (fun v G3 y => ?_)
  exact w_rt ⟨F1.tr y.1.S, y.2⟩

theorem xq_ask {W : WLD} (o_ : OW T W) : SX T (fun G => fX11_ask 0 G) W W (fun r => r = (aqS T W.1 (bits (who T W.1 W.2.2.1) 8) (tC T).toNat).1) := by
  refine SX_q (fun G cw => ?_)
  obtain ⟨w, hw, wu, hS, hk, wm, u16⟩ := o_
  obtain ⟨hT_G, hA_G, hP, xs, kx, xm⟩ := cw
  show WP (fX11_ask 0 G) _
  unfold fX11_ask
  simp only [rf_0_0, rf_0_1, rf_0_3, rf_0_5, rf_0_6, rf_0_7, rf_0_8, rf_0_9, rf_0_10, rf_0_11, rf_4_4, rf_4_5, rf_4_8]
  rw [hA_G.1, hT_G.1]
  refine w_bn (x_bestQuestion w hw hA_G hT_G hS xs) (fun v G2 y => ?_)
  exact w_rt ⟨FCQ.oQ y.1, y.1.A hA_G, y.2⟩
theorem mq_ask {W : WLD} (o_ : OW T W) : SM T (fun G => fX12_ask 111 G) W W (fun r => r = (aqS T W.1 (bits (who T W.1 W.2.2.1) 8) (tC T).toNat).1) := by
  refine SM_q o_ (fun G rw_ => ?_)
  obtain ⟨w, hw, wu, hS, hk, wm, u16⟩ := o_
  obtain ⟨hM_G, hR_G, hP, ms, kx, xm⟩ := rw_
  show WP (fX12_ask 111 G) _
  exact (m_ask w hw hR_G hM_G hS ms).mono (fun r G' q => ⟨q.1, q.2⟩)

end WLDS
