section DEE
variable {b : Nat} {a : AS} {G : Hp} {T : TT}
/-! what is so of every state is so after a deed -/
theorem WA_eFix (hw : WA T a) (w : WT T) {n i : Int} : WA T (eFix T a n i).2 := by
  unfold eFix; split
  · rename_i c
    refine hw.dF c.1 (fun k => ?_)
    have := hw.fr n k
    have := (skf_r hw w n (fp T n i)).1
    split <;> omega
  · exact hw
theorem WA_hn (hw : WA T a) (w : WT T) {n : Int} (m : Int) : WA T (dH a (fun k => if k < m then hnK T a n k else hld a k)) := by
  refine hw.dH w (fun k => ?_) (fun k q => ?_)
  · have := hw.hr k
    have := (skf_r hw w n (tl T k)).1
    unfold hnK
    split
    · split <;> omega
    · omega
  · have := hw.kz q
    unfold hnK
    split
    · rw [if_neg (by omega)]; exact this
    · exact this
theorem WA_eBeg (hw : WA T a) (w : WT T) {n : Int} : WA T (eBeg T a n).2 := by
  unfold eBeg; split
  · rename_i c
    have wr := w.rg
    refine (hw.dIn w c.1 c.2.1).dLs (by rw [dIn_isi hw.1 c.1 (by omega), if_pos rfl]) (fun k => ?_) (fun k k1 q => ?_) (fun k j k1 k2 q => ?_)
    · split <;> omega
    · rw [if_neg (by omega)] at q; exact absurd rfl q
    · by_cases z : k = 0
      · rw [if_pos z, if_neg (by omega)] at q; rw [if_pos z]; exact q
      · rw [if_neg z]
  · exact hw
theorem WA_eJoin (hw : WA T a) (w : WT T) {n y : Int} : WA T (eJoin T a n y).2 := by
  unfold eJoin; split
  · rename_i c
    have wr := w.rg
    have sr := (skf_r hw w y (tp T n)).1
    have e : nls T a n (skf T a y (tp T n)) = nls T (dIn a n) n (skf T a y (tp T n)) := nl_cg (fun k => (dIn_lst n _ k).symm)
    show WA T (dLs (dIn a n) n _)
    rw [e]
    exact WA_nl (hw.dIn w c.1 c.2.1) w (by rw [dIn_isi hw.1 c.1 (by omega), if_pos rfl]) (by omega) (by omega)
  · exact hw
theorem WA_dPs (hw : WA T a) (w : WT T) {f t : Int} (hf : f ≠ -1) (ht : -1 ≤ t ∧ t < tN T) : WA T (dPs a f t) := by
  refine hw.dH w (fun k => ?_) (fun k q => ?_)
  · have := hw.hr k
    split <;> omega
  · have := hw.kz q
    rw [if_neg (by omega)]; exact this
theorem WA_eLeave (hw : WA T a) (w : WT T) {n : Int} : WA T (eLeave a n).2 := by
  unfold eLeave; split
  · rename_i c
    have wr := w.rg
    have := hw.inr (n := n)
    have := hw.f4 w (n := n)
    exact (WA_dPs hw w (by omega) (by omega)).dOut (by omega) (by omega)
  · exact hw
theorem WA_eFail (hw : WA T a) (w : WT T) {n : Int} : WA T (eFail a n).2 := by
  unfold eFail; split
  · rename_i c
    have wr := w.rg
    have := hw.inr (n := n)
    exact (WA_dPs hw w (by omega) (by omega)).dOut (by omega) (by omega)
  · exact hw
theorem mnt_r (hw : WA T a) (w : WT T) {n : Int} (hf : fst4 a a.1 n ≠ -1) : 0 ≤ mnt T a n ∧ mnt T a n < tN T ∧ isi a (mnt T a n) = 1 := by
  have := hw.f4 w (n := n)
  unfold mnt; split
  · rename_i c
    have := hw.inr (n := ahd a (fst4 a a.1 n))
    omega
  · omega
theorem WA_dRec (hw : WA T a) (w : WT T) {m n : Int} (hm : isi a m = 1) (h1 : 0 ≤ n) (h2 : n < tN T) : WA T (dRec T a m n) := by
  unfold dRec; split
  · exact hw
  · refine (hw.dA hm (by omega)).dH w (fun k => ?_) (fun k q => ?_)
    · have := hw.hr k
      unfold rcK; split <;> omega
    · have := hw.kz q
      unfold rcK; rw [if_neg (by omega)]; exact this
theorem WA_eTidy (hw : WA T a) (w : WT T) {n : Int} : WA T (eTidy T a n).2 := by
  unfold eTidy; split
  · rename_i c
    have m := mnt_r hw w c.2
    have := hw.inr (n := n)
    exact WA_dRec (WA_nl hw w c.1 m.1 m.2.1) w m.2.2 (by omega) (by omega)
  · exact hw
theorem WA_eFlush (hw : WA T a) (w : WT T) {n : Int} : WA T (eFlush a n).2 := by
  unfold eFlush; split
  · rename_i c; exact WA_dFl hw w c
  · exact hw
theorem WA_ePut (hw : WA T a) (w : WT T) {k y : Int} : WA T (ePut T a k y).2 := by
  unfold ePut; split
  · rename_i c
    have := (skf_r hw w y (tl T k)).1
    refine hw.dH w (fun j => ?_) (fun j q => ?_)
    · have := hw.hr j
      split <;> omega
    · rw [if_neg (by omega)]; exact hw.kz q
  · exact hw
theorem WA_eHand (hw : WA T a) (w : WT T) {n : Int} : WA T (eHand T a n).2 := by
  unfold eHand; split
  · refine hw.dH w (fun k => ?_) (fun k q => ?_)
    · have := hw.hr k
      have := (skf_r hw w n (tl T k)).1
      unfold hnK; split <;> omega
    · unfold hnK; rw [if_neg (by omega)]; exact hw.kz q
  · exact hw
theorem WA_mnS (hw : WA T a) (w : WT T) {n : Int} : ∀ i, WA T (mnS T a n i).2
  | 0 => hw
  | i + 1 => WA_eFix (WA_mnS hw w i) w
theorem WA_eMend (hw : WA T a) (w : WT T) {n : Int} : WA T (eMend T a n).2 := by
  unfold eMend; split
  · exact WA_mnS hw w 8
  · exact hw
theorem x_doTidy (w : WT T) (hw : WA T a) (hA_G : XA 27 a G) (hT_G : XT T G) {n : Int} : WP (fX0_doTidy 31 n G) (fun r G' => FRD G G' ∧ r = (eTidy T a n).1 ∧ XA 27 (eTidy T a n).2 G') := by
  have wr := w.rg
  unfold fX0_doTidy
  simp only [rf_31_0, rf_31_1]
  refine w_bp (x_isIn hA_G hw.1) (fun v1 hv1 => ?_)
  have qv1 := hw.inr (n := n)
  refine w_ite (fun c_1 => ?_) (fun c_1 => ?_)
  · skip
    refine w_rt ?_
    have e : eTidy T a n = (-1, a) := by unfold eTidy; exact if_neg (by omega)
    rw [e]; exact ⟨FRD.rf G, by first | rfl | decide, hA_G⟩
  · skip
    refine w_bp (x_first hA_G hw w) (fun v2 hv2 => ?_)
    have qv2 := hw.f4 w (n := n)
    refine w_bd (fun v3 hv3 => ?_)
    refine w_ite (fun c_2 => ?_) (fun c_2 => ?_)
    · skip
      refine w_rt ?_
      have e : eTidy T a n = (-1, a) := by unfold eTidy; exact if_neg (by omega)
      rw [e]; exact ⟨FRD.rf G, by first | rfl | decide, hA_G⟩
    · skip
      refine w_bp (x_aheadOf hA_G) (fun v4 hv4 => ?_)
      have qv4 := hw.ar v3
      refine w_bd (fun v5 hv5 => ?_)
      refine w_bp (x_isIn hA_G hw.1) (fun v6 hv6 => ?_)
      have qv6 := hw.inr (n := v5)
      refine w_jn ?_
      refine w_ite (fun c_3 => ?_) (fun c_3 => ?_)
      · skip
        have em : mnt T a n = v3 := by unfold mnt; rw [← hv2, ← hv3, ← hv4, ← hv5]; first | (rw [if_pos (by omega)]; omega) | (rw [if_pos (by omega)]) | (rw [if_neg (by omega)])
        have mr : 0 ≤ v3 ∧ v3 < tN T := by omega
        refine w_bn (x_setListBy w hw hA_G hT_G (n := n) (f := v3) (by omega) (by omega) (by omega) (by omega)) (fun _ G9 q9 => ?_)
        obtain ⟨f9, x9⟩ := q9
        have hT_G9 : XT T G9 := hT_G.fr (f9 4 (by decide) (by decide)) (f9 5 (by decide) (by decide)) (f9 6 (by decide) (by decide)) (f9 9 (by decide) (by decide))
        have e : eTidy T a n = (mnt T a n, dRec T (dLs a n (nls T a n (mnt T a n))) (mnt T a n) n) := by unfold eTidy; exact if_pos (by omega)
        have hw9 : WA T (dLs a n (nls T a n v3)) := WA_nl hw w (by omega) (by omega) (by omega)
        refine w_ite (fun c_4 => ?_) (fun c_4 => ?_)
        · skip
          refine w_rt ?_
          rw [e, em]
          refine ⟨fun c x1 x2 x3 x4 x5 => by rw [f9 c x2 x5], rfl, ?_⟩
          show XA 27 (dRec T _ _ n) G9
          unfold dRec; rw [if_pos (Or.inl (by assumption))]; exact x9
        · skip
          refine w_bn (x_rectify w hw9 x9 hT_G9 (m := v3) (n := n) (by omega) (by omega) (by omega) (by omega) (by assumption)) (fun _ G10 q10 => ?_)
          obtain ⟨f10, x10⟩ := q10
          refine w_rt ?_
          rw [e, em]
          exact ⟨fun c x1 x2 x3 x4 x5 => by rw [f10 c x2, f9 c x2 x5], rfl, x10⟩
      · skip
        refine w_bp (x_isBetween hT_G w (by omega) (by omega) (by omega) (by omega) (by omega) (by omega)) (fun v13 hv13 => ?_)
        have qv13 : ((wT T n v5 < wT T n v3) ∧ v13 = 1) ∨ (¬ (wT T n v5 < wT T n v3) ∧ v13 = 0) := by rw [hv13]; exact ite01 _
        refine w_ite (fun c_5 => ?_) (fun c_5 => ?_)
        · skip
          have em : mnt T a n = v3 := by unfold mnt; rw [← hv2, ← hv3, ← hv4, ← hv5]; first | (rw [if_pos (by omega)]; omega) | (rw [if_pos (by omega)]) | (rw [if_neg (by omega)])
          have mr : 0 ≤ v3 ∧ v3 < tN T := by omega
          refine w_bn (x_setListBy w hw hA_G hT_G (n := n) (f := v3) (by omega) (by omega) (by omega) (by omega)) (fun _ G9 q9 => ?_)
          obtain ⟨f9, x9⟩ := q9
          have hT_G9 : XT T G9 := hT_G.fr (f9 4 (by decide) (by decide)) (f9 5 (by decide) (by decide)) (f9 6 (by decide) (by decide)) (f9 9 (by decide) (by decide))
          have e : eTidy T a n = (mnt T a n, dRec T (dLs a n (nls T a n (mnt T a n))) (mnt T a n) n) := by unfold eTidy; exact if_pos (by omega)
          have hw9 : WA T (dLs a n (nls T a n v3)) := WA_nl hw w (by omega) (by omega) (by omega)
          refine w_ite (fun c_6 => ?_) (fun c_6 => ?_)
          · skip
            refine w_rt ?_
            rw [e, em]
            refine ⟨fun c x1 x2 x3 x4 x5 => by rw [f9 c x2 x5], rfl, ?_⟩
            show XA 27 (dRec T _ _ n) G9
            unfold dRec; rw [if_pos (Or.inl (by assumption))]; exact x9
          · skip
            refine w_bn (x_rectify w hw9 x9 hT_G9 (m := v3) (n := n) (by omega) (by omega) (by omega) (by omega) (by assumption)) (fun _ G10 q10 => ?_)
            obtain ⟨f10, x10⟩ := q10
            refine w_rt ?_
            rw [e, em]
            exact ⟨fun c x1 x2 x3 x4 x5 => by rw [f10 c x2, f9 c x2 x5], rfl, x10⟩
        · skip
          refine w_bd (fun v14 hv14 => ?_)
          have em : mnt T a n = v14 := by unfold mnt; rw [← hv2, ← hv3, ← hv4, ← hv5]; first | (rw [if_pos (by omega)]; omega) | (rw [if_pos (by omega)]) | (rw [if_neg (by omega)])
          have mr : 0 ≤ v14 ∧ v14 < tN T := by omega
          refine w_bn (x_setListBy w hw hA_G hT_G (n := n) (f := v14) (by omega) (by omega) (by omega) (by omega)) (fun _ G9 q9 => ?_)
          obtain ⟨f9, x9⟩ := q9
          have hT_G9 : XT T G9 := hT_G.fr (f9 4 (by decide) (by decide)) (f9 5 (by decide) (by decide)) (f9 6 (by decide) (by decide)) (f9 9 (by decide) (by decide))
          have e : eTidy T a n = (mnt T a n, dRec T (dLs a n (nls T a n (mnt T a n))) (mnt T a n) n) := by unfold eTidy; exact if_pos (by omega)
          have hw9 : WA T (dLs a n (nls T a n v14)) := WA_nl hw w (by omega) (by omega) (by omega)
          refine w_ite (fun c_7 => ?_) (fun c_7 => ?_)
          · skip
            refine w_rt ?_
            rw [e, em]
            refine ⟨fun c x1 x2 x3 x4 x5 => by rw [f9 c x2 x5], rfl, ?_⟩
            show XA 27 (dRec T _ _ n) G9
            unfold dRec; rw [if_pos (Or.inl (by assumption))]; exact x9
          · skip
            refine w_bn (x_rectify w hw9 x9 hT_G9 (m := v14) (n := n) (by omega) (by omega) (by omega) (by omega) (by assumption)) (fun _ G10 q10 => ?_)
            obtain ⟨f10, x10⟩ := q10
            refine w_rt ?_
            rw [e, em]
            exact ⟨fun c x1 x2 x3 x4 x5 => by rw [f10 c x2, f9 c x2 x5], rfl, x10⟩

theorem x_eFlush (w : WT T) (hw : WA T a) (hA_G : XA 27 a G) {n : Int} : WP (fX0_doFlush 31 n G) (fun r G' => FRD G G' ∧ r = (eFlush a n).1 ∧ XA 27 (eFlush a n).2 G') := by
  refine (x_doFlush w hw hA_G (n := n)).mono (fun r G' q => ⟨q.1, ?_⟩)
  unfold eFlush
  rcases q.2 with ⟨h1, h2, h3⟩ | ⟨h1, h2, h3⟩
  · rw [if_pos h1]; exact ⟨h2, h3⟩
  · rw [if_neg (by omega)]; exact ⟨h2, by rw [h3]; exact hA_G⟩
theorem m_eFlush (w : WT T) (hw : WA T a) (hb : b ≤ 3410) (hR_G : MR b a G) (hM_G : MT T G) {n : Int} (h2 : n < tN T) : WP (fX12_flushed 111 b n G) (fun r G' => FRM b G G' ∧ r = (eFlush a n).1 ∧ MR b (eFlush a n).2 G') := by
  refine (m_flushed w hw hb hR_G hM_G (n := n) h2).mono (fun r G' q => ⟨q.1, ?_⟩)
  unfold eFlush
  rcases q.2 with ⟨h1, h2, h3⟩ | ⟨h1, h2, h3⟩
  · rw [if_pos h1]; exact ⟨h2, h3⟩
  · rw [if_neg (by omega)]; exact ⟨h2, by rw [h3]; exact hR_G⟩
theorem x_doFix (w : WT T) (hw : WA T a) (hA_G : XA 27 a G) (hT_G : XT T G) {n i : Int} : WP (fX0_doFix 31 n i G) (fun r G' => FRD G G' ∧ r = (eFix T a n i).1 ∧ XA 27 (eFix T a n i).2 G') := by
  have wr := w.rg
  unfold fX0_doFix
  simp only [rf_4_4, rf_31_0, rf_31_1, rf_31_2]
  refine w_bp (x_isIn hA_G hw.1) (fun v1 hv1 => ?_)
  have qv1 := hw.inr (n := n)
  refine w_ite (fun c_1 => ?_) (fun c_1 => ?_)
  · skip
    refine w_rz (by omega) ?_
    have e : eFix T a n i = (0, a) := by unfold eFix; exact if_neg (fun z => by omega)
    rw [e]; exact ⟨FRD.rf G, rfl, hA_G⟩
  · skip
    refine w_rdv (x_kind hT_G w (by omega) (by omega)) (fun v2 hv2 => ?_)
    have qv2 := w.kd (i := n) (by omega) (by omega)
    refine w_ite (fun c_2 => ?_) (fun c_2 => ?_)
    · skip
      refine w_rz (by omega) ?_
      have e : eFix T a n i = (0, a) := by unfold eFix; exact if_neg (fun z => by omega)
      rw [e]; exact ⟨FRD.rf G, rfl, hA_G⟩
    · skip
      refine w_ite (fun c_3 => ?_) (fun c_3 => ?_)
      · skip
        refine w_rz (by omega) ?_
        have e : eFix T a n i = (0, a) := by unfold eFix; exact if_neg (fun z => by omega)
        rw [e]; exact ⟨FRD.rf G, rfl, hA_G⟩
      · skip
        refine w_ite (fun c_4 => ?_) (fun c_4 => ?_)
        · skip
          refine w_bp (x_fingerPlace hT_G w (by omega) (by omega) (by omega) (by omega)) (fun v3 hv3 => ?_)
          have fr3 := fp_r w (n := n) (i := i) (by omega) (by omega) (by omega)
          have c3 : (2 ^ i.toNat < tC T ∧ v3 = fp T n i) ∨ (¬ 2 ^ i.toNat < tC T ∧ v3 = -1) := by
            by_cases z : 2 ^ i.toNat < tC T
            · left; rw [if_pos z] at hv3; exact ⟨z, hv3⟩
            · right; rw [if_neg z] at hv3; exact ⟨z, hv3⟩
          refine w_bd (fun v4 hv4 => ?_)
          refine w_ite (fun c_5 => ?_) (fun c_5 => ?_)
          · skip
            refine w_rz (by omega) ?_
            have e : eFix T a n i = (0, a) := by unfold eFix; exact if_neg (fun z => by omega)
            rw [e]; exact ⟨FRD.rf G, rfl, hA_G⟩
          · skip
            refine w_bn (x_seek2 w hw hA_G hT_G (n := n) (p := v4)) (fun v5 G6 qG6 => ?_)
            obtain ⟨fG6, syG6, snG6⟩ := qG6
            have hA_G6 : XA 27 a G6 := hA_G.fr (fG6 27 (by decide) (by decide)) (fG6 28 (by decide) (by decide))
            have hT_G6 : XT T G6 := (FRD.of fG6).tt hT_G
            refine w_bne (x_setFinger hA_G6 (by omega) (by omega) (by omega) (by omega)) (fun _ G7 _ hG7 => ?_)
            have e3 : 2 ^ i.toNat < tC T ∧ v4 = fp T n i := by omega
            have fr4 := fr3 e3.1
            have s6 := (syG6 (by omega)).1
            have x7 := XA_F (v := G6 29 3) hA_G6 (n := n) (k := i) (by omega) (by omega) (by omega) (by omega)
            rw [← hG7] at x7
            refine w_rz (by omega) ?_
            have e : eFix T a n i = (1, dF a n (fun j => if j = i then skf T a n (fp T n i) else fng a n j)) := by unfold eFix; exact if_pos ⟨by omega, by omega, by omega, by omega, e3.1⟩
            rw [e]
            refine ⟨fun c x1 x2 x3 x4 x5 => by rw [hG7, up_ne x2, fG6 c x3 x4], rfl, ?_⟩
            rw [s6, e3.2] at x7; exact x7
        · skip
          refine w_rz (by omega) ?_
          have e : eFix T a n i = (0, a) := by unfold eFix; exact if_neg (fun z => by omega)
          rw [e]; exact ⟨FRD.rf G, rfl, hA_G⟩

theorem x_doPut (w : WT T) (hw : WA T a) (hA_G : XA 27 a G) (hT_G : XT T G) {k y : Int} : WP (fX0_doPut 31 k y G) (fun r G' => FRD G G' ∧ r = (ePut T a k y).1 ∧ XA 27 (ePut T a k y).2 G') := by
  have wr := w.rg
  unfold fX0_doPut
  simp only [rf_4_8, rf_31_0, rf_31_1, rf_31_2]
  refine w_bp (x_isKey hT_G) (fun v1 hv1 => ?_)
  have qv1 : ((0 ≤ k ∧ k < tK T) ∧ v1 = 1) ∨ (¬ (0 ≤ k ∧ k < tK T) ∧ v1 = 0) := by rw [hv1]; exact ite01 _
  refine w_ite (fun c_1 => ?_) (fun c_1 => ?_)
  · skip
    refine w_rt ?_
    have e : ePut T a k y = (-1, a) := by unfold ePut; exact if_neg (by omega)
    rw [e]; exact ⟨FRD.rf G, by first | rfl | decide, hA_G⟩
  · skip
    refine w_rdv (x_lie hT_G w (by omega) (by omega)) (fun v2 hv2 => ?_)
    have qv2 := w.li (i := k) (by omega) (by omega)
    refine w_bn (x_seek2 w hw hA_G hT_G (n := y) (p := v2)) (fun v3 G4 qG4 => ?_)
    obtain ⟨fG4, syG4, snG4⟩ := qG4
    have hA_G4 : XA 27 a G4 := hA_G.fr (fG4 27 (by decide) (by decide)) (fG4 28 (by decide) (by decide))
    have hT_G4 : XT T G4 := (FRD.of fG4).tt hT_G
    refine w_ite (fun c_2 => ?_) (fun c_2 => ?_)
    · skip
      have sk0 : ¬ (isi a y = 1 ∧ skf T a y (tl T k) ≠ -1) := fun z => by
        have t0 := hw.tlC w z.1 (k := k) (by omega) (by omega)
        have := syG4 (by rw [hv2]; omega)
        rw [hv2] at this; omega
      refine w_rt ?_
      have e : ePut T a k y = (-1, a) := by unfold ePut; exact if_neg (by omega)
      rw [e]; exact ⟨FRD.of fG4, by first | rfl | decide, hA_G4⟩
    · skip
      refine w_bne (x_setHolder hA_G4 (by omega) (by omega)) (fun _ G5 _ hG5 => ?_)
      have sk5 : isi a y = 1 ∧ G4 29 3 = skf T a y (tl T k) ∧ skf T a y (tl T k) ≠ -1 := by
        have s0 : isi a y = 1 ∧ 0 ≤ v2 ∧ v2 < tC T := Classical.byContradiction (fun z => c_2 (snG4 z).1)
        have s1 := syG4 s0
        rw [hv2] at s1
        omega
      have x5 := XA_H (v := G4 29 3) hA_G4 (k := k) (by omega) (by omega)
      rw [← hG5] at x5
      refine w_rt ?_
      have e : ePut T a k y = (skf T a y (tl T k), dH a (fun j => if j = k then skf T a y (tl T k) else hld a j)) := by unfold ePut; exact if_pos (by omega)
      rw [e]
      refine ⟨fun c x1 x2 x3 x4 x5 => by rw [hG5, up_ne x2, fG4 c x3 x4], by rw [hG5, up_ne (by decide)]; exact sk5.2.1, ?_⟩
      rw [sk5.2.1] at x5; exact x5

theorem x_doMend (w : WT T) (hw : WA T a) (hA_G : XA 27 a G) (hT_G : XT T G) {n : Int} : WP (fX0_doMend 31 n G) (fun r G' => FRD G G' ∧ r = (eMend T a n).1 ∧ XA 27 (eMend T a n).2 G') := by
  have wr := w.rg
  unfold fX0_doMend
  simp only [rf_4_4, rf_31_0, rf_31_1]
  refine w_bp (x_isIn hA_G hw.1) (fun v1 hv1 => ?_)
  have qv1 := hw.inr (n := n)
  refine w_ite (fun c_1 => ?_) (fun c_1 => ?_)
  · skip
    refine w_rt ?_
    have e : eMend T a n = (-1, a) := by unfold eMend; exact if_neg (by omega)
    rw [e]; exact ⟨FRD.rf G, by first | rfl | decide, hA_G⟩
  · skip
    refine w_rdv (x_kind hT_G w (by omega) (by omega)) (fun v2 hv2 => ?_)
    have qv2 := w.kd (i := n) (by omega) (by omega)
    refine w_ite (fun c_2 => ?_) (fun c_2 => ?_)
    · skip
      refine w_rt ?_
      have e : eMend T a n = (-1, a) := by unfold eMend; exact if_neg (by omega)
      rw [e]; exact ⟨FRD.rf G, by first | rfl | decide, hA_G⟩
    · skip
      refine w_bd (fun v3 hv3 => ?_)
      refine w_bd (fun v4 hv4 => ?_)
      refine w_lpIIH (fun (v5 : Int) (v6 : Int) (G7 : Hp) => (0 ≤ v6) ∧ (v6 ≤ 8) ∧ (FRD G G7) ∧ (WA T (mnS T a n v6.toNat).2) ∧ (0 ≤ v5 ∧ v5 ≤ v6) ∧ (v5 = (mnS T a n v6.toNat).1) ∧ (XA 27 (mnS T a n v6.toNat).2 G7)) (fun (v5 : Int) (v6 : Int) (G7 : Hp) => (8 - v6).toNat) (fun rc8 v5 v6 G7 hI hrc8 => ?_) _ _ _ ?_ ?_
      · skip
        obtain ⟨i0, i1, f7, w7, b5, e5, x7⟩ := hI
        have hT_G7 : XT T G7 := f7.tt hT_G
        have ms : mnS T a n (v6 + 1).toNat = ((mnS T a n v6.toNat).1 + (if fng (eFix T (mnS T a n v6.toNat).2 n v6).2 n v6 = fng (mnS T a n v6.toNat).2 n v6 then 0 else 1), (eFix T (mnS T a n v6.toNat).2 n v6).2) := by rw [toN1 i0, mnS]; simp only [Int.toNat_of_nonneg i0]
        refine w_ite (fun c_3 => ?_) (fun c_3 => ?_)
        · skip
          refine w_bp (x_fingerAt x7) (fun v9 hv9 => ?_)
          refine w_bd (fun v10 hv10 => ?_)
          refine w_bn (x_doFix w w7 x7 hT_G7 (n := n) (i := v6)) (fun v11 G12 q12 => ?_)
          obtain ⟨f12, e11, x12⟩ := q12
          refine w_bp (x_fingerAt x12) (fun v13 hv13 => ?_)
          refine w_jn ?_
          refine w_ite (fun c_4 => ?_) (fun c_4 => ?_)
          · skip
            refine w_bd (fun v16 hv16 => ?_)
            simp (disch := omega) only [iadd_id, isub_id, imul_id] at hv16
            refine hrc8 _ _ _ ?_ ?_
            · try dsimp only
              refine ⟨?_, ?_, ?_, ?_, ?_, ?_, ?_⟩
              · first | omega | grind
              · first | omega | grind
              · exact f7.tr f12
              · rw [hv16, ms]; exact WA_eFix w7 w
              · first | omega | grind
              · rw [hv16, ms]; show _ = _ + _; rw [← hv9, ← hv10, ← hv13]; first | (rw [if_pos (by omega)]; omega) | (rw [if_neg (by omega)]; omega)
              · rw [hv16, ms]; exact x12
            · try dsimp only
              omega
          · skip
            refine w_bd (fun v17 hv17 => ?_)
            simp (disch := omega) only [iadd_id, isub_id, imul_id] at hv17
            refine w_bd (fun v16 hv16 => ?_)
            simp (disch := omega) only [iadd_id, isub_id, imul_id] at hv16
            refine hrc8 _ _ _ ?_ ?_
            · try dsimp only
              refine ⟨?_, ?_, ?_, ?_, ?_, ?_, ?_⟩
              · first | omega | grind
              · first | omega | grind
              · exact f7.tr f12
              · rw [hv16, ms]; exact WA_eFix w7 w
              · first | omega | grind
              · rw [hv16, ms]; show _ = _ + _; rw [← hv9, ← hv10, ← hv13]; first | (rw [if_pos (by omega)]; omega) | (rw [if_neg (by omega)]; omega)
              · rw [hv16, ms]; exact x12
            · try dsimp only
              omega
        · skip
          refine w_rt ?_
          have e : eMend T a n = mnS T a n 8 := by unfold eMend; exact if_pos (by omega)
          rw [e]
          rw [show v6.toNat = 8 by omega] at e5 x7
          exact ⟨f7, e5, x7⟩
      · try dsimp only
        refine ⟨?_, ?_, ?_, ?_, ?_, ?_, ?_⟩
        · first | omega | (subst_vars; first | rfl | assumption) | assumption
        · first | omega | (subst_vars; first | rfl | assumption) | assumption
        · exact FRD.rf G
        · rw [hv4]; exact hw
        · first | omega | (subst_vars; first | rfl | assumption) | assumption
        · rw [hv4, hv3]; rfl
        · rw [hv4]; exact hA_G
      · try dsimp only
        omega

theorem x_doHand (w : WT T) (hw : WA T a) (hA_G : XA 27 a G) (hT_G : XT T G) {n : Int} : WP (fX0_doHand 31 n G) (fun r G' => FRD G G' ∧ r = (eHand T a n).1 ∧ XA 27 (eHand T a n).2 G') := by
  have wr := w.rg
  unfold fX0_doHand
  simp only [rf_4_8, rf_31_0, rf_31_1, rf_31_2]
  refine w_bp (x_isIn hA_G hw.1) (fun v1 hv1 => ?_)
  have qv1 := hw.inr (n := n)
  refine w_ite (fun c_1 => ?_) (fun c_1 => ?_)
  · skip
    refine w_rt ?_
    have e : eHand T a n = (-1, a) := by unfold eHand; exact if_neg (by omega)
    rw [e]; exact ⟨FRD.rf G, by first | rfl | decide, hA_G⟩
  · skip
    refine w_bd (fun v2 hv2 => ?_)
    refine w_bd (fun v3 hv3 => ?_)
    refine w_lpIIH (fun (v4 : Int) (v5 : Int) (G6 : Hp) => (0 ≤ v5) ∧ (v5 ≤ tK T) ∧ (FRD G G6) ∧ (WA T (dH a (fun k => if k < v5 then hnK T a n k else hld a k))) ∧ (v4 = cnt (fun k => hld a k = n ∧ skf T a n (tl T k) ≠ -1 ∧ skf T a n (tl T k) ≠ n) v5.toNat) ∧ (XA 27 (dH a (fun k => if k < v5 then hnK T a n k else hld a k)) G6)) (fun (v4 : Int) (v5 : Int) (G6 : Hp) => (10 - v5).toNat) (fun rc7 v4 v5 G6 hI hrc7 => ?_) _ _ _ ?_ ?_
    · skip
      obtain ⟨i0, i1, f6, w6, b4, x6⟩ := hI
      have hT_G6 : XT T G6 := f6.tt hT_G
      have k3 : G6 4 3 = tK T := hT_G6.2.2.2.1
      have cr := cnt_r (fun k => hld a k = n ∧ skf T a n (tl T k) ≠ -1 ∧ skf T a n (tl T k) ≠ n) v5.toNat
      have ct := cnt_t (p := fun k => hld a k = n ∧ skf T a n (tl T k) ≠ -1 ∧ skf T a n (tl T k) ≠ n) (i := v5) i0
      have cf := cnt_f (p := fun k => hld a k = n ∧ skf T a n (tl T k) ≠ -1 ∧ skf T a n (tl T k) ≠ n) (i := v5) i0
      have hk : hnK T a n v5 = if v5 < tK T ∧ hld a v5 = n ∧ skf T a n (tl T v5) ≠ -1 then skf T a n (tl T v5) else hld a v5 := rfl
      have wn : WA T (dH a (fun k => if k < v5 + 1 then hnK T a n k else hld a k)) := WA_hn hw w (v5 + 1)
      refine w_ite (fun c_2 => ?_) (fun c_2 => ?_)
      · skip
        refine w_bp (x_holderOf x6) (fun v8 hv8 => ?_)
        have e8 : v8 = hld a v5 := by rw [hv8, dH_hld]; grind
        refine w_jn ?_
        refine w_jn ?_
        refine w_ite (fun c_3 => ?_) (fun c_3 => ?_)
        · skip
          refine w_rdv (x_lie hT_G6 w (by omega) (by omega)) (fun v22 hv22 => ?_)
          have qv22 := w.li (i := v5) (by omega) (by omega)
          refine w_bn (x_seek2 w w6 x6 hT_G6 (n := n) (p := v22)) (fun v23 G24 q24 => ?_)
          obtain ⟨f24, sy24, sn24⟩ := q24
          have sk24 := sy24 (by rw [hv22]; have := hw.tlC w (show isi a n = 1 by omega) (k := v5) (by omega) (by omega); exact ⟨by show isi a n = 1; omega, this⟩)
          rw [skf_H, hv22] at sk24
          have x24 : XA 27 (dH a (fun k => if k < v5 then hnK T a n k else hld a k)) G24 := x6.fr (f24 27 (by decide) (by decide)) (f24 28 (by decide) (by decide))
          have hT_G24 : XT T G24 := (FRD.of f24).tt hT_G6
          have fd24 : FRD G G24 := f6.tr (FRD.of f24)
          refine w_ite (fun c_4 => ?_) (fun c_4 => ?_)
          · skip
            refine w_bd (fun v12 hv12 => ?_)
            refine w_jn ?_
            refine w_ite (fun c_5 => ?_) (fun c_5 => ?_)
            · skip
              refine w_bd (fun v16 hv16 => ?_)
              simp (disch := omega) only [iadd_id, isub_id, imul_id] at hv16
              refine hrc7 _ _ _ ?_ ?_
              · try dsimp only
                refine ⟨?_, ?_, ?_, ?_, ?_, ?_⟩
                · first | omega | grind
                · first | omega | grind
                · first | (exfalso; omega) | exact f6 | exact fd24 | (refine fd24.tr ?_; rw [hG17]; exact FRD.up (by omega))
                · rw [hv16]; exact wn
                · first | (exfalso; omega) | (rw [hv16, ct ⟨by omega, by omega, by omega⟩]; omega) | (rw [hv16, cf (fun z => by omega)]; omega)
                · first | (exfalso; omega) | (rw [hv16]; exact x17.cg (AE_Hs (by rw [hk, if_pos (by omega)]; omega))) | (rw [hv16]; exact x24.cg (AE_Hn (by rw [hk]; first | (rw [if_pos (by omega)]; omega) | rw [if_neg (by omega)]))) | (rw [hv16]; exact x6.cg (AE_Hn (by rw [hk, if_neg (by omega)])))
              · try dsimp only
                omega
            · skip
              refine w_ite (fun c_6 => ?_) (fun c_6 => ?_)
              · skip
                refine w_bd (fun v16 hv16 => ?_)
                simp (disch := omega) only [iadd_id, isub_id, imul_id] at hv16
                refine hrc7 _ _ _ ?_ ?_
                · try dsimp only
                  refine ⟨?_, ?_, ?_, ?_, ?_, ?_⟩
                  · first | omega | grind
                  · first | omega | grind
                  · first | (exfalso; omega) | exact f6 | exact fd24 | (refine fd24.tr ?_; rw [hG17]; exact FRD.up (by omega))
                  · rw [hv16]; exact wn
                  · first | (exfalso; omega) | (rw [hv16, ct ⟨by omega, by omega, by omega⟩]; omega) | (rw [hv16, cf (fun z => by omega)]; omega)
                  · first | (exfalso; omega) | (rw [hv16]; exact x17.cg (AE_Hs (by rw [hk, if_pos (by omega)]; omega))) | (rw [hv16]; exact x24.cg (AE_Hn (by rw [hk]; first | (rw [if_pos (by omega)]; omega) | rw [if_neg (by omega)]))) | (rw [hv16]; exact x6.cg (AE_Hn (by rw [hk, if_neg (by omega)])))
                · try dsimp only
                  omega
              · skip
                refine w_bne (x_setHolder x24 (by omega) (by omega)) (fun _ G17 _ hG17 => ?_)
                have x17 := XA_H (v := G24 29 3) x24 (k := v5) (by omega) (by omega)
                rw [← hG17] at x17
                refine w_bd (fun v18 hv18 => ?_)
                simp (disch := omega) only [iadd_id, isub_id, imul_id] at hv18
                refine w_bd (fun v16 hv16 => ?_)
                simp (disch := omega) only [iadd_id, isub_id, imul_id] at hv16
                refine hrc7 _ _ _ ?_ ?_
                · try dsimp only
                  refine ⟨?_, ?_, ?_, ?_, ?_, ?_⟩
                  · first | omega | grind
                  · first | omega | grind
                  · first | (exfalso; omega) | exact f6 | exact fd24 | (refine fd24.tr ?_; rw [hG17]; exact FRD.up (by omega))
                  · rw [hv16]; exact wn
                  · first | (exfalso; omega) | (rw [hv16, ct ⟨by omega, by omega, by omega⟩]; omega) | (rw [hv16, cf (fun z => by omega)]; omega)
                  · first | (exfalso; omega) | (rw [hv16]; exact x17.cg (AE_Hs (by rw [hk, if_pos (by omega)]; omega))) | (rw [hv16]; exact x24.cg (AE_Hn (by rw [hk]; first | (rw [if_pos (by omega)]; omega) | rw [if_neg (by omega)]))) | (rw [hv16]; exact x6.cg (AE_Hn (by rw [hk, if_neg (by omega)])))
                · try dsimp only
                  omega
          · skip
            refine w_bd (fun v12 hv12 => ?_)
            refine w_jn ?_
            refine w_ite (fun c_7 => ?_) (fun c_7 => ?_)
            · skip
              refine w_bd (fun v16 hv16 => ?_)
              simp (disch := omega) only [iadd_id, isub_id, imul_id] at hv16
              refine hrc7 _ _ _ ?_ ?_
              · try dsimp only
                refine ⟨?_, ?_, ?_, ?_, ?_, ?_⟩
                · first | omega | grind
                · first | omega | grind
                · first | (exfalso; omega) | exact f6 | exact fd24 | (refine fd24.tr ?_; rw [hG17]; exact FRD.up (by omega))
                · rw [hv16]; exact wn
                · first | (exfalso; omega) | (rw [hv16, ct ⟨by omega, by omega, by omega⟩]; omega) | (rw [hv16, cf (fun z => by omega)]; omega)
                · first | (exfalso; omega) | (rw [hv16]; exact x17.cg (AE_Hs (by rw [hk, if_pos (by omega)]; omega))) | (rw [hv16]; exact x24.cg (AE_Hn (by rw [hk]; first | (rw [if_pos (by omega)]; omega) | rw [if_neg (by omega)]))) | (rw [hv16]; exact x6.cg (AE_Hn (by rw [hk, if_neg (by omega)])))
              · try dsimp only
                omega
            · skip
              refine w_ite (fun c_8 => ?_) (fun c_8 => ?_)
              · skip
                refine w_bd (fun v16 hv16 => ?_)
                simp (disch := omega) only [iadd_id, isub_id, imul_id] at hv16
                refine hrc7 _ _ _ ?_ ?_
                · try dsimp only
                  refine ⟨?_, ?_, ?_, ?_, ?_, ?_⟩
                  · first | omega | grind
                  · first | omega | grind
                  · first | (exfalso; omega) | exact f6 | exact fd24 | (refine fd24.tr ?_; rw [hG17]; exact FRD.up (by omega))
                  · rw [hv16]; exact wn
                  · first | (exfalso; omega) | (rw [hv16, ct ⟨by omega, by omega, by omega⟩]; omega) | (rw [hv16, cf (fun z => by omega)]; omega)
                  · first | (exfalso; omega) | (rw [hv16]; exact x17.cg (AE_Hs (by rw [hk, if_pos (by omega)]; omega))) | (rw [hv16]; exact x24.cg (AE_Hn (by rw [hk]; first | (rw [if_pos (by omega)]; omega) | rw [if_neg (by omega)]))) | (rw [hv16]; exact x6.cg (AE_Hn (by rw [hk, if_neg (by omega)])))
                · try dsimp only
                  omega
              · skip
                refine w_bne (x_setHolder x24 (by omega) (by omega)) (fun _ G17 _ hG17 => ?_)
                have x17 := XA_H (v := G24 29 3) x24 (k := v5) (by omega) (by omega)
                rw [← hG17] at x17
                refine w_bd (fun v18 hv18 => ?_)
                simp (disch := omega) only [iadd_id, isub_id, imul_id] at hv18
                refine w_bd (fun v16 hv16 => ?_)
                simp (disch := omega) only [iadd_id, isub_id, imul_id] at hv16
                refine hrc7 _ _ _ ?_ ?_
                · try dsimp only
                  refine ⟨?_, ?_, ?_, ?_, ?_, ?_⟩
                  · first | omega | grind
                  · first | omega | grind
                  · first | (exfalso; omega) | exact f6 | exact fd24 | (refine fd24.tr ?_; rw [hG17]; exact FRD.up (by omega))
                  · rw [hv16]; exact wn
                  · first | (exfalso; omega) | (rw [hv16, ct ⟨by omega, by omega, by omega⟩]; omega) | (rw [hv16, cf (fun z => by omega)]; omega)
                  · first | (exfalso; omega) | (rw [hv16]; exact x17.cg (AE_Hs (by rw [hk, if_pos (by omega)]; omega))) | (rw [hv16]; exact x24.cg (AE_Hn (by rw [hk]; first | (rw [if_pos (by omega)]; omega) | rw [if_neg (by omega)]))) | (rw [hv16]; exact x6.cg (AE_Hn (by rw [hk, if_neg (by omega)])))
                · try dsimp only
                  omega
        · skip
          refine w_bd (fun v12 hv12 => ?_)
          refine w_jn ?_
          refine w_ite (fun c_9 => ?_) (fun c_9 => ?_)
          · skip
            refine w_bd (fun v16 hv16 => ?_)
            simp (disch := omega) only [iadd_id, isub_id, imul_id] at hv16
            refine hrc7 _ _ _ ?_ ?_
            · try dsimp only
              refine ⟨?_, ?_, ?_, ?_, ?_, ?_⟩
              · first | omega | grind
              · first | omega | grind
              · first | (exfalso; omega) | exact f6 | exact fd24 | (refine fd24.tr ?_; rw [hG17]; exact FRD.up (by omega))
              · rw [hv16]; exact wn
              · first | (exfalso; omega) | (rw [hv16, ct ⟨by omega, by omega, by omega⟩]; omega) | (rw [hv16, cf (fun z => by omega)]; omega)
              · first | (exfalso; omega) | (rw [hv16]; exact x17.cg (AE_Hs (by rw [hk, if_pos (by omega)]; omega))) | (rw [hv16]; exact x24.cg (AE_Hn (by rw [hk]; first | (rw [if_pos (by omega)]; omega) | rw [if_neg (by omega)]))) | (rw [hv16]; exact x6.cg (AE_Hn (by rw [hk, if_neg (by omega)])))
            · try dsimp only
              omega
          · skip
            refine w_ite (fun c_10 => ?_) (fun c_10 => ?_)
            · skip
              refine w_bd (fun v16 hv16 => ?_)
              simp (disch := omega) only [iadd_id, isub_id, imul_id] at hv16
              refine hrc7 _ _ _ ?_ ?_
              · try dsimp only
                refine ⟨?_, ?_, ?_, ?_, ?_, ?_⟩
                · first | omega | grind
                · first | omega | grind
                · first | (exfalso; omega) | exact f6 | exact fd24 | (refine fd24.tr ?_; rw [hG17]; exact FRD.up (by omega))
                · rw [hv16]; exact wn
                · first | (exfalso; omega) | (rw [hv16, ct ⟨by omega, by omega, by omega⟩]; omega) | (rw [hv16, cf (fun z => by omega)]; omega)
                · first | (exfalso; omega) | (rw [hv16]; exact x17.cg (AE_Hs (by rw [hk, if_pos (by omega)]; omega))) | (rw [hv16]; exact x24.cg (AE_Hn (by rw [hk]; first | (rw [if_pos (by omega)]; omega) | rw [if_neg (by omega)]))) | (rw [hv16]; exact x6.cg (AE_Hn (by rw [hk, if_neg (by omega)])))
              · try dsimp only
                omega
            · skip
              refine w_bne (x_setHolder x6 (by omega) (by omega)) (fun _ G17 _ hG17 => ?_)
              have x17 := XA_H (v := G6 29 3) x6 (k := v5) (by omega) (by omega)
              rw [← hG17] at x17
              refine w_bd (fun v18 hv18 => ?_)
              simp (disch := omega) only [iadd_id, isub_id, imul_id] at hv18
              refine w_bd (fun v16 hv16 => ?_)
              simp (disch := omega) only [iadd_id, isub_id, imul_id] at hv16
              refine hrc7 _ _ _ ?_ ?_
              · try dsimp only
                refine ⟨?_, ?_, ?_, ?_, ?_, ?_⟩
                · first | omega | grind
                · first | omega | grind
                · first | (exfalso; omega) | exact f6 | exact fd24 | (refine fd24.tr ?_; rw [hG17]; exact FRD.up (by omega))
                · rw [hv16]; exact wn
                · first | (exfalso; omega) | (rw [hv16, ct ⟨by omega, by omega, by omega⟩]; omega) | (rw [hv16, cf (fun z => by omega)]; omega)
                · first | (exfalso; omega) | (rw [hv16]; exact x17.cg (AE_Hs (by rw [hk, if_pos (by omega)]; omega))) | (rw [hv16]; exact x24.cg (AE_Hn (by rw [hk]; first | (rw [if_pos (by omega)]; omega) | rw [if_neg (by omega)]))) | (rw [hv16]; exact x6.cg (AE_Hn (by rw [hk, if_neg (by omega)])))
              · try dsimp only
                omega
      · skip
        refine w_rt ?_
        have e : eHand T a n = (cnt (fun k => hld a k = n ∧ skf T a n (tl T k) ≠ -1 ∧ skf T a n (tl T k) ≠ n) (tK T).toNat, dH a (hnK T a n)) := by unfold eHand; exact if_pos (by omega)
        rw [e]
        refine ⟨f6, by rw [b4, show v5.toNat = (tK T).toNat by omega], x6.cg ⟨rfl, fun i k => by rw [dH_lst, dH_lst], fun i => by rw [dH_ahd, dH_ahd], fun i k => by rw [dH_fng, dH_fng], fun k => ?_⟩⟩
        rw [dH_hld, dH_hld]
        have := hw.kz (k := k)
        unfold hnK; grind
    · try dsimp only
      refine ⟨?_, ?_, ?_, ?_, ?_, ?_⟩
      · first | omega | (subst_vars; first | rfl | assumption) | assumption
      · first | omega | (subst_vars; first | rfl | assumption) | assumption
      · exact FRD.rf G
      · exact WA_hn hw w v3
      · rw [hv3, hv2]; rfl
      · refine hA_G.cg (AE_H0 (fun k k1 k2 => ?_)); rw [if_neg (by omega)]
    · try dsimp only
      omega

/-- a deed of a line -/
noncomputable def eDo (T : TT) (a : AS) (c x y : Int) : Int × AS := if c = 0 then eBeg T a x else if c = 1 then (if (eJoin T a x y).1 = -1 then 0 else 1, (eJoin T a x y).2) else if c = 2 then eLeave a x else if c = 3 then (if (eFail a x).1 = -1 then 0 else 1, (eFail a x).2) else if c = 4 then (if (eTidy T a x).1 = -1 then 0 else 1, (eTidy T a x).2) else if c = 5 then (if (eFlush a x).1 = -1 then 0 else 1, (eFlush a x).2) else if c = 6 then eFix T a x y else if c = 7 then (if (ePut T a x y).1 = -1 then 0 else 1, (ePut T a x y).2) else (if (eHand T a x).1 = -1 then 0 else 1, (eHand T a x).2)
theorem WA_eDo (hw : WA T a) (w : WT T) {c x y : Int} : WA T (eDo T a c x y).2 := by
  unfold eDo
  (repeat' split) <;> first | exact WA_eBeg hw w | exact WA_eJoin hw w | exact WA_eLeave hw w | exact WA_eFail hw w | exact WA_eTidy hw w | exact WA_eFlush hw w | exact WA_eFix hw w | exact WA_ePut hw w | exact WA_eHand hw w
theorem eDo_01 {c x y : Int} : (eDo T a c x y).1 = 0 ∨ (eDo T a c x y).1 = 1 := by
  unfold eDo eBeg eLeave eFix
  (repeat' split) <;> simp
noncomputable def eRn (T : TT) (a : AS) : Nat → AS
  | 0 => a
  | i + 1 => if isi (eRn T a i) i = 1 then (eTidy T (eFlush (eRn T a i) i).2 i).2 else eRn T a i
theorem WA_eRn (hw : WA T a) (w : WT T) : ∀ i, WA T (eRn T a i)
  | 0 => hw
  | i + 1 => by
    rw [eRn]; split
    · exact WA_eTidy (WA_eFlush (WA_eRn hw w i) w) w
    · exact WA_eRn hw w i
theorem eRn_s {i : Int} (h : 0 ≤ i) : eRn T a (i + 1).toNat = if isi (eRn T a i.toNat) i = 1 then (eTidy T (eFlush (eRn T a i.toNat) i).2 i).2 else eRn T a i.toNat := by
  rw [toN1 h, eRn]; simp only [Int.toNat_of_nonneg h]
noncomputable def eRd (T : TT) (a : AS) : AS := eRn T a (tN T).toNat
theorem x_doDeed (w : WT T) (hw : WA T a) (hA_G : XA 27 a G) (hT_G : XT T G) {c x y : Int} (hc0 : 0 ≤ c) (hc8 : c ≤ 8) : WP (fX0_doDeed 31 (c + 6) x y G) (fun r G' => FRD G G' ∧ r = (eDo T a c x y).1 ∧ XA 27 (eDo T a c x y).2 G') := by
  generalize hcc : c + 6 = cc
  unfold fX0_doDeed
  refine w_ite (fun c_1 => ?_) (fun c_1 => ?_)
  · skip
    refine w_bn (x_doBegin w hw hA_G hT_G (n := x)) (fun v2 G3 qG3 => ?_)
    obtain ⟨fG3, eG3, xG3⟩ := qG3
    refine w_rz (by first | omega | (rw [eG3]; unfold eBeg; split <;> simp) | (rw [eG6]; split <;> simp) | (rw [eG9]; unfold eLeave; split <;> simp) | (rw [eG21]; unfold eFix; split <;> simp)) ?_
    refine ⟨fG3, ?_⟩
    unfold eDo; simp only [show c = 0 by omega]; simp; first | exact ⟨eG3, xG3⟩ | (refine ⟨?_, xG3⟩; rw [← eG3]; first | assumption | omega)
  · skip
    refine w_ite (fun c_2 => ?_) (fun c_2 => ?_)
    · skip
      refine w_bn (x_doJoin w hw hA_G hT_G (n := x) (y := y)) (fun v5 G6 qG6 => ?_)
      obtain ⟨fG6, eG6, xG6⟩ := qG6
      refine w_rz (by first | omega | (rw [eG3]; unfold eBeg; split <;> simp) | (rw [eG6]; split <;> simp) | (rw [eG9]; unfold eLeave; split <;> simp) | (rw [eG21]; unfold eFix; split <;> simp)) ?_
      refine ⟨fG6, ?_⟩
      unfold eDo; simp only [show c = 1 by omega]; simp; first | exact ⟨eG6, xG6⟩ | (refine ⟨?_, xG6⟩; rw [← eG6]; first | assumption | omega)
    · skip
      refine w_ite (fun c_3 => ?_) (fun c_3 => ?_)
      · skip
        refine w_bn (x_doLeave w hw hA_G hT_G (n := x)) (fun v8 G9 qG9 => ?_)
        obtain ⟨fG9, eG9, xG9⟩ := qG9
        refine w_rz (by first | omega | (rw [eG3]; unfold eBeg; split <;> simp) | (rw [eG6]; split <;> simp) | (rw [eG9]; unfold eLeave; split <;> simp) | (rw [eG21]; unfold eFix; split <;> simp)) ?_
        refine ⟨fG9, ?_⟩
        unfold eDo; simp only [show c = 2 by omega]; simp; first | exact ⟨eG9, xG9⟩ | (refine ⟨?_, xG9⟩; rw [← eG9]; first | assumption | omega)
      · skip
        refine w_ite (fun c_4 => ?_) (fun c_4 => ?_)
        · skip
          refine w_bn (x_doFail w hw hA_G hT_G (n := x)) (fun v11 G12 qG12 => ?_)
          obtain ⟨fG12, eG12, xG12⟩ := qG12
          refine w_ite (fun c_5 => ?_) (fun c_5 => ?_)
          · skip
            refine w_rz (by first | omega | (rw [eG3]; unfold eBeg; split <;> simp) | (rw [eG6]; split <;> simp) | (rw [eG9]; unfold eLeave; split <;> simp) | (rw [eG21]; unfold eFix; split <;> simp)) ?_
            refine ⟨fG12, ?_⟩
            unfold eDo; simp only [show c = 3 by omega]; simp; first | exact ⟨eG12, xG12⟩ | (refine ⟨?_, xG12⟩; rw [← eG12]; first | assumption | omega)
          · skip
            refine w_rz (by first | omega | (rw [eG3]; unfold eBeg; split <;> simp) | (rw [eG6]; split <;> simp) | (rw [eG9]; unfold eLeave; split <;> simp) | (rw [eG21]; unfold eFix; split <;> simp)) ?_
            refine ⟨fG12, ?_⟩
            unfold eDo; simp only [show c = 3 by omega]; simp; first | exact ⟨eG12, xG12⟩ | (refine ⟨?_, xG12⟩; rw [← eG12]; first | assumption | omega)
        · skip
          refine w_ite (fun c_6 => ?_) (fun c_6 => ?_)
          · skip
            refine w_bn (x_doTidy w hw hA_G hT_G (n := x)) (fun v14 G15 qG15 => ?_)
            obtain ⟨fG15, eG15, xG15⟩ := qG15
            refine w_ite (fun c_7 => ?_) (fun c_7 => ?_)
            · skip
              refine w_rz (by first | omega | (rw [eG3]; unfold eBeg; split <;> simp) | (rw [eG6]; split <;> simp) | (rw [eG9]; unfold eLeave; split <;> simp) | (rw [eG21]; unfold eFix; split <;> simp)) ?_
              refine ⟨fG15, ?_⟩
              unfold eDo; simp only [show c = 4 by omega]; simp; first | exact ⟨eG15, xG15⟩ | (refine ⟨?_, xG15⟩; rw [← eG15]; first | assumption | omega)
            · skip
              refine w_rz (by first | omega | (rw [eG3]; unfold eBeg; split <;> simp) | (rw [eG6]; split <;> simp) | (rw [eG9]; unfold eLeave; split <;> simp) | (rw [eG21]; unfold eFix; split <;> simp)) ?_
              refine ⟨fG15, ?_⟩
              unfold eDo; simp only [show c = 4 by omega]; simp; first | exact ⟨eG15, xG15⟩ | (refine ⟨?_, xG15⟩; rw [← eG15]; first | assumption | omega)
          · skip
            refine w_ite (fun c_8 => ?_) (fun c_8 => ?_)
            · skip
              refine w_bn (x_eFlush w hw hA_G (n := x)) (fun v17 G18 qG18 => ?_)
              obtain ⟨fG18, eG18, xG18⟩ := qG18
              refine w_ite (fun c_9 => ?_) (fun c_9 => ?_)
              · skip
                refine w_rz (by first | omega | (rw [eG3]; unfold eBeg; split <;> simp) | (rw [eG6]; split <;> simp) | (rw [eG9]; unfold eLeave; split <;> simp) | (rw [eG21]; unfold eFix; split <;> simp)) ?_
                refine ⟨fG18, ?_⟩
                unfold eDo; simp only [show c = 5 by omega]; simp; first | exact ⟨eG18, xG18⟩ | (refine ⟨?_, xG18⟩; rw [← eG18]; first | assumption | omega)
              · skip
                refine w_rz (by first | omega | (rw [eG3]; unfold eBeg; split <;> simp) | (rw [eG6]; split <;> simp) | (rw [eG9]; unfold eLeave; split <;> simp) | (rw [eG21]; unfold eFix; split <;> simp)) ?_
                refine ⟨fG18, ?_⟩
                unfold eDo; simp only [show c = 5 by omega]; simp; first | exact ⟨eG18, xG18⟩ | (refine ⟨?_, xG18⟩; rw [← eG18]; first | assumption | omega)
            · skip
              refine w_ite (fun c_10 => ?_) (fun c_10 => ?_)
              · skip
                refine w_bn (x_doFix w hw hA_G hT_G (n := x) (i := y)) (fun v20 G21 qG21 => ?_)
                obtain ⟨fG21, eG21, xG21⟩ := qG21
                refine w_rz (by first | omega | (rw [eG3]; unfold eBeg; split <;> simp) | (rw [eG6]; split <;> simp) | (rw [eG9]; unfold eLeave; split <;> simp) | (rw [eG21]; unfold eFix; split <;> simp)) ?_
                refine ⟨fG21, ?_⟩
                unfold eDo; simp only [show c = 6 by omega]; simp; first | exact ⟨eG21, xG21⟩ | (refine ⟨?_, xG21⟩; rw [← eG21]; first | assumption | omega)
              · skip
                refine w_ite (fun c_11 => ?_) (fun c_11 => ?_)
                · skip
                  refine w_bn (x_doPut w hw hA_G hT_G (k := x) (y := y)) (fun v23 G24 qG24 => ?_)
                  obtain ⟨fG24, eG24, xG24⟩ := qG24
                  refine w_ite (fun c_12 => ?_) (fun c_12 => ?_)
                  · skip
                    refine w_rz (by first | omega | (rw [eG3]; unfold eBeg; split <;> simp) | (rw [eG6]; split <;> simp) | (rw [eG9]; unfold eLeave; split <;> simp) | (rw [eG21]; unfold eFix; split <;> simp)) ?_
                    refine ⟨fG24, ?_⟩
                    unfold eDo; simp only [show c = 7 by omega]; simp; first | exact ⟨eG24, xG24⟩ | (refine ⟨?_, xG24⟩; rw [← eG24]; first | assumption | omega)
                  · skip
                    refine w_rz (by first | omega | (rw [eG3]; unfold eBeg; split <;> simp) | (rw [eG6]; split <;> simp) | (rw [eG9]; unfold eLeave; split <;> simp) | (rw [eG21]; unfold eFix; split <;> simp)) ?_
                    refine ⟨fG24, ?_⟩
                    unfold eDo; simp only [show c = 7 by omega]; simp; first | exact ⟨eG24, xG24⟩ | (refine ⟨?_, xG24⟩; rw [← eG24]; first | assumption | omega)
                · skip
                  refine w_ite (fun c_13 => ?_) (fun c_13 => ?_)
                  · skip
                    refine w_bn (x_doHand w hw hA_G hT_G (n := x)) (fun v26 G27 qG27 => ?_)
                    obtain ⟨fG27, eG27, xG27⟩ := qG27
                    refine w_ite (fun c_14 => ?_) (fun c_14 => ?_)
                    · skip
                      refine w_rz (by first | omega | (rw [eG3]; unfold eBeg; split <;> simp) | (rw [eG6]; split <;> simp) | (rw [eG9]; unfold eLeave; split <;> simp) | (rw [eG21]; unfold eFix; split <;> simp)) ?_
                      refine ⟨fG27, ?_⟩
                      unfold eDo; simp only [show c = 8 by omega]; simp; first | exact ⟨eG27, xG27⟩ | (refine ⟨?_, xG27⟩; rw [← eG27]; first | assumption | omega)
                    · skip
                      refine w_rz (by first | omega | (rw [eG3]; unfold eBeg; split <;> simp) | (rw [eG6]; split <;> simp) | (rw [eG9]; unfold eLeave; split <;> simp) | (rw [eG21]; unfold eFix; split <;> simp)) ?_
                      refine ⟨fG27, ?_⟩
                      unfold eDo; simp only [show c = 8 by omega]; simp; first | exact ⟨eG27, xG27⟩ | (refine ⟨?_, xG27⟩; rw [← eG27]; first | assumption | omega)
                  · skip
                    refine w_rz (by first | omega | (rw [eG3]; unfold eBeg; split <;> simp) | (rw [eG6]; split <;> simp) | (rw [eG9]; unfold eLeave; split <;> simp) | (rw [eG21]; unfold eFix; split <;> simp)) ?_
                    exfalso; omega

theorem x_doRound (w : WT T) (hw : WA T a) (hA_G : XA 27 a G) (hT_G : XT T G) : WP (fX0_doRound 31 G) (fun _ G' => FRD G G' ∧ XA 27 (eRd T a) G') := by
  have wr := w.rg
  unfold fX0_doRound
  simp only [rf_31_0, rf_31_1]
  refine w_bd (fun v1 hv1 => ?_)
  refine w_lpIH (fun (v2 : Int) (G3 : Hp) => (0 ≤ v2) ∧ (v2 ≤ tN T) ∧ (FRD G G3) ∧ (XA 27 (eRn T a v2.toNat) G3)) (fun (v2 : Int) (G3 : Hp) => (8 - v2).toNat) (fun rc4 v2 G3 hI hrc4 => ?_) _ _ ?_ ?_
  · skip
    obtain ⟨i0, i1, f3, x3⟩ := hI
    have hT_G3 : XT T G3 := f3.tt hT_G
    have w3 := WA_eRn hw w v2.toNat
    have n3 : G3 4 2 = tN T := hT_G3.2.2.1
    refine w_ite (fun c_1 => ?_) (fun c_1 => ?_)
    · skip
      refine w_bp (x_isIn x3 w3.1) (fun v5 hv5 => ?_)
      have q5 := w3.inr (n := v2)
      refine w_jn ?_
      refine w_ite (fun c_2 => ?_) (fun c_2 => ?_)
      · skip
        refine w_bd (fun v8 hv8 => ?_)
        simp (disch := omega) only [iadd_id, isub_id, imul_id] at hv8
        refine hrc4 _ _ ?_ ?_
        · try dsimp only
          refine ⟨?_, ?_, ?_, ?_⟩
          · first | omega | grind
          · first | omega | grind
          · first | exact f3 | exact (f3.tr fG10).tr fG12
          · rw [hv8, eRn_s i0]; first | (rw [if_neg (by omega)]; exact x3) | (rw [if_pos (by omega)]; exact xG12)
        · try dsimp only
          omega
      · skip
        refine w_bn (x_eFlush w w3 x3 (n := v2)) (fun v9 G10 qG10 => ?_)
        obtain ⟨fG10, eG10, xG10⟩ := qG10
        refine w_bn (x_doTidy w (WA_eFlush w3 w) xG10 (fG10.tt hT_G3) (n := v2)) (fun v11 G12 qG12 => ?_)
        obtain ⟨fG12, eG12, xG12⟩ := qG12
        refine w_bd (fun v8 hv8 => ?_)
        simp (disch := omega) only [iadd_id, isub_id, imul_id] at hv8
        refine hrc4 _ _ ?_ ?_
        · try dsimp only
          refine ⟨?_, ?_, ?_, ?_⟩
          · first | omega | grind
          · first | omega | grind
          · first | exact f3 | exact (f3.tr fG10).tr fG12
          · rw [hv8, eRn_s i0]; first | (rw [if_neg (by omega)]; exact x3) | (rw [if_pos (by omega)]; exact xG12)
        · try dsimp only
          omega
    · skip
      refine w_rt ?_
      refine ⟨f3, ?_⟩
      unfold eRd; rw [show (tN T).toNat = v2.toNat by omega]; exact x3
  · try dsimp only
    refine ⟨?_, ?_, ?_, ?_⟩
    · first | omega | (subst_vars; first | rfl | assumption) | assumption
    · first | omega | (subst_vars; first | rfl | assumption) | assumption
    · exact FRD.rf G
    · rw [hv1]; exact hA_G
  · try dsimp only
    omega

end DEE
