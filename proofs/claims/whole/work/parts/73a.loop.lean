/-! THE LOOP of the law -/
section LOOP
variable {G : Hp}
theorem lw_body {sn : Nat} {sc : Nat → Int} {i : Int} {K : Hp → RT} {Q : Int → Hp → Prop} (hi : 0 ≤ i) (hi2 : i + 7 ≤ sn) (hs : sn ≤ 3584) (hI : Inv (PT RR) G) (hK : ∀ G', Inv (PT RR) G' → WP (K G') Q) : WP (fL_body sn sc i K G) Q := by
  have hP : TPK (PT RR) := PT_k RR_k
  have hr : rdC sn sc i = some (sc i.toNat) := by unfold rdC; rw [if_pos ⟨by omega, by omega⟩]
  unfold fL_body
  rw [hr, br_s]
  refine w_ite (fun _ => cs_0 RR_k hi hi2 hs hI hK) (fun _ => ?_)
  refine w_ite (fun _ => cs_1 hI hK) (fun _ => ?_)
  refine w_ite (fun _ => cs_2 hI hK) (fun _ => ?_)
  refine w_ite (fun _ => cs_3 hP hi hi2 hs hI hK) (fun _ => ?_)
  refine w_ite (fun _ => cs_4 hP hi hi2 hs hI hK) (fun _ => ?_)
  refine w_ite (fun _ => cs_5 hP hi hi2 hs hI hK) (fun _ => ?_)
  refine w_ite (fun _ => cs_6 hP hi hi2 hs hI hK) (fun _ => ?_)
  refine w_ite (fun _ => cs_7 hP hi hi2 hs hI hK) (fun _ => ?_)
  refine w_ite (fun _ => cs_8 hP hi hi2 hs hI hK) (fun _ => ?_)
  refine w_ite (fun _ => cs_9 hP hi hi2 hs hI hK) (fun _ => ?_)
  refine w_ite (fun _ => cs_10 hP hi hi2 hs hI hK) (fun _ => ?_)
  refine w_ite (fun _ => cs_11 hP hi hi2 hs hI hK) (fun _ => ?_)
  refine w_ite (fun _ => cs_12 hP hi hi2 hs hI hK) (fun _ => ?_)
  refine w_ite (fun _ => cs_13 hP hi hi2 hs hI hK) (fun _ => ?_)
  refine w_ite (fun _ => cs_14 hP hi hi2 hs hI hK) (fun _ => ?_)
  refine w_ite (fun _ => cs_15 hP hi hi2 hs hI hK) (fun _ => ?_)
  refine w_ite (fun _ => cs_16 hP hi hi2 hs hI hK) (fun _ => ?_)
  refine w_ite (fun _ => cs_17 hP hi hi2 hs hI hK) (fun _ => ?_)
  refine w_ite (fun _ => cs_18 hP hi hi2 hs hI hK) (fun _ => ?_)
  refine w_ite (fun _ => cs_19 hP hi hi2 hs hI hK) (fun _ => ?_)
  refine w_ite (fun _ => cs_20 hP hi hi2 hs hI hK) (fun _ => ?_)
  refine w_ite (fun _ => cs_21 hP hi hi2 hs hI hK) (fun _ => ?_)
  refine w_ite (fun _ => cs_22 hP hi hi2 hs hI hK) (fun _ => ?_)
  refine w_ite (fun _ => cs_23 hP hi hi2 hs hI hK) (fun _ => ?_)
  refine w_ite (fun _ => cs_24 hP hi hi2 hs hI hK) (fun _ => ?_)
  refine w_ite (fun _ => cs_25 hP hi hi2 hs hI hK) (fun _ => ?_)
  refine w_ite (fun _ => cs_26 hP hi hi2 hs hI hK) (fun _ => ?_)
  refine w_ite (fun _ => cs_27 hP hi hi2 hs hI hK) (fun _ => ?_)
  refine w_ite (fun _ => cs_28 hP hi hi2 hs hI hK) (fun _ => ?_)
  refine w_ite (fun _ => cs_29 hP hi hi2 hs hI hK) (fun _ => ?_)
  refine w_ite (fun _ => cs_30 hP hi hi2 hs hI hK) (fun _ => ?_)
  refine w_ite (fun _ => cs_31 hP hi hi2 hs hI hK) (fun _ => ?_)
  refine w_ite (fun _ => cs_32 hP hi hi2 hs hI hK) (fun _ => ?_)
  refine w_ite (fun _ => cs_33 hP hi hi2 hs hI hK) (fun _ => ?_)
  refine w_ite (fun _ => cs_34 hP hi hi2 hs hI hK) (fun _ => ?_)
  refine w_ite (fun _ => cs_35 hP hi hi2 hs hI hK) (fun _ => ?_)
  refine w_ite (fun _ => cs_36 hP hi hi2 hs hI hK) (fun _ => ?_)
  refine w_ite (fun _ => cs_37 hP hi hi2 hs hI hK) (fun _ => ?_)
  refine w_ite (fun _ => cs_38 hP hi hi2 hs hI hK) (fun _ => ?_)
  refine w_ite (fun _ => cs_39 hP hi hi2 hs hI hK) (fun _ => ?_)
  refine w_ite (fun _ => cs_40 hP hi hi2 hs hI hK) (fun _ => ?_)
  refine w_ite (fun _ => cs_41 hP hi hi2 hs hI hK) (fun _ => ?_)
  refine w_ite (fun _ => cs_42 hP hi hi2 hs hI hK) (fun _ => ?_)
  refine w_ite (fun _ => cs_43 hP hi hi2 hs hI hK) (fun _ => ?_)
  refine w_ite (fun _ => cs_44 hP hi hi2 hs hI hK) (fun _ => ?_)
  refine w_ite (fun _ => cs_45 hP hi hi2 hs hI hK) (fun _ => ?_)
  refine w_ite (fun _ => cs_46 hP hi hi2 hs hI hK (fun T G p => PT_l p)) (fun _ => ?_)
  exact hK G hI
theorem lw_loop {sn : Nat} {sc : Nat → Int} (hs : sn ≤ 3584) (hI : Inv (PT RR) G) : WP (fL_loop sn sc 0 G) (fun r _ => r = 1) := by
  unfold fL_loop
  refine w_lpIH (fun i g => 0 ≤ i ∧ i ≤ 3584 ∧ Inv (PT RR) g) (fun i _ => (4000 - i).toNat) (fun rc i g hI hr => ?_) 0 G ⟨by omega, by omega, hI⟩ (by omega)
  obtain ⟨h0, h1, hI⟩ := hI
  unfold fL_step
  rw [isub_id (by omega) (by omega)]
  refine w_ite (fun _ => w_rz (Or.inr rfl) rfl) (fun c => ?_)
  refine w_ite (fun _ => ?_) (fun y => absurd (by omega) y)
  refine lw_body h0 (by omega) hs hI (fun g' hI' => ?_)
  rw [iadd_id (by omega) (by omega)]
  exact hr (i + 7) g' ⟨by omega, by omega, hI'⟩ (by omega)
end LOOP
