theorem dJ6_bitCount_0f7a4_0 : decode cJ6_bitCount_0f7a4 0 = .ok (.iload_n 0, 1) := by decide +kernel
theorem dJ6_bitCount_0f7a4_1 : decode cJ6_bitCount_0f7a4 1 = .ok (.iload_n 0, 1) := by decide +kernel
theorem dJ6_bitCount_0f7a4_2 : decode cJ6_bitCount_0f7a4 2 = .ok (.iconst 1, 1) := by decide +kernel
theorem dJ6_bitCount_0f7a4_3 : decode cJ6_bitCount_0f7a4 3 = .ok (.iushr, 1) := by decide +kernel
theorem dJ6_bitCount_0f7a4_4 : decode cJ6_bitCount_0f7a4 4 = .ok (.ldc_w 265, 3) := by decide +kernel
theorem dJ6_bitCount_0f7a4_7 : decode cJ6_bitCount_0f7a4 7 = .ok (.iand, 1) := by decide +kernel
theorem dJ6_bitCount_0f7a4_8 : decode cJ6_bitCount_0f7a4 8 = .ok (.isub, 1) := by decide +kernel
theorem dJ6_bitCount_0f7a4_9 : decode cJ6_bitCount_0f7a4 9 = .ok (.istore_n 0, 1) := by decide +kernel
theorem dJ6_bitCount_0f7a4_10 : decode cJ6_bitCount_0f7a4 10 = .ok (.iload_n 0, 1) := by decide +kernel
theorem dJ6_bitCount_0f7a4_11 : decode cJ6_bitCount_0f7a4 11 = .ok (.ldc_w 266, 3) := by decide +kernel
theorem dJ6_bitCount_0f7a4_14 : decode cJ6_bitCount_0f7a4 14 = .ok (.iand, 1) := by decide +kernel
theorem dJ6_bitCount_0f7a4_15 : decode cJ6_bitCount_0f7a4 15 = .ok (.iload_n 0, 1) := by decide +kernel
theorem dJ6_bitCount_0f7a4_16 : decode cJ6_bitCount_0f7a4 16 = .ok (.iconst 2, 1) := by decide +kernel
theorem dJ6_bitCount_0f7a4_17 : decode cJ6_bitCount_0f7a4 17 = .ok (.iushr, 1) := by decide +kernel
theorem dJ6_bitCount_0f7a4_18 : decode cJ6_bitCount_0f7a4 18 = .ok (.ldc_w 266, 3) := by decide +kernel
theorem dJ6_bitCount_0f7a4_21 : decode cJ6_bitCount_0f7a4 21 = .ok (.iand, 1) := by decide +kernel
theorem dJ6_bitCount_0f7a4_22 : decode cJ6_bitCount_0f7a4 22 = .ok (.iadd, 1) := by decide +kernel
theorem dJ6_bitCount_0f7a4_23 : decode cJ6_bitCount_0f7a4 23 = .ok (.istore_n 0, 1) := by decide +kernel
theorem dJ6_bitCount_0f7a4_24 : decode cJ6_bitCount_0f7a4 24 = .ok (.iload_n 0, 1) := by decide +kernel
theorem dJ6_bitCount_0f7a4_25 : decode cJ6_bitCount_0f7a4 25 = .ok (.iload_n 0, 1) := by decide +kernel
theorem dJ6_bitCount_0f7a4_26 : decode cJ6_bitCount_0f7a4 26 = .ok (.iconst 4, 1) := by decide +kernel
theorem dJ6_bitCount_0f7a4_27 : decode cJ6_bitCount_0f7a4 27 = .ok (.iushr, 1) := by decide +kernel
theorem dJ6_bitCount_0f7a4_28 : decode cJ6_bitCount_0f7a4 28 = .ok (.iadd, 1) := by decide +kernel
theorem dJ6_bitCount_0f7a4_29 : decode cJ6_bitCount_0f7a4 29 = .ok (.ldc_w 267, 3) := by decide +kernel
theorem dJ6_bitCount_0f7a4_32 : decode cJ6_bitCount_0f7a4 32 = .ok (.iand, 1) := by decide +kernel
theorem dJ6_bitCount_0f7a4_33 : decode cJ6_bitCount_0f7a4 33 = .ok (.istore_n 0, 1) := by decide +kernel
theorem dJ6_bitCount_0f7a4_34 : decode cJ6_bitCount_0f7a4 34 = .ok (.iload_n 0, 1) := by decide +kernel
theorem dJ6_bitCount_0f7a4_35 : decode cJ6_bitCount_0f7a4 35 = .ok (.iload_n 0, 1) := by decide +kernel
theorem dJ6_bitCount_0f7a4_36 : decode cJ6_bitCount_0f7a4 36 = .ok (.bipush 8, 2) := by decide +kernel
theorem dJ6_bitCount_0f7a4_38 : decode cJ6_bitCount_0f7a4 38 = .ok (.iushr, 1) := by decide +kernel
theorem dJ6_bitCount_0f7a4_39 : decode cJ6_bitCount_0f7a4 39 = .ok (.iadd, 1) := by decide +kernel
theorem dJ6_bitCount_0f7a4_40 : decode cJ6_bitCount_0f7a4 40 = .ok (.istore_n 0, 1) := by decide +kernel
theorem dJ6_bitCount_0f7a4_41 : decode cJ6_bitCount_0f7a4 41 = .ok (.iload_n 0, 1) := by decide +kernel
theorem dJ6_bitCount_0f7a4_42 : decode cJ6_bitCount_0f7a4 42 = .ok (.iload_n 0, 1) := by decide +kernel
theorem dJ6_bitCount_0f7a4_43 : decode cJ6_bitCount_0f7a4 43 = .ok (.bipush 16, 2) := by decide +kernel
theorem dJ6_bitCount_0f7a4_45 : decode cJ6_bitCount_0f7a4 45 = .ok (.iushr, 1) := by decide +kernel
theorem dJ6_bitCount_0f7a4_46 : decode cJ6_bitCount_0f7a4 46 = .ok (.iadd, 1) := by decide +kernel
theorem dJ6_bitCount_0f7a4_47 : decode cJ6_bitCount_0f7a4 47 = .ok (.istore_n 0, 1) := by decide +kernel
theorem dJ6_bitCount_0f7a4_48 : decode cJ6_bitCount_0f7a4 48 = .ok (.iload_n 0, 1) := by decide +kernel
theorem dJ6_bitCount_0f7a4_49 : decode cJ6_bitCount_0f7a4 49 = .ok (.bipush 63, 2) := by decide +kernel
theorem dJ6_bitCount_0f7a4_51 : decode cJ6_bitCount_0f7a4 51 = .ok (.iand, 1) := by decide +kernel
theorem dJ6_bitCount_0f7a4_52 : decode cJ6_bitCount_0f7a4 52 = .ok (.ireturn, 1) := by decide +kernel
def fJ6_bitCount_0f7a4 (a0 : Int) (G : Hp) : RT := bd (isub a0 (iand (iushr a0 1) 1431655765)) fun v1 => bd (iadd (iand v1 858993459) (iand (iushr v1 2) 858993459)) fun v2 => bd (iand (iadd v2 (iushr v2 4)) 252645135) fun v3 => bd (iadd v3 (iushr v3 8)) fun v4 => bd (iadd v4 (iushr v4 16)) fun v5 => rt (iand v5 63) G
theorem pJ6_bitCount_0f7a4 {G : Hp} {a0 : Int} : PU G (fJ6_bitCount_0f7a4 a0 G) := by
  unfold fJ6_bitCount_0f7a4
  refine PU_bd (fun v1 => ?_)
  refine PU_bd (fun v2 => ?_)
  refine PU_bd (fun v3 => ?_)
  refine PU_bd (fun v4 => ?_)
  refine PU_bd (fun v5 => ?_)
  exact PU_rt
set_option maxRecDepth 20000 in
set_option maxHeartbeats 4000000 in
theorem tJ6_bitCount_0f7a4 (l : Launch) (x : WX) (hi : Inj x.2.2) (G : Hp) (a0 : Int)  : Ct l x yJ6_bitCount_0f7a4 cJ6_bitCount_0f7a4 1 (some .int) 0 130 130 [vI a0] G (fJ6_bitCount_0f7a4 a0 G) := by
  refine ct_ofJ (by decide +kernel) hi (Nat.le_refl _) (Nat.le_refl _) (Nat.le_of_ble_eq_true rfl) (fun cx F hd hn0 hnE hl => ?_)
  subst hl
  have F : Fx cx x RJ6 cJ6_bitCount_0f7a4 1 (some .int) := F
  show Y cx x 1 (some .int) 130 0 [(0, vI a0)] [] G _
  unfold fJ6_bitCount_0f7a4
  refine x_iload_n F dJ6_bitCount_0f7a4_0 rfl rfl rfl ?_
  refine x_iload_n F dJ6_bitCount_0f7a4_1 rfl rfl rfl ?_
  refine x_iconst F dJ6_bitCount_0f7a4_2 ⟨by decide, by decide⟩ rfl ?_
  refine x_iushr F dJ6_bitCount_0f7a4_3 rfl ?_
  refine x_ldcw (v := 1431655765) F kcJ6_265 dJ6_bitCount_0f7a4_4 ⟨by decide, by decide⟩ (by decide) rfl ?_
  refine x_iand F dJ6_bitCount_0f7a4_7 rfl ?_
  refine x_isub F dJ6_bitCount_0f7a4_8 rfl ?_
  refine x_istore_n F dJ6_bitCount_0f7a4_9 rfl (by decide) rfl rfl (fun v1 => ?_)
  show Y cx x _ _ _ _ [(0, vI v1)] _ _ _
  refine x_iload_n F dJ6_bitCount_0f7a4_10 rfl rfl rfl ?_
  refine x_ldcw (v := 858993459) F kcJ6_266 dJ6_bitCount_0f7a4_11 ⟨by decide, by decide⟩ (by decide) rfl ?_
  refine x_iand F dJ6_bitCount_0f7a4_14 rfl ?_
  refine x_iload_n F dJ6_bitCount_0f7a4_15 rfl rfl rfl ?_
  refine x_iconst F dJ6_bitCount_0f7a4_16 ⟨by decide, by decide⟩ rfl ?_
  refine x_iushr F dJ6_bitCount_0f7a4_17 rfl ?_
  refine x_ldcw (v := 858993459) F kcJ6_266 dJ6_bitCount_0f7a4_18 ⟨by decide, by decide⟩ (by decide) rfl ?_
  refine x_iand F dJ6_bitCount_0f7a4_21 rfl ?_
  refine x_iadd F dJ6_bitCount_0f7a4_22 rfl ?_
  refine x_istore_n F dJ6_bitCount_0f7a4_23 rfl (by decide) rfl rfl (fun v2 => ?_)
  show Y cx x _ _ _ _ [(0, vI v2)] _ _ _
  refine x_iload_n F dJ6_bitCount_0f7a4_24 rfl rfl rfl ?_
  refine x_iload_n F dJ6_bitCount_0f7a4_25 rfl rfl rfl ?_
  refine x_iconst F dJ6_bitCount_0f7a4_26 ⟨by decide, by decide⟩ rfl ?_
  refine x_iushr F dJ6_bitCount_0f7a4_27 rfl ?_
  refine x_iadd F dJ6_bitCount_0f7a4_28 rfl ?_
  refine x_ldcw (v := 252645135) F kcJ6_267 dJ6_bitCount_0f7a4_29 ⟨by decide, by decide⟩ (by decide) rfl ?_
  refine x_iand F dJ6_bitCount_0f7a4_32 rfl ?_
  refine x_istore_n F dJ6_bitCount_0f7a4_33 rfl (by decide) rfl rfl (fun v3 => ?_)
  show Y cx x _ _ _ _ [(0, vI v3)] _ _ _
  refine x_iload_n F dJ6_bitCount_0f7a4_34 rfl rfl rfl ?_
  refine x_iload_n F dJ6_bitCount_0f7a4_35 rfl rfl rfl ?_
  refine x_bipush F dJ6_bitCount_0f7a4_36 ⟨by decide, by decide⟩ (by decide) rfl ?_
  refine x_iushr F dJ6_bitCount_0f7a4_38 rfl ?_
  refine x_iadd F dJ6_bitCount_0f7a4_39 rfl ?_
  refine x_istore_n F dJ6_bitCount_0f7a4_40 rfl (by decide) rfl rfl (fun v4 => ?_)
  show Y cx x _ _ _ _ [(0, vI v4)] _ _ _
  refine x_iload_n F dJ6_bitCount_0f7a4_41 rfl rfl rfl ?_
  refine x_iload_n F dJ6_bitCount_0f7a4_42 rfl rfl rfl ?_
  refine x_bipush F dJ6_bitCount_0f7a4_43 ⟨by decide, by decide⟩ (by decide) rfl ?_
  refine x_iushr F dJ6_bitCount_0f7a4_45 rfl ?_
  refine x_iadd F dJ6_bitCount_0f7a4_46 rfl ?_
  refine x_istore_n F dJ6_bitCount_0f7a4_47 rfl (by decide) rfl rfl (fun v5 => ?_)
  show Y cx x _ _ _ _ [(0, vI v5)] _ _ _
  refine x_iload_n F dJ6_bitCount_0f7a4_48 rfl rfl rfl ?_
  refine x_bipush F dJ6_bitCount_0f7a4_49 ⟨by decide, by decide⟩ (by decide) rfl ?_
  refine x_iand F dJ6_bitCount_0f7a4_51 rfl ?_
  exact x_iret F hnE dJ6_bitCount_0f7a4_52
theorem dJ9_floorMod_7cf53_0 : decode cJ9_floorMod_7cf53 0 = .ok (.iload_n 0, 1) := by decide +kernel
theorem dJ9_floorMod_7cf53_1 : decode cJ9_floorMod_7cf53 1 = .ok (.iload_n 1, 1) := by decide +kernel
theorem dJ9_floorMod_7cf53_2 : decode cJ9_floorMod_7cf53 2 = .ok (.irem, 1) := by decide +kernel
theorem dJ9_floorMod_7cf53_3 : decode cJ9_floorMod_7cf53 3 = .ok (.istore_n 2, 1) := by decide +kernel
theorem dJ9_floorMod_7cf53_4 : decode cJ9_floorMod_7cf53 4 = .ok (.iload_n 0, 1) := by decide +kernel
theorem dJ9_floorMod_7cf53_5 : decode cJ9_floorMod_7cf53 5 = .ok (.iload_n 1, 1) := by decide +kernel
theorem dJ9_floorMod_7cf53_6 : decode cJ9_floorMod_7cf53 6 = .ok (.ixor, 1) := by decide +kernel
theorem dJ9_floorMod_7cf53_7 : decode cJ9_floorMod_7cf53 7 = .ok (.ifCond .ge 11, 3) := by decide +kernel
theorem dJ9_floorMod_7cf53_10 : decode cJ9_floorMod_7cf53 10 = .ok (.iload_n 2, 1) := by decide +kernel
theorem dJ9_floorMod_7cf53_11 : decode cJ9_floorMod_7cf53 11 = .ok (.ifCond .eq 7, 3) := by decide +kernel
theorem dJ9_floorMod_7cf53_14 : decode cJ9_floorMod_7cf53 14 = .ok (.iload_n 2, 1) := by decide +kernel
theorem dJ9_floorMod_7cf53_15 : decode cJ9_floorMod_7cf53 15 = .ok (.iload_n 1, 1) := by decide +kernel
theorem dJ9_floorMod_7cf53_16 : decode cJ9_floorMod_7cf53 16 = .ok (.iadd, 1) := by decide +kernel
theorem dJ9_floorMod_7cf53_17 : decode cJ9_floorMod_7cf53 17 = .ok (.ireturn, 1) := by decide +kernel
theorem dJ9_floorMod_7cf53_18 : decode cJ9_floorMod_7cf53 18 = .ok (.iload_n 2, 1) := by decide +kernel
theorem dJ9_floorMod_7cf53_19 : decode cJ9_floorMod_7cf53 19 = .ok (.ireturn, 1) := by decide +kernel
def fJ9_floorMod_7cf53 (a0 : Int) (a1 : Int) (G : Hp) : RT := nz a1 (bd (irem a0 a1) fun v1 => if (ixor a0 a1) < 0 then (if v1 = 0 then rt v1 G else (rt (iadd v1 a1) G)) else rt v1 G)
theorem pJ9_floorMod_7cf53 {G : Hp} {a0 : Int} {a1 : Int} : PU G (fJ9_floorMod_7cf53 a0 a1 G) := by
  unfold fJ9_floorMod_7cf53
  refine PU_nz ?_
  refine PU_bd (fun v1 => ?_)
  refine PU_ite ?_ ?_
  · refine PU_ite ?_ ?_
    · exact PU_rt
    · exact PU_rt
  · exact PU_rt
set_option maxRecDepth 20000 in
set_option maxHeartbeats 4000000 in
theorem tJ9_floorMod_7cf53 (l : Launch) (x : WX) (hi : Inj x.2.2) (G : Hp) (a0 : Int) (a1 : Int)  : Ct l x yJ9_floorMod_7cf53 cJ9_floorMod_7cf53 3 (some .int) 0 130 130 [vI a0, vI a1] G (fJ9_floorMod_7cf53 a0 a1 G) := by
  refine ct_ofJ (by decide +kernel) hi (Nat.le_refl _) (Nat.le_refl _) (Nat.le_of_ble_eq_true rfl) (fun cx F hd hn0 hnE hl => ?_)
  subst hl
  have F : Fx cx x RJ9 cJ9_floorMod_7cf53 3 (some .int) := F
  show Y cx x 3 (some .int) 130 0 [(0, vI a0), (1, vI a1)] [] G _
  unfold fJ9_floorMod_7cf53
  refine x_iload_n F dJ9_floorMod_7cf53_0 rfl rfl rfl ?_
  refine x_iload_n F dJ9_floorMod_7cf53_1 rfl rfl rfl ?_
  refine x_irem F dJ9_floorMod_7cf53_2 rfl ?_
  refine x_istore_n F dJ9_floorMod_7cf53_3 rfl (by decide) rfl rfl (fun v1 => ?_)
  show Y cx x _ _ _ _ [(0, vI a0), (1, vI a1), (2, vI v1)] _ _ _
  refine x_iload_n F dJ9_floorMod_7cf53_4 rfl rfl rfl ?_
  refine x_iload_n F dJ9_floorMod_7cf53_5 rfl rfl rfl ?_
  refine x_ixor F dJ9_floorMod_7cf53_6 rfl ?_
  refine x_ifge (pt := 18) F dJ9_floorMod_7cf53_7 rfl rfl ?_ ?_
  · refine x_iload_n F dJ9_floorMod_7cf53_10 rfl rfl rfl ?_
    refine x_ifeq (pt := 18) F dJ9_floorMod_7cf53_11 rfl rfl ?_ ?_
    · refine x_iload_n F dJ9_floorMod_7cf53_18 rfl rfl rfl ?_
      exact x_iret F hnE dJ9_floorMod_7cf53_19
    · refine x_iload_n F dJ9_floorMod_7cf53_14 rfl rfl rfl ?_
      refine x_iload_n F dJ9_floorMod_7cf53_15 rfl rfl rfl ?_
      refine x_iadd F dJ9_floorMod_7cf53_16 rfl ?_
      exact x_iret F hnE dJ9_floorMod_7cf53_17
  · refine x_iload_n F dJ9_floorMod_7cf53_18 rfl rfl rfl ?_
    exact x_iret F hnE dJ9_floorMod_7cf53_19
