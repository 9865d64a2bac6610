theorem dJ6_bitCount_0f7a4_0 : decode cJ6_bitCount_0f7a4 0 = .ok (.iload_n 0, 1) := by decide +kernel
theorem dJ6_bitCount_0f7a4_1 : decode cJ6_bitCount_0f7a4 1 = .ok (.iload_n 0, 1) := by decide +kernel
theorem dJ6_bitCount_0f7a4_2 : decode cJ6_bitCount_0f7a4 2 = .ok (.iconst 1, 1) := by decide +kernel
theorem dJ6_bitCount_0f7a4_3 : decode cJ6_bitCount_0f7a4 3 = .ok (.iushr, 1) := by decide +kernel
theorem dJ6_bitCount_0f7a4_4 : decode cJ6_bitCount_0f7a4 4 = .ok (.ldc_w 265, 3) := by decide +kernel
theorem dJ6_bitCount_0f7a4_7 : decode cJ6_bitCount_0f7a4 7 = .ok (.iand, 1) := by decide +kernel
theorem dJ6_bitCount_0f7a4_8 : decode cJ6_bitCount_0f7a4 8 = .ok (.isub, 1) := by decide +kernel
theorem dJ6_bitCount_0f7a4_9 : decode cJ6_bitCount_0f7a4 9 = .ok (.istore_n 0, 1) := by decide +kernel
theorem dJ6_bitCount_0f7a4_10 : decode cJ6_bitCount_0f7a4 10 = .ok (.iload_n 0, 1) := by decide +kernel
theorem dJ6_bitCount_0f7a4_11 : decode cJ6_bitCount_0f7a4 11 = .ok (.ldc_w 266, 3) := by decide +kernel
theorem dJ6_bitCount_0f7a4_14 : decode cJ6_bitCount_0f7a4 14 = .ok (.iand, 1) := by decide +kernel
theorem dJ6_bitCount_0f7a4_15 : decode cJ6_bitCount_0f7a4 15 = .ok (.iload_n 0, 1) := by decide +kernel
theorem dJ6_bitCount_0f7a4_16 : decode cJ6_bitCount_0f7a4 16 = .ok (.iconst 2, 1) := by decide +kernel
theorem dJ6_bitCount_0f7a4_17 : decode cJ6_bitCount_0f7a4 17 = .ok (.iushr, 1) := by decide +kernel
theorem dJ6_bitCount_0f7a4_18 : decode cJ6_bitCount_0f7a4 18 = .ok (.ldc_w 266, 3) := by decide +kernel
theorem dJ6_bitCount_0f7a4_21 : decode cJ6_bitCount_0f7a4 21 = .ok (.iand, 1) := by decide +kernel
theorem dJ6_bitCount_0f7a4_22 : decode cJ6_bitCount_0f7a4 22 = .ok (.iadd, 1) := by decide +kernel
theorem dJ6_bitCount_0f7a4_23 : decode cJ6_bitCount_0f7a4 23 = .ok (.istore_n 0, 1) := by decide +kernel
theorem dJ6_bitCount_0f7a4_24 : decode cJ6_bitCount_0f7a4 24 = .ok (.iload_n 0, 1) := by decide +kernel
theorem dJ6_bitCount_0f7a4_25 : decode cJ6_bitCount_0f7a4 25 = .ok (.iload_n 0, 1) := by decide +kernel
theorem dJ6_bitCount_0f7a4_26 : decode cJ6_bitCount_0f7a4 26 = .ok (.iconst 4, 1) := by decide +kernel
theorem dJ6_bitCount_0f7a4_27 : decode cJ6_bitCount_0f7a4 27 = .ok (.iushr, 1) := by decide +kernel
theorem dJ6_bitCount_0f7a4_28 : decode cJ6_bitCount_0f7a4 28 = .ok (.iadd, 1) := by decide +kernel
theorem dJ6_bitCount_0f7a4_29 : decode cJ6_bitCount_0f7a4 29 = .ok (.ldc_w 267, 3) := by decide +kernel
theorem dJ6_bitCount_0f7a4_32 : decode cJ6_bitCount_0f7a4 32 = .ok (.iand, 1) := by decide +kernel
theorem dJ6_bitCount_0f7a4_33 : decode cJ6_bitCount_0f7a4 33 = .ok (.istore_n 0, 1) := by decide +kernel
theorem dJ6_bitCount_0f7a4_34 : decode cJ6_bitCount_0f7a4 34 = .ok (.iload_n 0, 1) := by decide +kernel
theorem dJ6_bitCount_0f7a4_35 : decode cJ6_bitCount_0f7a4 35 = .ok (.iload_n 0, 1) := by decide +kernel
theorem dJ6_bitCount_0f7a4_36 : decode cJ6_bitCount_0f7a4 36 = .ok (.bipush 8, 2) := by decide +kernel
theorem dJ6_bitCount_0f7a4_38 : decode cJ6_bitCount_0f7a4 38 = .ok (.iushr, 1) := by decide +kernel
theorem dJ6_bitCount_0f7a4_39 : decode cJ6_bitCount_0f7a4 39 = .ok (.iadd, 1) := by decide +kernel
theorem dJ6_bitCount_0f7a4_40 : decode cJ6_bitCount_0f7a4 40 = .ok (.istore_n 0, 1) := by decide +kernel
theorem dJ6_bitCount_0f7a4_41 : decode cJ6_bitCount_0f7a4 41 = .ok (.iload_n 0, 1) := by decide +kernel
theorem dJ6_bitCount_0f7a4_42 : decode cJ6_bitCount_0f7a4 42 = .ok (.iload_n 0, 1) := by decide +kernel
theorem dJ6_bitCount_0f7a4_43 : decode cJ6_bitCount_0f7a4 43 = .ok (.bipush 16, 2) := by decide +kernel
theorem dJ6_bitCount_0f7a4_45 : decode cJ6_bitCount_0f7a4 45 = .ok (.iushr, 1) := by decide +kernel
theorem dJ6_bitCount_0f7a4_46 : decode cJ6_bitCount_0f7a4 46 = .ok (.iadd, 1) := by decide +kernel
theorem dJ6_bitCount_0f7a4_47 : decode cJ6_bitCount_0f7a4 47 = .ok (.istore_n 0, 1) := by decide +kernel
theorem dJ6_bitCount_0f7a4_48 : decode cJ6_bitCount_0f7a4 48 = .ok (.iload_n 0, 1) := by decide +kernel
theorem dJ6_bitCount_0f7a4_49 : decode cJ6_bitCount_0f7a4 49 = .ok (.bipush 63, 2) := by decide +kernel
theorem dJ6_bitCount_0f7a4_51 : decode cJ6_bitCount_0f7a4 51 = .ok (.iand, 1) := by decide +kernel
theorem dJ6_bitCount_0f7a4_52 : decode cJ6_bitCount_0f7a4 52 = .ok (.ireturn, 1) := by decide +kernel
def fJ6_bitCount_0f7a4 (a0 : Int) (G : Hp) : RT := bd (isub a0 (iand (iushr a0 1) 1431655765)) fun v1 => bd (iadd (iand v1 858993459) (iand (iushr v1 2) 858993459)) fun v2 => bd (iand (iadd v2 (iushr v2 4)) 252645135) fun v3 => bd (iadd v3 (iushr v3 8)) fun v4 => bd (iadd v4 (iushr v4 16)) fun v5 => rt (iand v5 63) G
theorem pJ6_bitCount_0f7a4 {G : Hp} {a0 : Int} : PU G (fJ6_bitCount_0f7a4 a0 G) := by
  unfold fJ6_bitCount_0f7a4
  refine PU_bd (fun v1 => ?_)
  refine PU_bd (fun v2 => ?_)
  refine PU_bd (fun v3 => ?_)
  refine PU_bd (fun v4 => ?_)
  refine PU_bd (fun v5 => ?_)
  exact PU_rt
set_option maxRecDepth 20000 in
set_option maxHeartbeats 4000000 in
theorem tJ6_bitCount_0f7a4 (l : Launch) (x : WX) (hi : Inj x.2.2) (G : Hp) (a0 : Int)  : Ct l x yJ6_bitCount_0f7a4 cJ6_bitCount_0f7a4 1 (some .int) 0 129 129 [vI a0] G (fJ6_bitCount_0f7a4 a0 G) := by
  refine ct_of (by decide +kernel) hi (Nat.le_refl _) (Nat.le_refl _) (Nat.le_of_ble_eq_true rfl) (fun cx F hd hn0 hnE hl hQ => ?_)
  subst hl
  have F : Fx cx x RJ6 cJ6_bitCount_0f7a4 1 (some .int) := F
  show Y cx x 1 (some .int) 129 0 [(0, vI a0)] [] G _
  unfold fJ6_bitCount_0f7a4
  refine x_iload_n F dJ6_bitCount_0f7a4_0 rfl rfl rfl ?_
  refine x_iload_n F dJ6_bitCount_0f7a4_1 rfl rfl rfl ?_
  refine x_iconst F dJ6_bitCount_0f7a4_2 ⟨by decide, by decide⟩ rfl ?_
  refine x_iushr F dJ6_bitCount_0f7a4_3 rfl ?_
  refine x_ldcw (v := 1431655765) F kcJ6_265 dJ6_bitCount_0f7a4_4 ⟨by decide, by decide⟩ (by decide) rfl ?_
  refine x_iand F dJ6_bitCount_0f7a4_7 rfl ?_
  refine x_isub F dJ6_bitCount_0f7a4_8 rfl ?_
  refine x_istore_n F dJ6_bitCount_0f7a4_9 rfl (by decide) rfl rfl (fun v1 => ?_)
  show Y cx x _ _ _ _ [(0, vI v1)] _ _ _
  refine x_iload_n F dJ6_bitCount_0f7a4_10 rfl rfl rfl ?_
  refine x_ldcw (v := 858993459) F kcJ6_266 dJ6_bitCount_0f7a4_11 ⟨by decide, by decide⟩ (by decide) rfl ?_
  refine x_iand F dJ6_bitCount_0f7a4_14 rfl ?_
  refine x_iload_n F dJ6_bitCount_0f7a4_15 rfl rfl rfl ?_
  refine x_iconst F dJ6_bitCount_0f7a4_16 ⟨by decide, by decide⟩ rfl ?_
  refine x_iushr F dJ6_bitCount_0f7a4_17 rfl ?_
  refine x_ldcw (v := 858993459) F kcJ6_266 dJ6_bitCount_0f7a4_18 ⟨by decide, by decide⟩ (by decide) rfl ?_
  refine x_iand F dJ6_bitCount_0f7a4_21 rfl ?_
  refine x_iadd F dJ6_bitCount_0f7a4_22 rfl ?_
  refine x_istore_n F dJ6_bitCount_0f7a4_23 rfl (by decide) rfl rfl (fun v2 => ?_)
  show Y cx x _ _ _ _ [(0, vI v2)] _ _ _
  refine x_iload_n F dJ6_bitCount_0f7a4_24 rfl rfl rfl ?_
  refine x_iload_n F dJ6_bitCount_0f7a4_25 rfl rfl rfl ?_
  refine x_iconst F dJ6_bitCount_0f7a4_26 ⟨by decide, by decide⟩ rfl ?_
  refine x_iushr F dJ6_bitCount_0f7a4_27 rfl ?_
  refine x_iadd F dJ6_bitCount_0f7a4_28 rfl ?_
  refine x_ldcw (v := 252645135) F kcJ6_267 dJ6_bitCount_0f7a4_29 ⟨by decide, by decide⟩ (by decide) rfl ?_
  refine x_iand F dJ6_bitCount_0f7a4_32 rfl ?_
  refine x_istore_n F dJ6_bitCount_0f7a4_33 rfl (by decide) rfl rfl (fun v3 => ?_)
  show Y cx x _ _ _ _ [(0, vI v3)] _ _ _
  refine x_iload_n F dJ6_bitCount_0f7a4_34 rfl rfl rfl ?_
  refine x_iload_n F dJ6_bitCount_0f7a4_35 rfl rfl rfl ?_
  refine x_bipush F dJ6_bitCount_0f7a4_36 ⟨by decide, by decide⟩ (by decide) rfl ?_
  refine x_iushr F dJ6_bitCount_0f7a4_38 rfl ?_
  refine x_iadd F dJ6_bitCount_0f7a4_39 rfl ?_
  refine x_istore_n F dJ6_bitCount_0f7a4_40 rfl (by decide) rfl rfl (fun v4 => ?_)
  show Y cx x _ _ _ _ [(0, vI v4)] _ _ _
  refine x_iload_n F dJ6_bitCount_0f7a4_41 rfl rfl rfl ?_
  refine x_iload_n F dJ6_bitCount_0f7a4_42 rfl rfl rfl ?_
  refine x_bipush F dJ6_bitCount_0f7a4_43 ⟨by decide, by decide⟩ (by decide) rfl ?_
  refine x_iushr F dJ6_bitCount_0f7a4_45 rfl ?_
  refine x_iadd F dJ6_bitCount_0f7a4_46 rfl ?_
  refine x_istore_n F dJ6_bitCount_0f7a4_47 rfl (by decide) rfl rfl (fun v5 => ?_)
  show Y cx x _ _ _ _ [(0, vI v5)] _ _ _
  refine x_iload_n F dJ6_bitCount_0f7a4_48 rfl rfl rfl ?_
  refine x_bipush F dJ6_bitCount_0f7a4_49 ⟨by decide, by decide⟩ (by decide) rfl ?_
  refine x_iand F dJ6_bitCount_0f7a4_51 rfl ?_
  exact x_iret F hnE hQ dJ6_bitCount_0f7a4_52
theorem dJ9_floorMod_7cf53_0 : decode cJ9_floorMod_7cf53 0 = .ok (.iload_n 0, 1) := by decide +kernel
theorem dJ9_floorMod_7cf53_1 : decode cJ9_floorMod_7cf53 1 = .ok (.iload_n 1, 1) := by decide +kernel
theorem dJ9_floorMod_7cf53_2 : decode cJ9_floorMod_7cf53 2 = .ok (.irem, 1) := by decide +kernel
theorem dJ9_floorMod_7cf53_3 : decode cJ9_floorMod_7cf53 3 = .ok (.istore_n 2, 1) := by decide +kernel
theorem dJ9_floorMod_7cf53_4 : decode cJ9_floorMod_7cf53 4 = .ok (.iload_n 0, 1) := by decide +kernel
theorem dJ9_floorMod_7cf53_5 : decode cJ9_floorMod_7cf53 5 = .ok (.iload_n 1, 1) := by decide +kernel
theorem dJ9_floorMod_7cf53_6 : decode cJ9_floorMod_7cf53 6 = .ok (.ixor, 1) := by decide +kernel
theorem dJ9_floorMod_7cf53_7 : decode cJ9_floorMod_7cf53 7 = .ok (.ifCond .ge 11, 3) := by decide +kernel
theorem dJ9_floorMod_7cf53_10 : decode cJ9_floorMod_7cf53 10 = .ok (.iload_n 2, 1) := by decide +kernel
theorem dJ9_floorMod_7cf53_11 : decode cJ9_floorMod_7cf53 11 = .ok (.ifCond .eq 7, 3) := by decide +kernel
theorem dJ9_floorMod_7cf53_14 : decode cJ9_floorMod_7cf53 14 = .ok (.iload_n 2, 1) := by decide +kernel
theorem dJ9_floorMod_7cf53_15 : decode cJ9_floorMod_7cf53 15 = .ok (.iload_n 1, 1) := by decide +kernel
theorem dJ9_floorMod_7cf53_16 : decode cJ9_floorMod_7cf53 16 = .ok (.iadd, 1) := by decide +kernel
theorem dJ9_floorMod_7cf53_17 : decode cJ9_floorMod_7cf53 17 = .ok (.ireturn, 1) := by decide +kernel
theorem dJ9_floorMod_7cf53_18 : decode cJ9_floorMod_7cf53 18 = .ok (.iload_n 2, 1) := by decide +kernel
theorem dJ9_floorMod_7cf53_19 : decode cJ9_floorMod_7cf53 19 = .ok (.ireturn, 1) := by decide +kernel
def fJ9_floorMod_7cf53 (a0 : Int) (a1 : Int) (G : Hp) : RT := nz a1 (bd (irem a0 a1) fun v1 => if (ixor a0 a1) < 0 then (if v1 = 0 then rt v1 G else (rt (iadd v1 a1) G)) else rt v1 G)
theorem pJ9_floorMod_7cf53 {G : Hp} {a0 : Int} {a1 : Int} : PU G (fJ9_floorMod_7cf53 a0 a1 G) := by
  unfold fJ9_floorMod_7cf53
  refine PU_nz ?_
  refine PU_bd (fun v1 => ?_)
  refine PU_ite ?_ ?_
  · refine PU_ite ?_ ?_
    · exact PU_rt
    · exact PU_rt
  · exact PU_rt
set_option maxRecDepth 20000 in
set_option maxHeartbeats 4000000 in
theorem tJ9_floorMod_7cf53 (l : Launch) (x : WX) (hi : Inj x.2.2) (G : Hp) (a0 : Int) (a1 : Int)  : Ct l x yJ9_floorMod_7cf53 cJ9_floorMod_7cf53 3 (some .int) 0 129 129 [vI a0, vI a1] G (fJ9_floorMod_7cf53 a0 a1 G) := by
  refine ct_of (by decide +kernel) hi (Nat.le_refl _) (Nat.le_refl _) (Nat.le_of_ble_eq_true rfl) (fun cx F hd hn0 hnE hl hQ => ?_)
  subst hl
  have F : Fx cx x RJ9 cJ9_floorMod_7cf53 3 (some .int) := F
  show Y cx x 3 (some .int) 129 0 [(0, vI a0), (1, vI a1)] [] G _
  unfold fJ9_floorMod_7cf53
  refine x_iload_n F dJ9_floorMod_7cf53_0 rfl rfl rfl ?_
  refine x_iload_n F dJ9_floorMod_7cf53_1 rfl rfl rfl ?_
  refine x_irem F dJ9_floorMod_7cf53_2 rfl ?_
  refine x_istore_n F dJ9_floorMod_7cf53_3 rfl (by decide) rfl rfl (fun v1 => ?_)
  show Y cx x _ _ _ _ [(0, vI a0), (1, vI a1), (2, vI v1)] _ _ _
  refine x_iload_n F dJ9_floorMod_7cf53_4 rfl rfl rfl ?_
  refine x_iload_n F dJ9_floorMod_7cf53_5 rfl rfl rfl ?_
  refine x_ixor F dJ9_floorMod_7cf53_6 rfl ?_
  refine x_ifge (pt := 18) F dJ9_floorMod_7cf53_7 rfl rfl ?_ ?_
  · refine x_iload_n F dJ9_floorMod_7cf53_10 rfl rfl rfl ?_
    refine x_ifeq (pt := 18) F dJ9_floorMod_7cf53_11 rfl rfl ?_ ?_
    · refine x_iload_n F dJ9_floorMod_7cf53_18 rfl rfl rfl ?_
      exact x_iret F hnE hQ dJ9_floorMod_7cf53_19
    · refine x_iload_n F dJ9_floorMod_7cf53_14 rfl rfl rfl ?_
      refine x_iload_n F dJ9_floorMod_7cf53_15 rfl rfl rfl ?_
      refine x_iadd F dJ9_floorMod_7cf53_16 rfl ?_
      exact x_iret F hnE hQ dJ9_floorMod_7cf53_17
  · refine x_iload_n F dJ9_floorMod_7cf53_18 rfl rfl rfl ?_
    exact x_iret F hnE hQ dJ9_floorMod_7cf53_19
theorem dJ0_isLatin1_aae02_0 : decode cJ0_isLatin1_aae02 0 = .ok (.getstatic 38, 3) := by decide +kernel
theorem dJ0_isLatin1_aae02_3 : decode cJ0_isLatin1_aae02 3 = .ok (.ifCond .eq 14, 3) := by decide +kernel
theorem dJ0_isLatin1_aae02_6 : decode cJ0_isLatin1_aae02 6 = .ok (.aload_n 0, 1) := by decide +kernel
theorem dJ0_isLatin1_aae02_7 : decode cJ0_isLatin1_aae02 7 = .ok (.getfield 15, 3) := by decide +kernel
theorem dJ0_isLatin1_aae02_10 : decode cJ0_isLatin1_aae02 10 = .ok (.ifCond .ne 7, 3) := by decide +kernel
theorem dJ0_isLatin1_aae02_13 : decode cJ0_isLatin1_aae02 13 = .ok (.iconst 1, 1) := by decide +kernel
theorem dJ0_isLatin1_aae02_14 : decode cJ0_isLatin1_aae02 14 = .ok (.goto 4, 3) := by decide +kernel
theorem dJ0_isLatin1_aae02_17 : decode cJ0_isLatin1_aae02 17 = .ok (.iconst 0, 1) := by decide +kernel
theorem dJ0_isLatin1_aae02_18 : decode cJ0_isLatin1_aae02 18 = .ok (.ireturn, 1) := by decide +kernel
def fJ0_isLatin1_aae02 (a0 : Nat) (G : Hp) : RT := if (1 : Int) = 0 then rz 0 G else (if (0 : Int) = 0 then rz 1 G else rz 0 G)
theorem pJ0_isLatin1_aae02 {G : Hp} {a0 : Nat} : PU G (fJ0_isLatin1_aae02 a0 G) := by
  unfold fJ0_isLatin1_aae02
  refine PU_ite ?_ ?_
  · exact PU_rz
  · refine PU_ite ?_ ?_
    · exact PU_rz
    · exact PU_rz
set_option maxRecDepth 20000 in
set_option maxHeartbeats 4000000 in
theorem tJ0_isLatin1_aae02 {n : Nat} (hn9 : n ≤ 129) (l : Launch) (x : WX) (hi : Inj x.2.2) (G : Hp) (a0 : Nat) (ha0 : a0 < 2) : Ct l x yJ0_isLatin1_aae02 cJ0_isLatin1_aae02 1 (some .boolean) 0 n n [vR ((200 + a0))] G (fJ0_isLatin1_aae02 a0 G) := by
  refine ct_of (by decide +kernel) hi (Nat.le_refl _) hn9 (Nat.le_of_ble_eq_true rfl) (fun cx F hd hn0 hnE hl hQ => ?_)
  subst hl
  have F : Fx cx x RJ0 cJ0_isLatin1_aae02 1 (some .boolean) := F
  show Y cx x 1 (some .boolean) n 0 [(0, vR ((200 + a0)))] [] G _
  unfold fJ0_isLatin1_aae02
  refine x_getCS F wd_1_49 dJ0_isLatin1_aae02_0 rfl ?_
  refine x_ifeq (pt := 17) F dJ0_isLatin1_aae02_3 rfl rfl ?_ ?_
  · refine x_iconst F dJ0_isLatin1_aae02_17 ⟨by decide, by decide⟩ rfl ?_
    exact x_zret F hnE hQ dJ0_isLatin1_aae02_18
  · refine x_aload_n F dJ0_isLatin1_aae02_6 rfl rfl rfl ?_
    refine x_getCd F ha0 wd_9_227 dJ0_isLatin1_aae02_7 rfl ?_
    refine x_ifne (pt := 17) F dJ0_isLatin1_aae02_10 rfl rfl ?_ ?_
    · refine x_iconst F dJ0_isLatin1_aae02_13 ⟨by decide, by decide⟩ rfl ?_
      refine x_goto (pc' := 18) F dJ0_isLatin1_aae02_14 rfl ?_
      exact x_zret F hnE hQ dJ0_isLatin1_aae02_18
    · refine x_iconst F dJ0_isLatin1_aae02_17 ⟨by decide, by decide⟩ rfl ?_
      exact x_zret F hnE hQ dJ0_isLatin1_aae02_18
theorem dJ0_coder_7d493_0 : decode cJ0_coder_7d493 0 = .ok (.getstatic 38, 3) := by decide +kernel
theorem dJ0_coder_7d493_3 : decode cJ0_coder_7d493 3 = .ok (.ifCond .eq 10, 3) := by decide +kernel
theorem dJ0_coder_7d493_6 : decode cJ0_coder_7d493 6 = .ok (.aload_n 0, 1) := by decide +kernel
theorem dJ0_coder_7d493_7 : decode cJ0_coder_7d493 7 = .ok (.getfield 15, 3) := by decide +kernel
theorem dJ0_coder_7d493_10 : decode cJ0_coder_7d493 10 = .ok (.goto 4, 3) := by decide +kernel
theorem dJ0_coder_7d493_13 : decode cJ0_coder_7d493 13 = .ok (.iconst 1, 1) := by decide +kernel
theorem dJ0_coder_7d493_14 : decode cJ0_coder_7d493 14 = .ok (.ireturn, 1) := by decide +kernel
def fJ0_coder_7d493 (a0 : Nat) (G : Hp) : RT := if (1 : Int) = 0 then rb 1 G else rb 0 G
theorem pJ0_coder_7d493 {G : Hp} {a0 : Nat} : PU G (fJ0_coder_7d493 a0 G) := by
  unfold fJ0_coder_7d493
  refine PU_ite ?_ ?_
  · exact PU_rb
  · exact PU_rb
set_option maxRecDepth 20000 in
set_option maxHeartbeats 4000000 in
theorem tJ0_coder_7d493 {n : Nat} (hn9 : n ≤ 129) (l : Launch) (x : WX) (hi : Inj x.2.2) (G : Hp) (a0 : Nat) (ha0 : a0 < 2) : Ct l x yJ0_coder_7d493 cJ0_coder_7d493 1 (some .byte) 0 n n [vR ((200 + a0))] G (fJ0_coder_7d493 a0 G) := by
  refine ct_of (by decide +kernel) hi (Nat.le_refl _) hn9 (Nat.le_of_ble_eq_true rfl) (fun cx F hd hn0 hnE hl hQ => ?_)
  subst hl
  have F : Fx cx x RJ0 cJ0_coder_7d493 1 (some .byte) := F
  show Y cx x 1 (some .byte) n 0 [(0, vR ((200 + a0)))] [] G _
  unfold fJ0_coder_7d493
  refine x_getCS F wd_1_49 dJ0_coder_7d493_0 rfl ?_
  refine x_ifeq (pt := 13) F dJ0_coder_7d493_3 rfl rfl ?_ ?_
  · refine x_iconst F dJ0_coder_7d493_13 ⟨by decide, by decide⟩ rfl ?_
    exact x_bret F hnE hQ dJ0_coder_7d493_14
  · refine x_aload_n F dJ0_coder_7d493_6 rfl rfl rfl ?_
    refine x_getCd F ha0 wd_9_227 dJ0_coder_7d493_7 rfl ?_
    refine x_goto (pc' := 14) F dJ0_coder_7d493_10 rfl ?_
    exact x_bret F hnE hQ dJ0_coder_7d493_14
theorem dJ1_canEncode_9a6ad_0 : decode cJ1_canEncode_9a6ad 0 = .ok (.iload_n 0, 1) := by decide +kernel
theorem dJ1_canEncode_9a6ad_1 : decode cJ1_canEncode_9a6ad 1 = .ok (.ifCond .lt 14, 3) := by decide +kernel
theorem dJ1_canEncode_9a6ad_4 : decode cJ1_canEncode_9a6ad 4 = .ok (.iload_n 0, 1) := by decide +kernel
theorem dJ1_canEncode_9a6ad_5 : decode cJ1_canEncode_9a6ad 5 = .ok (.sipush 255, 3) := by decide +kernel
theorem dJ1_canEncode_9a6ad_8 : decode cJ1_canEncode_9a6ad 8 = .ok (.if_icmp .gt 7, 3) := by decide +kernel
theorem dJ1_canEncode_9a6ad_11 : decode cJ1_canEncode_9a6ad 11 = .ok (.iconst 1, 1) := by decide +kernel
theorem dJ1_canEncode_9a6ad_12 : decode cJ1_canEncode_9a6ad 12 = .ok (.goto 4, 3) := by decide +kernel
theorem dJ1_canEncode_9a6ad_15 : decode cJ1_canEncode_9a6ad 15 = .ok (.iconst 0, 1) := by decide +kernel
theorem dJ1_canEncode_9a6ad_16 : decode cJ1_canEncode_9a6ad 16 = .ok (.ireturn, 1) := by decide +kernel
def fJ1_canEncode_9a6ad (a0 : Int) (G : Hp) : RT := if a0 < 0 then rz 0 G else (if 255 < a0 then rz 0 G else rz 1 G)
theorem pJ1_canEncode_9a6ad {G : Hp} {a0 : Int} : PU G (fJ1_canEncode_9a6ad a0 G) := by
  unfold fJ1_canEncode_9a6ad
  refine PU_ite ?_ ?_
  · exact PU_rz
  · refine PU_ite ?_ ?_
    · exact PU_rz
    · exact PU_rz
set_option maxRecDepth 20000 in
set_option maxHeartbeats 4000000 in
theorem tJ1_canEncode_9a6ad {n : Nat} (hn9 : n ≤ 129) (l : Launch) (x : WX) (hi : Inj x.2.2) (G : Hp) (a0 : Int)  : Ct l x yJ1_canEncode_9a6ad cJ1_canEncode_9a6ad 1 (some .boolean) 0 n n [vI a0] G (fJ1_canEncode_9a6ad a0 G) := by
  refine ct_of (by decide +kernel) hi (Nat.le_refl _) hn9 (Nat.le_of_ble_eq_true rfl) (fun cx F hd hn0 hnE hl hQ => ?_)
  subst hl
  have F : Fx cx x RJ1 cJ1_canEncode_9a6ad 1 (some .boolean) := F
  show Y cx x 1 (some .boolean) n 0 [(0, vI a0)] [] G _
  unfold fJ1_canEncode_9a6ad
  refine x_iload_n F dJ1_canEncode_9a6ad_0 rfl rfl rfl ?_
  refine x_iflt (pt := 15) F dJ1_canEncode_9a6ad_1 rfl rfl ?_ ?_
  · refine x_iconst F dJ1_canEncode_9a6ad_15 ⟨by decide, by decide⟩ rfl ?_
    exact x_zret F hnE hQ dJ1_canEncode_9a6ad_16
  · refine x_iload_n F dJ1_canEncode_9a6ad_4 rfl rfl rfl ?_
    refine x_sipush F dJ1_canEncode_9a6ad_5 ⟨by decide, by decide⟩ (by decide) rfl ?_
    refine x_icmpgt (pt := 15) F dJ1_canEncode_9a6ad_8 rfl rfl ?_ ?_
    · refine x_iconst F dJ1_canEncode_9a6ad_15 ⟨by decide, by decide⟩ rfl ?_
      exact x_zret F hnE hQ dJ1_canEncode_9a6ad_16
    · refine x_iconst F dJ1_canEncode_9a6ad_11 ⟨by decide, by decide⟩ rfl ?_
      refine x_goto (pc' := 16) F dJ1_canEncode_9a6ad_12 rfl ?_
      exact x_zret F hnE hQ dJ1_canEncode_9a6ad_16
theorem dJ1_indexOfChar_4cfef_0 : decode cJ1_indexOfChar_4cfef 0 = .ok (.iload_n 1, 1) := by decide +kernel
theorem dJ1_indexOfChar_4cfef_1 : decode cJ1_indexOfChar_4cfef 1 = .ok (.i2b, 1) := by decide +kernel
theorem dJ1_indexOfChar_4cfef_2 : decode cJ1_indexOfChar_4cfef 2 = .ok (.istore 4, 2) := by decide +kernel
theorem dJ1_indexOfChar_4cfef_4 : decode cJ1_indexOfChar_4cfef 4 = .ok (.iload_n 2, 1) := by decide +kernel
theorem dJ1_indexOfChar_4cfef_5 : decode cJ1_indexOfChar_4cfef 5 = .ok (.istore 5, 2) := by decide +kernel
theorem dJ1_indexOfChar_4cfef_7 : decode cJ1_indexOfChar_4cfef 7 = .ok (.iload 5, 2) := by decide +kernel
theorem dJ1_indexOfChar_4cfef_9 : decode cJ1_indexOfChar_4cfef 9 = .ok (.iload_n 3, 1) := by decide +kernel
theorem dJ1_indexOfChar_4cfef_10 : decode cJ1_indexOfChar_4cfef 10 = .ok (.if_icmp .ge 21, 3) := by decide +kernel
theorem dJ1_indexOfChar_4cfef_13 : decode cJ1_indexOfChar_4cfef 13 = .ok (.aload_n 0, 1) := by decide +kernel
theorem dJ1_indexOfChar_4cfef_14 : decode cJ1_indexOfChar_4cfef 14 = .ok (.iload 5, 2) := by decide +kernel
theorem dJ1_indexOfChar_4cfef_16 : decode cJ1_indexOfChar_4cfef 16 = .ok (.baload, 1) := by decide +kernel
theorem dJ1_indexOfChar_4cfef_17 : decode cJ1_indexOfChar_4cfef 17 = .ok (.iload 4, 2) := by decide +kernel
theorem dJ1_indexOfChar_4cfef_19 : decode cJ1_indexOfChar_4cfef 19 = .ok (.if_icmp .ne 6, 3) := by decide +kernel
theorem dJ1_indexOfChar_4cfef_22 : decode cJ1_indexOfChar_4cfef 22 = .ok (.iload 5, 2) := by decide +kernel
theorem dJ1_indexOfChar_4cfef_24 : decode cJ1_indexOfChar_4cfef 24 = .ok (.ireturn, 1) := by decide +kernel
theorem dJ1_indexOfChar_4cfef_25 : decode cJ1_indexOfChar_4cfef 25 = .ok (.iinc 5 1, 3) := by decide +kernel
theorem dJ1_indexOfChar_4cfef_28 : decode cJ1_indexOfChar_4cfef 28 = .ok (.goto (-21), 3) := by decide +kernel
theorem dJ1_indexOfChar_4cfef_31 : decode cJ1_indexOfChar_4cfef 31 = .ok (.iconst (-1), 1) := by decide +kernel
theorem dJ1_indexOfChar_4cfef_32 : decode cJ1_indexOfChar_4cfef 32 = .ok (.ireturn, 1) := by decide +kernel
def fJ1_indexOfChar_4cfef (a0 : Nat) (a1 : Int) (a2 : Int) (a3 : Int) (G : Hp) : RT := bd (i2b a1) fun v1 => bd a2 fun v2 => (lp (fun (_ : Int) => (none : RT)) 5000 (fun (rc4 : Int → RT) (v3 : Int) => if v3 < a3 then (br (rdS a0 v3) fun v5 => if v5 = v1 then rt v3 G else (bd (iadd v3 1) fun v6 => rc4 v6)) else (rt ((-1)) G))) v2
theorem pJ1_indexOfChar_4cfef {G : Hp} {a0 : Nat} {a1 : Int} {a2 : Int} {a3 : Int} : PU G (fJ1_indexOfChar_4cfef a0 a1 a2 a3 G) := by
  unfold fJ1_indexOfChar_4cfef
  refine PU_bd (fun v1 => ?_)
  refine PU_bd (fun v2 => ?_)
  refine x_lp (fun (rc4 : Int → RT) => ∀ (v3 : Int), PU G (rc4 v3)) (fun _ => PU_none) (fun rc4 phrc4 v3 => ?_) 5000 v2
  refine PU_ite ?_ ?_
  · refine PU_br (fun v5 => ?_)
    refine PU_ite ?_ ?_
    · exact PU_rt
    · refine PU_bd (fun v6 => ?_)
      exact phrc4 v6
  · exact PU_rt
set_option maxRecDepth 20000 in
set_option maxHeartbeats 4000000 in
theorem tJ1_indexOfChar_4cfef {n : Nat} (hn9 : n ≤ 129) (l : Launch) (x : WX) (hi : Inj x.2.2) (G : Hp) (a0 : Nat) (a1 : Int) (a2 : Int) (a3 : Int) (ha0 : a0 < 2) : Ct l x yJ1_indexOfChar_4cfef cJ1_indexOfChar_4cfef 6 (some .int) 0 n n [vR ((300 + a0)), vI a1, vI a2, vI a3] G (fJ1_indexOfChar_4cfef a0 a1 a2 a3 G) := by
  refine ct_of (by decide +kernel) hi (Nat.le_refl _) hn9 (Nat.le_of_ble_eq_true rfl) (fun cx F hd hn0 hnE hl hQ => ?_)
  subst hl
  have F : Fx cx x RJ1 cJ1_indexOfChar_4cfef 6 (some .int) := F
  show Y cx x 6 (some .int) n 0 [(0, vR ((300 + a0))), (1, vI a1), (2, vI a2), (3, vI a3)] [] G _
  unfold fJ1_indexOfChar_4cfef
  refine x_iload_n F dJ1_indexOfChar_4cfef_0 rfl rfl rfl ?_
  refine x_i2b F dJ1_indexOfChar_4cfef_1 rfl ?_
  refine x_dp (L' := [(0, vR ((300 + a0))), (2, vI a2), (3, vI a3)]) [0, 2, 3] rfl ?_
  refine x_istore F dJ1_indexOfChar_4cfef_2 (by decide) rfl rfl (fun v1 => ?_)
  show Y cx x _ _ _ _ [(0, vR ((300 + a0))), (2, vI a2), (3, vI a3), (4, vI v1)] _ _ _
  refine x_iload_n F dJ1_indexOfChar_4cfef_4 rfl rfl rfl ?_
  refine x_dp (L' := [(0, vR ((300 + a0))), (3, vI a3), (4, vI v1)]) [0, 2, 3] rfl ?_
  refine x_istore F dJ1_indexOfChar_4cfef_5 (by decide) rfl rfl (fun v2 => ?_)
  show Y cx x _ _ _ _ [(0, vR ((300 + a0))), (3, vI a3), (4, vI v1), (5, vI v2)] _ _ _
  refine x_lp (fun (rc4 : Int → RT) => ∀ (v3 : Int), Y cx x 6 (some .int) n 7 [(0, vR ((300 + a0))), (3, vI a3), (4, vI v1), (5, vI v3)] [] G (rc4 v3)) (fun _ => Y_none) (fun rc4 hrc4 v3 => ?_) 5000 v2
  refine x_iload F dJ1_indexOfChar_4cfef_7 rfl rfl ?_
  refine x_iload_n F dJ1_indexOfChar_4cfef_9 rfl rfl rfl ?_
  refine x_icmpge (pt := 31) F dJ1_indexOfChar_4cfef_10 rfl rfl ?_ ?_
  · refine x_aload_n F dJ1_indexOfChar_4cfef_13 rfl rfl rfl ?_
    refine x_iload F dJ1_indexOfChar_4cfef_14 rfl rfl ?_
    refine x_sbald F ha0 dJ1_indexOfChar_4cfef_16 rfl (fun v5 => ?_)
    refine x_iload F dJ1_indexOfChar_4cfef_17 rfl rfl ?_
    refine x_icmpne (pt := 25) F dJ1_indexOfChar_4cfef_19 rfl rfl ?_ ?_
    · refine x_iload F dJ1_indexOfChar_4cfef_22 rfl rfl ?_
      exact x_iret F hnE hQ dJ1_indexOfChar_4cfef_24
    · refine x_iinc F dJ1_indexOfChar_4cfef_25 rfl (by decide) rfl rfl (fun v6 => ?_)
      show Y cx x _ _ _ _ [(0, vR ((300 + a0))), (3, vI a3), (4, vI v1), (5, vI v6)] _ _ _
      refine x_goto (pc' := 7) F dJ1_indexOfChar_4cfef_28 rfl ?_
      exact hrc4 v6
  · refine x_iconst F dJ1_indexOfChar_4cfef_31 ⟨by decide, by decide⟩ rfl ?_
    exact x_iret F hnE hQ dJ1_indexOfChar_4cfef_32
theorem dJ0_length_8abf5_0 : decode cJ0_length_8abf5 0 = .ok (.aload_n 0, 1) := by decide +kernel
theorem dJ0_length_8abf5_1 : decode cJ0_length_8abf5 1 = .ok (.getfield 9, 3) := by decide +kernel
theorem dJ0_length_8abf5_4 : decode cJ0_length_8abf5 4 = .ok (.arraylength, 1) := by decide +kernel
theorem dJ0_length_8abf5_5 : decode cJ0_length_8abf5 5 = .ok (.aload_n 0, 1) := by decide +kernel
theorem dJ0_length_8abf5_6 : decode cJ0_length_8abf5 6 = .ok (.invokevirtual 335, 3) := by decide +kernel
theorem dJ0_length_8abf5_9 : decode cJ0_length_8abf5 9 = .ok (.ishr, 1) := by decide +kernel
theorem dJ0_length_8abf5_10 : decode cJ0_length_8abf5 10 = .ok (.ireturn, 1) := by decide +kernel
def fJ0_length_8abf5 (a0 : Nat) (G : Hp) : RT := bp (fJ0_coder_7d493 a0 G) fun v1 => rt (ishr (((sLen.getD a0 0 : Nat) : Int)) v1) G
theorem pJ0_length_8abf5 {G : Hp} {a0 : Nat} : PU G (fJ0_length_8abf5 a0 G) := by
  unfold fJ0_length_8abf5
  refine PU_bp (fun v1 => ?_)
  exact PU_rt
set_option maxRecDepth 20000 in
set_option maxHeartbeats 4000000 in
theorem tJ0_length_8abf5 {n : Nat} (hn9 : n ≤ 129) (l : Launch) (x : WX) (hi : Inj x.2.2) (G : Hp) (a0 : Nat) (ha0 : a0 < 2) : Ct l x yJ0_length_8abf5 cJ0_length_8abf5 1 (some .int) 1 n n [vR ((200 + a0))] G (fJ0_length_8abf5 a0 G) := by
  refine ct_of (by decide +kernel) hi (Nat.le_refl _) hn9 (Nat.le_of_ble_eq_true rfl) (fun cx F hd hn0 hnE hl hQ => ?_)
  subst hl
  have F : Fx cx x RJ0 cJ0_length_8abf5 1 (some .int) := F
  show Y cx x 1 (some .int) n 0 [(0, vR ((200 + a0)))] [] G _
  unfold fJ0_length_8abf5
  refine x_aload_n F dJ0_length_8abf5_0 rfl rfl rfl ?_
  refine x_getVl F ha0 wd_9_226 dJ0_length_8abf5_1 rfl ?_
  refine x_slen F ha0 dJ0_length_8abf5_4 rfl ?_
  refine x_aload_n F dJ0_length_8abf5_5 rfl rfl rfl ?_
  refine s_callTP F [] [vI (((sLen.getD a0 0 : Nat) : Int))] lkJ0_335 mJ0_coder_7d493 rfl ha0 hnE hn0 hd pJ0_coder_7d493 (tJ0_coder_7d493 hn9 cx.l x hi G a0 ha0) rfl rfl dJ0_length_8abf5_6 rfl rfl (fun v1 => ?_)
  refine x_ishr F dJ0_length_8abf5_9 rfl ?_
  exact x_iret F hnE hQ dJ0_length_8abf5_10
theorem dJ1_indexOf_4cfef_0 : decode cJ1_indexOf_4cfef 0 = .ok (.iload_n 1, 1) := by decide +kernel
theorem dJ1_indexOf_4cfef_1 : decode cJ1_indexOf_4cfef 1 = .ok (.invokestatic 88, 3) := by decide +kernel
theorem dJ1_indexOf_4cfef_4 : decode cJ1_indexOf_4cfef 4 = .ok (.ifCond .ne 5, 3) := by decide +kernel
theorem dJ1_indexOf_4cfef_7 : decode cJ1_indexOf_4cfef 7 = .ok (.iconst (-1), 1) := by decide +kernel
theorem dJ1_indexOf_4cfef_8 : decode cJ1_indexOf_4cfef 8 = .ok (.ireturn, 1) := by decide +kernel
theorem dJ1_indexOf_4cfef_9 : decode cJ1_indexOf_4cfef 9 = .ok (.iload_n 2, 1) := by decide +kernel
theorem dJ1_indexOf_4cfef_10 : decode cJ1_indexOf_4cfef 10 = .ok (.iconst 0, 1) := by decide +kernel
theorem dJ1_indexOf_4cfef_11 : decode cJ1_indexOf_4cfef 11 = .ok (.invokestatic 92, 3) := by decide +kernel
theorem dJ1_indexOf_4cfef_14 : decode cJ1_indexOf_4cfef 14 = .ok (.istore_n 2, 1) := by decide +kernel
theorem dJ1_indexOf_4cfef_15 : decode cJ1_indexOf_4cfef 15 = .ok (.iload_n 3, 1) := by decide +kernel
theorem dJ1_indexOf_4cfef_16 : decode cJ1_indexOf_4cfef 16 = .ok (.aload_n 0, 1) := by decide +kernel
theorem dJ1_indexOf_4cfef_17 : decode cJ1_indexOf_4cfef 17 = .ok (.arraylength, 1) := by decide +kernel
theorem dJ1_indexOf_4cfef_18 : decode cJ1_indexOf_4cfef 18 = .ok (.invokestatic 38, 3) := by decide +kernel
theorem dJ1_indexOf_4cfef_21 : decode cJ1_indexOf_4cfef 21 = .ok (.istore_n 3, 1) := by decide +kernel
theorem dJ1_indexOf_4cfef_22 : decode cJ1_indexOf_4cfef 22 = .ok (.iload_n 2, 1) := by decide +kernel
theorem dJ1_indexOf_4cfef_23 : decode cJ1_indexOf_4cfef 23 = .ok (.iload_n 3, 1) := by decide +kernel
theorem dJ1_indexOf_4cfef_24 : decode cJ1_indexOf_4cfef 24 = .ok (.if_icmp .lt 5, 3) := by decide +kernel
theorem dJ1_indexOf_4cfef_27 : decode cJ1_indexOf_4cfef 27 = .ok (.iconst (-1), 1) := by decide +kernel
theorem dJ1_indexOf_4cfef_28 : decode cJ1_indexOf_4cfef 28 = .ok (.ireturn, 1) := by decide +kernel
theorem dJ1_indexOf_4cfef_29 : decode cJ1_indexOf_4cfef 29 = .ok (.aload_n 0, 1) := by decide +kernel
theorem dJ1_indexOf_4cfef_30 : decode cJ1_indexOf_4cfef 30 = .ok (.iload_n 1, 1) := by decide +kernel
theorem dJ1_indexOf_4cfef_31 : decode cJ1_indexOf_4cfef 31 = .ok (.iload_n 2, 1) := by decide +kernel
theorem dJ1_indexOf_4cfef_32 : decode cJ1_indexOf_4cfef 32 = .ok (.iload_n 3, 1) := by decide +kernel
theorem dJ1_indexOf_4cfef_33 : decode cJ1_indexOf_4cfef 33 = .ok (.invokestatic 95, 3) := by decide +kernel
theorem dJ1_indexOf_4cfef_36 : decode cJ1_indexOf_4cfef 36 = .ok (.ireturn, 1) := by decide +kernel
def fJ1_indexOf_4cfef (a0 : Nat) (a1 : Int) (a2 : Int) (a3 : Int) (G : Hp) : RT := bp (fJ1_canEncode_9a6ad a1 G) fun v1 => if v1 = 0 then (rt ((-1)) G) else (bd ((if a2 < 0 then 0 else a2)) fun v2 => bd ((if (((sLen.getD a0 0 : Nat) : Int)) < a3 then ((sLen.getD a0 0 : Nat) : Int) else a3)) fun v3 => if v2 < v3 then (bp (fJ1_indexOfChar_4cfef a0 a1 v2 v3 G) fun v4 => rt v4 G) else (rt ((-1)) G))
theorem pJ1_indexOf_4cfef {G : Hp} {a0 : Nat} {a1 : Int} {a2 : Int} {a3 : Int} : PU G (fJ1_indexOf_4cfef a0 a1 a2 a3 G) := by
  unfold fJ1_indexOf_4cfef
  refine PU_bp (fun v1 => ?_)
  refine PU_ite ?_ ?_
  · exact PU_rt
  · refine PU_bd (fun v2 => ?_)
    refine PU_bd (fun v3 => ?_)
    refine PU_ite ?_ ?_
    · refine PU_bp (fun v4 => ?_)
      exact PU_rt
    · exact PU_rt
set_option maxRecDepth 20000 in
set_option maxHeartbeats 4000000 in
theorem tJ1_indexOf_4cfef {n : Nat} (hn9 : n ≤ 129) (l : Launch) (x : WX) (hi : Inj x.2.2) (G : Hp) (a0 : Nat) (a1 : Int) (a2 : Int) (a3 : Int) (ha0 : a0 < 2) : Ct l x yJ1_indexOf_4cfef cJ1_indexOf_4cfef 4 (some .int) 1 n n [vR ((300 + a0)), vI a1, vI a2, vI a3] G (fJ1_indexOf_4cfef a0 a1 a2 a3 G) := by
  refine ct_of (by decide +kernel) hi (Nat.le_refl _) hn9 (Nat.le_of_ble_eq_true rfl) (fun cx F hd hn0 hnE hl hQ => ?_)
  subst hl
  have F : Fx cx x RJ1 cJ1_indexOf_4cfef 4 (some .int) := F
  show Y cx x 4 (some .int) n 0 [(0, vR ((300 + a0))), (1, vI a1), (2, vI a2), (3, vI a3)] [] G _
  unfold fJ1_indexOf_4cfef
  refine x_iload_n F dJ1_indexOf_4cfef_0 rfl rfl rfl ?_
  refine s_callSPn F [vI a1] [] lkJ1_88 mJ1_canEncode_9a6ad hnE hn0 hd pJ1_canEncode_9a6ad (tJ1_canEncode_9a6ad hn9 cx.l x hi G a1) rfl rfl dJ1_indexOf_4cfef_1 rfl rfl (fun v1 => ?_)
  refine x_ifne (pt := 9) F dJ1_indexOf_4cfef_4 rfl rfl ?_ ?_
  · refine x_iconst F dJ1_indexOf_4cfef_7 ⟨by decide, by decide⟩ rfl ?_
    exact x_iret F hnE hQ dJ1_indexOf_4cfef_8
  · refine x_iload_n F dJ1_indexOf_4cfef_9 rfl rfl rfl ?_
    refine x_iconst F dJ1_indexOf_4cfef_10 ⟨by decide, by decide⟩ rfl ?_
    refine x_mmax F lkJ1_92 mmmax1 mmIni mmmax2 (Nat.le_of_eq hnE.symm) (le_d (d' := 0) hd rfl) (Nat.le_of_ble_eq_true rfl) dJ1_indexOf_4cfef_11 rfl ?_
    refine x_istore_n F dJ1_indexOf_4cfef_14 rfl (by decide) rfl rfl (fun v2 => ?_)
    show Y cx x _ _ _ _ [(0, vR ((300 + a0))), (1, vI a1), (2, vI v2), (3, vI a3)] _ _ _
    refine x_iload_n F dJ1_indexOf_4cfef_15 rfl rfl rfl ?_
    refine x_aload_n F dJ1_indexOf_4cfef_16 rfl rfl rfl ?_
    refine x_slen F ha0 dJ1_indexOf_4cfef_17 rfl ?_
    refine x_mmin F lkJ1_38 mmmin1 mmIni mmmin2 (Nat.le_of_eq hnE.symm) (le_d (d' := 0) hd rfl) (Nat.le_of_ble_eq_true rfl) dJ1_indexOf_4cfef_18 rfl ?_
    refine x_istore_n F dJ1_indexOf_4cfef_21 rfl (by decide) rfl rfl (fun v3 => ?_)
    show Y cx x _ _ _ _ [(0, vR ((300 + a0))), (1, vI a1), (2, vI v2), (3, vI v3)] _ _ _
    refine x_iload_n F dJ1_indexOf_4cfef_22 rfl rfl rfl ?_
    refine x_iload_n F dJ1_indexOf_4cfef_23 rfl rfl rfl ?_
    refine x_icmplt (pt := 29) F dJ1_indexOf_4cfef_24 rfl rfl ?_ ?_
    · refine x_aload_n F dJ1_indexOf_4cfef_29 rfl rfl rfl ?_
      refine x_iload_n F dJ1_indexOf_4cfef_30 rfl rfl rfl ?_
      refine x_iload_n F dJ1_indexOf_4cfef_31 rfl rfl rfl ?_
      refine x_iload_n F dJ1_indexOf_4cfef_32 rfl rfl rfl ?_
      refine s_callSPn F [vR ((300 + a0)), vI a1, vI v2, vI v3] [] lkJ1_95 mJ1_indexOfChar_4cfef hnE hn0 hd pJ1_indexOfChar_4cfef (tJ1_indexOfChar_4cfef hn9 cx.l x hi G a0 a1 v2 v3 ha0) rfl rfl dJ1_indexOf_4cfef_33 rfl rfl (fun v4 => ?_)
      exact x_iret F hnE hQ dJ1_indexOf_4cfef_36
    · refine x_iconst F dJ1_indexOf_4cfef_27 ⟨by decide, by decide⟩ rfl ?_
      exact x_iret F hnE hQ dJ1_indexOf_4cfef_28
theorem dJ0_indexOf_7cf53_0 : decode cJ0_indexOf_7cf53 0 = .ok (.aload_n 0, 1) := by decide +kernel
theorem dJ0_indexOf_7cf53_1 : decode cJ0_indexOf_7cf53 1 = .ok (.invokevirtual 492, 3) := by decide +kernel
theorem dJ0_indexOf_7cf53_4 : decode cJ0_indexOf_7cf53 4 = .ok (.ifCond .eq 19, 3) := by decide +kernel
theorem dJ0_indexOf_7cf53_7 : decode cJ0_indexOf_7cf53 7 = .ok (.aload_n 0, 1) := by decide +kernel
theorem dJ0_indexOf_7cf53_8 : decode cJ0_indexOf_7cf53 8 = .ok (.getfield 9, 3) := by decide +kernel
theorem dJ0_indexOf_7cf53_11 : decode cJ0_indexOf_7cf53 11 = .ok (.iload_n 1, 1) := by decide +kernel
theorem dJ0_indexOf_7cf53_12 : decode cJ0_indexOf_7cf53 12 = .ok (.iload_n 2, 1) := by decide +kernel
theorem dJ0_indexOf_7cf53_13 : decode cJ0_indexOf_7cf53 13 = .ok (.aload_n 0, 1) := by decide +kernel
theorem dJ0_indexOf_7cf53_14 : decode cJ0_indexOf_7cf53 14 = .ok (.invokevirtual 505, 3) := by decide +kernel
theorem dJ0_indexOf_7cf53_17 : decode cJ0_indexOf_7cf53 17 = .ok (.invokestatic 637, 3) := by decide +kernel
theorem dJ0_indexOf_7cf53_20 : decode cJ0_indexOf_7cf53 20 = .ok (.goto 16, 3) := by decide +kernel
theorem dJ0_indexOf_7cf53_23 : decode cJ0_indexOf_7cf53 23 = .ok (.aload_n 0, 1) := by decide +kernel
theorem dJ0_indexOf_7cf53_24 : decode cJ0_indexOf_7cf53 24 = .ok (.getfield 9, 3) := by decide +kernel
theorem dJ0_indexOf_7cf53_27 : decode cJ0_indexOf_7cf53 27 = .ok (.iload_n 1, 1) := by decide +kernel
theorem dJ0_indexOf_7cf53_28 : decode cJ0_indexOf_7cf53 28 = .ok (.iload_n 2, 1) := by decide +kernel
theorem dJ0_indexOf_7cf53_29 : decode cJ0_indexOf_7cf53 29 = .ok (.aload_n 0, 1) := by decide +kernel
theorem dJ0_indexOf_7cf53_30 : decode cJ0_indexOf_7cf53 30 = .ok (.invokevirtual 505, 3) := by decide +kernel
theorem dJ0_indexOf_7cf53_33 : decode cJ0_indexOf_7cf53 33 = .ok (.invokestatic 640, 3) := by decide +kernel
theorem dJ0_indexOf_7cf53_36 : decode cJ0_indexOf_7cf53 36 = .ok (.ireturn, 1) := by decide +kernel
def fJ0_indexOf_7cf53 (a0 : Nat) (a1 : Int) (a2 : Int) (G : Hp) : RT := bp (fJ0_isLatin1_aae02 a0 G) fun v1 => if v1 = 0 then (bp (fJ0_length_8abf5 a0 G) fun v2 => none) else (bp (fJ0_length_8abf5 a0 G) fun v3 => bp (fJ1_indexOf_4cfef a0 a1 a2 v3 G) fun v4 => rt v4 G)
theorem pJ0_indexOf_7cf53 {G : Hp} {a0 : Nat} {a1 : Int} {a2 : Int} : PU G (fJ0_indexOf_7cf53 a0 a1 a2 G) := by
  unfold fJ0_indexOf_7cf53
  refine PU_bp (fun v1 => ?_)
  refine PU_ite ?_ ?_
  · refine PU_bp (fun v2 => ?_)
    exact PU_none
  · refine PU_bp (fun v3 => ?_)
    refine PU_bp (fun v4 => ?_)
    exact PU_rt
set_option maxRecDepth 20000 in
set_option maxHeartbeats 4000000 in
theorem tJ0_indexOf_7cf53 {n : Nat} (hn9 : n ≤ 129) (l : Launch) (x : WX) (hi : Inj x.2.2) (G : Hp) (a0 : Nat) (a1 : Int) (a2 : Int) (ha0 : a0 < 2) : Ct l x yJ0_indexOf_7cf53 cJ0_indexOf_7cf53 3 (some .int) 2 n n [vR ((200 + a0)), vI a1, vI a2] G (fJ0_indexOf_7cf53 a0 a1 a2 G) := by
  refine ct_of (by decide +kernel) hi (Nat.le_refl _) hn9 (Nat.le_of_ble_eq_true rfl) (fun cx F hd hn0 hnE hl hQ => ?_)
  subst hl
  have F : Fx cx x RJ0 cJ0_indexOf_7cf53 3 (some .int) := F
  show Y cx x 3 (some .int) n 0 [(0, vR ((200 + a0))), (1, vI a1), (2, vI a2)] [] G _
  unfold fJ0_indexOf_7cf53
  refine x_aload_n F dJ0_indexOf_7cf53_0 rfl rfl rfl ?_
  refine s_callTP F [] [] lkJ0_492 mJ0_isLatin1_aae02 rfl ha0 hnE hn0 hd pJ0_isLatin1_aae02 (tJ0_isLatin1_aae02 hn9 cx.l x hi G a0 ha0) rfl rfl dJ0_indexOf_7cf53_1 rfl rfl (fun v1 => ?_)
  refine x_ifeq (pt := 23) F dJ0_indexOf_7cf53_4 rfl rfl ?_ ?_
  · refine x_aload_n F dJ0_indexOf_7cf53_23 rfl rfl rfl ?_
    refine x_getVl F ha0 wd_9_226 dJ0_indexOf_7cf53_24 rfl ?_
    refine x_iload_n F dJ0_indexOf_7cf53_27 rfl rfl rfl ?_
    refine x_iload_n F dJ0_indexOf_7cf53_28 rfl rfl rfl ?_
    refine x_aload_n F dJ0_indexOf_7cf53_29 rfl rfl rfl ?_
    refine s_callTP F [] [vI a2, vI a1, vR ((300 + a0))] lkJ0_505 mJ0_length_8abf5 rfl ha0 hnE hn0 hd pJ0_length_8abf5 (tJ0_length_8abf5 hn9 cx.l x hi G a0 ha0) rfl rfl dJ0_indexOf_7cf53_30 rfl rfl (fun v2 => ?_)
    exact Y_none
  · refine x_aload_n F dJ0_indexOf_7cf53_7 rfl rfl rfl ?_
    refine x_getVl F ha0 wd_9_226 dJ0_indexOf_7cf53_8 rfl ?_
    refine x_iload_n F dJ0_indexOf_7cf53_11 rfl rfl rfl ?_
    refine x_iload_n F dJ0_indexOf_7cf53_12 rfl rfl rfl ?_
    refine x_aload_n F dJ0_indexOf_7cf53_13 rfl rfl rfl ?_
    refine s_callTP F [] [vI a2, vI a1, vR ((300 + a0))] lkJ0_505 mJ0_length_8abf5 rfl ha0 hnE hn0 hd pJ0_length_8abf5 (tJ0_length_8abf5 hn9 cx.l x hi G a0 ha0) rfl rfl dJ0_indexOf_7cf53_14 rfl rfl (fun v3 => ?_)
    refine s_callSPn F [vR ((300 + a0)), vI a1, vI a2, vI v3] [] lkJ0_637 mJ1_indexOf_4cfef hnE hn0 hd pJ1_indexOf_4cfef (tJ1_indexOf_4cfef hn9 cx.l x hi G a0 a1 a2 v3 ha0) rfl rfl dJ0_indexOf_7cf53_17 rfl rfl (fun v4 => ?_)
    refine x_goto (pc' := 36) F dJ0_indexOf_7cf53_20 rfl ?_
    exact x_iret F hnE hQ dJ0_indexOf_7cf53_36
theorem dJ0_indexOf_0f7a4_0 : decode cJ0_indexOf_0f7a4 0 = .ok (.aload_n 0, 1) := by decide +kernel
theorem dJ0_indexOf_0f7a4_1 : decode cJ0_indexOf_0f7a4 1 = .ok (.iload_n 1, 1) := by decide +kernel
theorem dJ0_indexOf_0f7a4_2 : decode cJ0_indexOf_0f7a4 2 = .ok (.iconst 0, 1) := by decide +kernel
theorem dJ0_indexOf_0f7a4_3 : decode cJ0_indexOf_0f7a4 3 = .ok (.invokevirtual 633, 3) := by decide +kernel
theorem dJ0_indexOf_0f7a4_6 : decode cJ0_indexOf_0f7a4 6 = .ok (.ireturn, 1) := by decide +kernel
def fJ0_indexOf_0f7a4 (a0 : Nat) (a1 : Int) (G : Hp) : RT := bp (fJ0_indexOf_7cf53 a0 a1 0 G) fun v1 => rt v1 G
theorem pJ0_indexOf_0f7a4 {G : Hp} {a0 : Nat} {a1 : Int} : PU G (fJ0_indexOf_0f7a4 a0 a1 G) := by
  unfold fJ0_indexOf_0f7a4
  refine PU_bp (fun v1 => ?_)
  exact PU_rt
set_option maxRecDepth 20000 in
set_option maxHeartbeats 4000000 in
theorem tJ0_indexOf_0f7a4 {n : Nat} (hn9 : n ≤ 129) (l : Launch) (x : WX) (hi : Inj x.2.2) (G : Hp) (a0 : Nat) (a1 : Int) (ha0 : a0 < 2) : Ct l x yJ0_indexOf_0f7a4 cJ0_indexOf_0f7a4 2 (some .int) 3 n n [vR ((200 + a0)), vI a1] G (fJ0_indexOf_0f7a4 a0 a1 G) := by
  refine ct_of (by decide +kernel) hi (Nat.le_refl _) hn9 (Nat.le_of_ble_eq_true rfl) (fun cx F hd hn0 hnE hl hQ => ?_)
  subst hl
  have F : Fx cx x RJ0 cJ0_indexOf_0f7a4 2 (some .int) := F
  show Y cx x 2 (some .int) n 0 [(0, vR ((200 + a0))), (1, vI a1)] [] G _
  unfold fJ0_indexOf_0f7a4
  refine x_aload_n F dJ0_indexOf_0f7a4_0 rfl rfl rfl ?_
  refine x_iload_n F dJ0_indexOf_0f7a4_1 rfl rfl rfl ?_
  refine x_iconst F dJ0_indexOf_0f7a4_2 ⟨by decide, by decide⟩ rfl ?_
  refine s_callTP F [vI a1, vI 0] [] lkJ0_633 mJ0_indexOf_7cf53 rfl ha0 hnE hn0 hd pJ0_indexOf_7cf53 (tJ0_indexOf_7cf53 hn9 cx.l x hi G a0 a1 0 ha0) rfl rfl dJ0_indexOf_0f7a4_3 rfl rfl (fun v1 => ?_)
  exact x_iret F hnE hQ dJ0_indexOf_0f7a4_6
