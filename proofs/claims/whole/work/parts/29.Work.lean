theorem dX10_clear_0 : decode cX10_clear 0 = .ok (.aload_n 0, 1) := by decide +kernel
theorem dX10_clear_1 : decode cX10_clear 1 = .ok (.iconst 0, 1) := by decide +kernel
theorem dX10_clear_2 : decode cX10_clear 2 = .ok (.putfield 21, 3) := by decide +kernel
theorem dX10_clear_5 : decode cX10_clear 5 = .ok (.return_, 1) := by decide +kernel
def fX10_clear (a0 : Nat) (G : Hp) : RT := bh (up G a0 3 0) fun G1 => rt 0 G1
set_option maxRecDepth 20000 in
set_option maxHeartbeats 4000000 in
theorem tX10_clear (l : Launch) (x : WX) (hi : Inj x.2.2) (G : Hp) (a0 : Nat) (ha0 : kd a0 = 10) : Ct l x yX10_clear cX10_clear 1 none 0 129 129 [vR a0] G (fX10_clear a0 G) := by
  refine ct_of (plainFor_of_name (by decide)) hi (Nat.le_refl _) (Nat.le_refl _) (Nat.le_of_ble_eq_true rfl) (fun cx F hd hn0 hnE hl hQ => ?_)
  subst hl
  have F : Fx cx x RX10 cX10_clear 1 none := F
  show Y cx x 1 none 129 0 [(0, vR a0)] [] G _
  unfold fX10_clear
  refine x_aload_n F dX10_clear_0 rfl rfl rfl ?_
  refine x_iconst F dX10_clear_1 ⟨by decide, by decide⟩ rfl ?_
  refine s_putI F fpX10_21 ha0 rfl dX10_clear_2 rfl (fun G1 => ?_)
  exact x_vret F hnE hQ dX10_clear_5
theorem dX10_copyFrom_0 : decode cX10_copyFrom 0 = .ok (.aload_n 0, 1) := by decide +kernel
theorem dX10_copyFrom_1 : decode cX10_copyFrom 1 = .ok (.aload_n 1, 1) := by decide +kernel
theorem dX10_copyFrom_2 : decode cX10_copyFrom 2 = .ok (.getfield 21, 3) := by decide +kernel
theorem dX10_copyFrom_5 : decode cX10_copyFrom 5 = .ok (.putfield 21, 3) := by decide +kernel
theorem dX10_copyFrom_8 : decode cX10_copyFrom 8 = .ok (.aload_n 1, 1) := by decide +kernel
theorem dX10_copyFrom_9 : decode cX10_copyFrom 9 = .ok (.getfield 9, 3) := by decide +kernel
theorem dX10_copyFrom_12 : decode cX10_copyFrom 12 = .ok (.iconst 0, 1) := by decide +kernel
theorem dX10_copyFrom_13 : decode cX10_copyFrom 13 = .ok (.aload_n 0, 1) := by decide +kernel
theorem dX10_copyFrom_14 : decode cX10_copyFrom 14 = .ok (.getfield 9, 3) := by decide +kernel
theorem dX10_copyFrom_17 : decode cX10_copyFrom 17 = .ok (.iconst 0, 1) := by decide +kernel
theorem dX10_copyFrom_18 : decode cX10_copyFrom 18 = .ok (.bipush 40, 2) := by decide +kernel
theorem dX10_copyFrom_20 : decode cX10_copyFrom 20 = .ok (.invokestatic 25, 3) := by decide +kernel
theorem dX10_copyFrom_23 : decode cX10_copyFrom 23 = .ok (.aload_n 1, 1) := by decide +kernel
theorem dX10_copyFrom_24 : decode cX10_copyFrom 24 = .ok (.getfield 15, 3) := by decide +kernel
theorem dX10_copyFrom_27 : decode cX10_copyFrom 27 = .ok (.iconst 0, 1) := by decide +kernel
theorem dX10_copyFrom_28 : decode cX10_copyFrom 28 = .ok (.aload_n 0, 1) := by decide +kernel
theorem dX10_copyFrom_29 : decode cX10_copyFrom 29 = .ok (.getfield 15, 3) := by decide +kernel
theorem dX10_copyFrom_32 : decode cX10_copyFrom 32 = .ok (.iconst 0, 1) := by decide +kernel
theorem dX10_copyFrom_33 : decode cX10_copyFrom 33 = .ok (.bipush 40, 2) := by decide +kernel
theorem dX10_copyFrom_35 : decode cX10_copyFrom 35 = .ok (.invokestatic 25, 3) := by decide +kernel
theorem dX10_copyFrom_38 : decode cX10_copyFrom 38 = .ok (.aload_n 1, 1) := by decide +kernel
theorem dX10_copyFrom_39 : decode cX10_copyFrom 39 = .ok (.getfield 18, 3) := by decide +kernel
theorem dX10_copyFrom_42 : decode cX10_copyFrom 42 = .ok (.iconst 0, 1) := by decide +kernel
theorem dX10_copyFrom_43 : decode cX10_copyFrom 43 = .ok (.aload_n 0, 1) := by decide +kernel
theorem dX10_copyFrom_44 : decode cX10_copyFrom 44 = .ok (.getfield 18, 3) := by decide +kernel
theorem dX10_copyFrom_47 : decode cX10_copyFrom 47 = .ok (.iconst 0, 1) := by decide +kernel
theorem dX10_copyFrom_48 : decode cX10_copyFrom 48 = .ok (.bipush 40, 2) := by decide +kernel
theorem dX10_copyFrom_50 : decode cX10_copyFrom 50 = .ok (.invokestatic 25, 3) := by decide +kernel
theorem dX10_copyFrom_53 : decode cX10_copyFrom 53 = .ok (.return_, 1) := by decide +kernel
def fX10_copyFrom (a0 : Nat) (a1 : Nat) (G : Hp) : RT := bh (up G a0 3 (G a1 3)) fun G1 => bs (cpO G1 ((rf a1 0)) 40 0 ((rf a0 0)) 40 0 40) fun G2 => bs (cpO G2 ((rf a1 1)) 40 0 ((rf a0 1)) 40 0 40) fun G3 => bs (cpO G3 ((rf a1 2)) 40 0 ((rf a0 2)) 40 0 40) fun G4 => rt 0 G4
set_option maxRecDepth 20000 in
set_option maxHeartbeats 4000000 in
theorem tX10_copyFrom (l : Launch) (x : WX) (hi : Inj x.2.2) (G : Hp) (a0 : Nat) (a1 : Nat) (ha0 : kd a0 = 10) (ha1 : kd a1 = 10) : Ct l x yX10_copyFrom cX10_copyFrom 2 none 1 129 129 [vR a0, vR a1] G (fX10_copyFrom a0 a1 G) := by
  refine ct_of (plainFor_of_name (by decide)) hi (Nat.le_refl _) (Nat.le_refl _) (Nat.le_of_ble_eq_true rfl) (fun cx F hd hn0 hnE hl hQ => ?_)
  subst hl
  have F : Fx cx x RX10 cX10_copyFrom 2 none := F
  show Y cx x 2 none 129 0 [(0, vR a0), (1, vR a1)] [] G _
  unfold fX10_copyFrom
  refine x_aload_n F dX10_copyFrom_0 rfl rfl rfl ?_
  refine x_aload_n F dX10_copyFrom_1 rfl rfl rfl ?_
  refine s_getI F flX10_21 ha1 rfl dX10_copyFrom_2 rfl ?_
  refine s_putI F fpX10_21 ha0 rfl dX10_copyFrom_5 rfl (fun G1 => ?_)
  refine x_aload_n F dX10_copyFrom_8 rfl rfl rfl ?_
  refine x_getR F flX10_9 ha1 rfl dX10_copyFrom_9 rfl ?_
  refine x_iconst F dX10_copyFrom_12 ⟨by decide, by decide⟩ rfl ?_
  refine x_aload_n F dX10_copyFrom_13 rfl rfl rfl ?_
  refine x_getR F flX10_9 ha0 rfl dX10_copyFrom_14 rfl ?_
  refine x_iconst F dX10_copyFrom_17 ⟨by decide, by decide⟩ rfl ?_
  refine x_bipush F dX10_copyFrom_18 ⟨by decide, by decide⟩ (by decide) rfl ?_
  refine x_cpyI F lkX10_25 acw (tf10_0 ha1).1 (tf10_0 ha0).1 (tf10_0 ha1).2 (tf10_0 ha0).2 (kl (tf10_0 ha1).1 rfl) (kl (tf10_0 ha0).1 rfl) (Nat.le_refl _) (le_d (d' := 0) hd rfl) (Nat.le_of_ble_eq_true rfl) dX10_copyFrom_20 rfl (fun G2 => ?_)
  refine x_aload_n F dX10_copyFrom_23 rfl rfl rfl ?_
  refine x_getR F flX10_15 ha1 rfl dX10_copyFrom_24 rfl ?_
  refine x_iconst F dX10_copyFrom_27 ⟨by decide, by decide⟩ rfl ?_
  refine x_aload_n F dX10_copyFrom_28 rfl rfl rfl ?_
  refine x_getR F flX10_15 ha0 rfl dX10_copyFrom_29 rfl ?_
  refine x_iconst F dX10_copyFrom_32 ⟨by decide, by decide⟩ rfl ?_
  refine x_bipush F dX10_copyFrom_33 ⟨by decide, by decide⟩ (by decide) rfl ?_
  refine x_cpyI F lkX10_25 acw (tf10_1 ha1).1 (tf10_1 ha0).1 (tf10_1 ha1).2 (tf10_1 ha0).2 (kl (tf10_1 ha1).1 rfl) (kl (tf10_1 ha0).1 rfl) (Nat.le_refl _) (le_d (d' := 0) hd rfl) (Nat.le_of_ble_eq_true rfl) dX10_copyFrom_35 rfl (fun G3 => ?_)
  refine x_aload_n F dX10_copyFrom_38 rfl rfl rfl ?_
  refine x_getR F flX10_18 ha1 rfl dX10_copyFrom_39 rfl ?_
  refine x_iconst F dX10_copyFrom_42 ⟨by decide, by decide⟩ rfl ?_
  refine x_aload_n F dX10_copyFrom_43 rfl rfl rfl ?_
  refine x_getR F flX10_18 ha0 rfl dX10_copyFrom_44 rfl ?_
  refine x_iconst F dX10_copyFrom_47 ⟨by decide, by decide⟩ rfl ?_
  refine x_bipush F dX10_copyFrom_48 ⟨by decide, by decide⟩ (by decide) rfl ?_
  refine x_cpyI F lkX10_25 acw (tf10_2 ha1).1 (tf10_2 ha0).1 (tf10_2 ha1).2 (tf10_2 ha0).2 (kl (tf10_2 ha1).1 rfl) (kl (tf10_2 ha0).1 rfl) (Nat.le_refl _) (le_d (d' := 0) hd rfl) (Nat.le_of_ble_eq_true rfl) dX10_copyFrom_50 rfl (fun G4 => ?_)
  exact x_vret F hnE hQ dX10_copyFrom_53
theorem dX10_readName_0 : decode cX10_readName 0 = .ok (.aload_n 0, 1) := by decide +kernel
theorem dX10_readName_1 : decode cX10_readName 1 = .ok (.invokevirtual 72, 3) := by decide +kernel
theorem dX10_readName_4 : decode cX10_readName 4 = .ok (.ifCond .ne 11, 3) := by decide +kernel
theorem dX10_readName_7 : decode cX10_readName 7 = .ok (.aload_n 0, 1) := by decide +kernel
theorem dX10_readName_8 : decode cX10_readName 8 = .ok (.iconst 1, 1) := by decide +kernel
theorem dX10_readName_9 : decode cX10_readName 9 = .ok (.invokevirtual 50, 3) := by decide +kernel
theorem dX10_readName_12 : decode cX10_readName 12 = .ok (.pop, 1) := by decide +kernel
theorem dX10_readName_13 : decode cX10_readName 13 = .ok (.iconst (-1), 1) := by decide +kernel
theorem dX10_readName_14 : decode cX10_readName 14 = .ok (.ireturn, 1) := by decide +kernel
theorem dX10_readName_15 : decode cX10_readName 15 = .ok (.iload_n 2, 1) := by decide +kernel
theorem dX10_readName_16 : decode cX10_readName 16 = .ok (.ifCond .eq 14, 3) := by decide +kernel
theorem dX10_readName_19 : decode cX10_readName 19 = .ok (.aload_n 1, 1) := by decide +kernel
theorem dX10_readName_20 : decode cX10_readName 20 = .ok (.aload_n 0, 1) := by decide +kernel
theorem dX10_readName_21 : decode cX10_readName 21 = .ok (.getfield 76, 3) := by decide +kernel
theorem dX10_readName_24 : decode cX10_readName 24 = .ok (.invokevirtual 80, 3) := by decide +kernel
theorem dX10_readName_27 : decode cX10_readName 27 = .ok (.goto 11, 3) := by decide +kernel
theorem dX10_readName_30 : decode cX10_readName 30 = .ok (.aload_n 1, 1) := by decide +kernel
theorem dX10_readName_31 : decode cX10_readName 31 = .ok (.aload_n 0, 1) := by decide +kernel
theorem dX10_readName_32 : decode cX10_readName 32 = .ok (.getfield 76, 3) := by decide +kernel
theorem dX10_readName_35 : decode cX10_readName 35 = .ok (.invokevirtual 86, 3) := by decide +kernel
theorem dX10_readName_38 : decode cX10_readName 38 = .ok (.istore_n 3, 1) := by decide +kernel
theorem dX10_readName_39 : decode cX10_readName 39 = .ok (.iload_n 3, 1) := by decide +kernel
theorem dX10_readName_40 : decode cX10_readName 40 = .ok (.iconst (-1), 1) := by decide +kernel
theorem dX10_readName_41 : decode cX10_readName 41 = .ok (.if_icmp .ne 11, 3) := by decide +kernel
theorem dX10_readName_44 : decode cX10_readName 44 = .ok (.aload_n 0, 1) := by decide +kernel
theorem dX10_readName_45 : decode cX10_readName 45 = .ok (.iconst 2, 1) := by decide +kernel
theorem dX10_readName_46 : decode cX10_readName 46 = .ok (.invokevirtual 50, 3) := by decide +kernel
theorem dX10_readName_49 : decode cX10_readName 49 = .ok (.pop, 1) := by decide +kernel
theorem dX10_readName_50 : decode cX10_readName 50 = .ok (.iconst (-1), 1) := by decide +kernel
theorem dX10_readName_51 : decode cX10_readName 51 = .ok (.ireturn, 1) := by decide +kernel
theorem dX10_readName_52 : decode cX10_readName 52 = .ok (.aload_n 0, 1) := by decide +kernel
theorem dX10_readName_53 : decode cX10_readName 53 = .ok (.invokevirtual 57, 3) := by decide +kernel
theorem dX10_readName_56 : decode cX10_readName 56 = .ok (.iload_n 3, 1) := by decide +kernel
theorem dX10_readName_57 : decode cX10_readName 57 = .ok (.ireturn, 1) := by decide +kernel
def fX10_readName (a0 : Nat) (a1 : Nat) (a2 : Int) (G : Hp) : RT := bp (fX7_isName a0 G) fun v1 => if v1 = 0 then (bn (fX7_wrong a0 1 G) fun v11 G12 => rt ((-1)) G12) else (jn (fun (v2 : Int) => bd v2 fun v4 => if v4 = ((-1)) then (bn (fX7_wrong a0 2 G) fun v7 G8 => rt ((-1)) G8) else (bn (fX7_step a0 G) fun _ G5 => rt v4 G5)) fun (K3 : Int → RT) => if a2 = 0 then (bp (fX8_nodeNamed a1 (G a0 7) G) fun v9 => K3 v9) else (bp (fX8_keyNamed a1 (G a0 7) G) fun v10 => K3 v10))
set_option maxRecDepth 20000 in
set_option maxHeartbeats 4000000 in
theorem tX10_readName (l : Launch) (x : WX) (hi : Inj x.2.2) (G : Hp) (a0 : Nat) (a1 : Nat) (a2 : Int) (ha0 : kd a0 = 7) (ha1 : kd a1 = 8) : Ct l x yX10_readName cX10_readName 4 (some .int) 5 129 129 [vR a0, vR a1, vI a2] G (fX10_readName a0 a1 a2 G) := by
  refine ct_of (plainFor_of_name (by decide)) hi (Nat.le_refl _) (Nat.le_refl _) (Nat.le_of_ble_eq_true rfl) (fun cx F hd hn0 hnE hl hQ => ?_)
  subst hl
  have F : Fx cx x RX10 cX10_readName 4 (some .int) := F
  show Y cx x 4 (some .int) 129 0 [(0, vR a0), (1, vR a1), (2, vI a2)] [] G _
  unfold fX10_readName
  refine x_aload_n F dX10_readName_0 rfl rfl rfl ?_
  refine s_callVP F [] [] lkX10_72 mX7_isName rfl ha0 rfl hnE hn0 hd pX7_isName (tX7_isName cx.l x hi G a0 ha0) rfl rfl dX10_readName_1 rfl rfl (fun v1 => ?_)
  refine x_ifne (pt := 15) F dX10_readName_4 rfl rfl ?_ ?_
  · refine x_aload_n F dX10_readName_7 rfl rfl rfl ?_
    refine x_iconst F dX10_readName_8 ⟨by decide, by decide⟩ rfl ?_
    refine s_callV F [vI 1] [] lkX10_50 mX7_wrong rfl ha0 rfl hnE hn0 hd (tX7_wrong cx.l x hi G a0 1 ha0) rfl rfl dX10_readName_9 rfl rfl (fun v11 G12 => ?_)
    refine x_pop F dX10_readName_12 rfl rfl ?_
    refine x_iconst F dX10_readName_13 ⟨by decide, by decide⟩ rfl ?_
    exact x_iret F hnE hQ dX10_readName_14
  · refine x_iload_n F dX10_readName_15 rfl rfl rfl ?_
    refine x_jn (fun (K3 : Int → RT) => ∀ (v2 : Int), Y cx x 4 (some .int) 129 38 [(0, vR a0)] [vI v2] G (K3 v2)) ?_ (fun K3 hK3 => ?_)
    · intro v2
      refine x_istore_n F dX10_readName_38 rfl (by decide) rfl rfl (fun v4 => ?_)
      show Y cx x _ _ _ _ [(0, vR a0), (3, vI v4)] _ _ _
      refine x_iload_n F dX10_readName_39 rfl rfl rfl ?_
      refine x_iconst F dX10_readName_40 ⟨by decide, by decide⟩ rfl ?_
      refine x_icmpne (pt := 52) F dX10_readName_41 rfl rfl ?_ ?_
      · refine x_aload_n F dX10_readName_44 rfl rfl rfl ?_
        refine x_iconst F dX10_readName_45 ⟨by decide, by decide⟩ rfl ?_
        refine s_callV F [vI 2] [] lkX10_50 mX7_wrong rfl ha0 rfl hnE hn0 hd (tX7_wrong cx.l x hi G a0 2 ha0) rfl rfl dX10_readName_46 rfl rfl (fun v7 G8 => ?_)
        refine x_pop F dX10_readName_49 rfl rfl ?_
        refine x_iconst F dX10_readName_50 ⟨by decide, by decide⟩ rfl ?_
        exact x_iret F hnE hQ dX10_readName_51
      · refine x_aload_n F dX10_readName_52 rfl rfl rfl ?_
        refine s_callVv F [] [] lkX10_57 mX7_step rfl ha0 rfl hnE hn0 hd (tX7_step cx.l x hi G a0 ha0) rfl rfl dX10_readName_53 rfl rfl (fun _ G5 => ?_)
        refine x_iload_n F dX10_readName_56 rfl rfl rfl ?_
        exact x_iret F hnE hQ dX10_readName_57
    · refine x_ifeq (pt := 30) F dX10_readName_16 rfl rfl ?_ ?_
      · refine x_aload_n F dX10_readName_30 rfl rfl rfl ?_
        refine x_aload_n F dX10_readName_31 rfl rfl rfl ?_
        refine s_getJ F flX10_76 ha0 rfl rfl dX10_readName_32 rfl ?_
        refine s_callVP F [vL (G a0 7)] [] lkX10_86 mX8_nodeNamed rfl ha1 rfl hnE hn0 hd pX8_nodeNamed (tX8_nodeNamed cx.l x hi G a1 (G a0 7) ha1) rfl rfl dX10_readName_35 rfl rfl (fun v9 => ?_)
        refine x_dp (L' := [(0, vR a0)]) [0] rfl ?_
        exact hK3 v9
      · refine x_aload_n F dX10_readName_19 rfl rfl rfl ?_
        refine x_aload_n F dX10_readName_20 rfl rfl rfl ?_
        refine s_getJ F flX10_76 ha0 rfl rfl dX10_readName_21 rfl ?_
        refine s_callVP F [vL (G a0 7)] [] lkX10_80 mX8_keyNamed rfl ha1 rfl hnE hn0 hd pX8_keyNamed (tX8_keyNamed cx.l x hi G a1 (G a0 7) ha1) rfl rfl dX10_readName_24 rfl rfl (fun v10 => ?_)
        refine x_goto (pc' := 38) F dX10_readName_27 rfl ?_
        refine x_dp (L' := [(0, vR a0)]) [0] rfl ?_
        exact hK3 v10
theorem dX10_readLine_0 : decode cX10_readLine 0 = .ok (.aload_n 1, 1) := by decide +kernel
theorem dX10_readLine_1 : decode cX10_readLine 1 = .ok (.bipush 6, 2) := by decide +kernel
theorem dX10_readLine_3 : decode cX10_readLine 3 = .ok (.bipush 14, 2) := by decide +kernel
theorem dX10_readLine_5 : decode cX10_readLine 5 = .ok (.invokevirtual 46, 3) := by decide +kernel
theorem dX10_readLine_8 : decode cX10_readLine 8 = .ok (.ifCond .ne 9, 3) := by decide +kernel
theorem dX10_readLine_11 : decode cX10_readLine 11 = .ok (.aload_n 1, 1) := by decide +kernel
theorem dX10_readLine_12 : decode cX10_readLine 12 = .ok (.iconst 1, 1) := by decide +kernel
theorem dX10_readLine_13 : decode cX10_readLine 13 = .ok (.invokevirtual 50, 3) := by decide +kernel
theorem dX10_readLine_16 : decode cX10_readLine 16 = .ok (.ireturn, 1) := by decide +kernel
theorem dX10_readLine_17 : decode cX10_readLine 17 = .ok (.aload_n 0, 1) := by decide +kernel
theorem dX10_readLine_18 : decode cX10_readLine 18 = .ok (.getfield 21, 3) := by decide +kernel
theorem dX10_readLine_21 : decode cX10_readLine 21 = .ok (.istore_n 3, 1) := by decide +kernel
theorem dX10_readLine_22 : decode cX10_readLine 22 = .ok (.iload_n 3, 1) := by decide +kernel
theorem dX10_readLine_23 : decode cX10_readLine 23 = .ok (.bipush 40, 2) := by decide +kernel
theorem dX10_readLine_25 : decode cX10_readLine 25 = .ok (.if_icmp .lt 9, 3) := by decide +kernel
theorem dX10_readLine_28 : decode cX10_readLine 28 = .ok (.aload_n 1, 1) := by decide +kernel
theorem dX10_readLine_29 : decode cX10_readLine 29 = .ok (.iconst 5, 1) := by decide +kernel
theorem dX10_readLine_30 : decode cX10_readLine 30 = .ok (.invokevirtual 50, 3) := by decide +kernel
theorem dX10_readLine_33 : decode cX10_readLine 33 = .ok (.ireturn, 1) := by decide +kernel
theorem dX10_readLine_34 : decode cX10_readLine 34 = .ok (.aload_n 1, 1) := by decide +kernel
theorem dX10_readLine_35 : decode cX10_readLine 35 = .ok (.getfield 54, 3) := by decide +kernel
theorem dX10_readLine_38 : decode cX10_readLine 38 = .ok (.istore 4, 2) := by decide +kernel
theorem dX10_readLine_40 : decode cX10_readLine 40 = .ok (.aload_n 1, 1) := by decide +kernel
theorem dX10_readLine_41 : decode cX10_readLine 41 = .ok (.invokevirtual 57, 3) := by decide +kernel
theorem dX10_readLine_44 : decode cX10_readLine 44 = .ok (.aload_n 0, 1) := by decide +kernel
theorem dX10_readLine_45 : decode cX10_readLine 45 = .ok (.getfield 9, 3) := by decide +kernel
theorem dX10_readLine_48 : decode cX10_readLine 48 = .ok (.iload_n 3, 1) := by decide +kernel
theorem dX10_readLine_49 : decode cX10_readLine 49 = .ok (.iload 4, 2) := by decide +kernel
theorem dX10_readLine_51 : decode cX10_readLine 51 = .ok (.iastore, 1) := by decide +kernel
theorem dX10_readLine_52 : decode cX10_readLine 52 = .ok (.aload_n 0, 1) := by decide +kernel
theorem dX10_readLine_53 : decode cX10_readLine 53 = .ok (.getfield 15, 3) := by decide +kernel
theorem dX10_readLine_56 : decode cX10_readLine 56 = .ok (.iload_n 3, 1) := by decide +kernel
theorem dX10_readLine_57 : decode cX10_readLine 57 = .ok (.aload_n 1, 1) := by decide +kernel
theorem dX10_readLine_58 : decode cX10_readLine 58 = .ok (.aload_n 2, 1) := by decide +kernel
theorem dX10_readLine_59 : decode cX10_readLine 59 = .ok (.iload 4, 2) := by decide +kernel
theorem dX10_readLine_61 : decode cX10_readLine 61 = .ok (.bipush 13, 2) := by decide +kernel
theorem dX10_readLine_63 : decode cX10_readLine 63 = .ok (.if_icmp .ne 7, 3) := by decide +kernel
theorem dX10_readLine_66 : decode cX10_readLine 66 = .ok (.iconst 1, 1) := by decide +kernel
theorem dX10_readLine_67 : decode cX10_readLine 67 = .ok (.goto 4, 3) := by decide +kernel
theorem dX10_readLine_70 : decode cX10_readLine 70 = .ok (.iconst 0, 1) := by decide +kernel
theorem dX10_readLine_71 : decode cX10_readLine 71 = .ok (.invokestatic 60, 3) := by decide +kernel
theorem dX10_readLine_74 : decode cX10_readLine 74 = .ok (.iastore, 1) := by decide +kernel
theorem dX10_readLine_75 : decode cX10_readLine 75 = .ok (.aload_n 0, 1) := by decide +kernel
theorem dX10_readLine_76 : decode cX10_readLine 76 = .ok (.getfield 18, 3) := by decide +kernel
theorem dX10_readLine_79 : decode cX10_readLine 79 = .ok (.iload_n 3, 1) := by decide +kernel
theorem dX10_readLine_80 : decode cX10_readLine 80 = .ok (.iconst (-1), 1) := by decide +kernel
theorem dX10_readLine_81 : decode cX10_readLine 81 = .ok (.iastore, 1) := by decide +kernel
theorem dX10_readLine_82 : decode cX10_readLine 82 = .ok (.aload_n 1, 1) := by decide +kernel
theorem dX10_readLine_83 : decode cX10_readLine 83 = .ok (.getfield 43, 3) := by decide +kernel
theorem dX10_readLine_86 : decode cX10_readLine 86 = .ok (.ifCond .ne 30, 3) := by decide +kernel
theorem dX10_readLine_89 : decode cX10_readLine 89 = .ok (.iload 4, 2) := by decide +kernel
theorem dX10_readLine_91 : decode cX10_readLine 91 = .ok (.bipush 12, 2) := by decide +kernel
theorem dX10_readLine_93 : decode cX10_readLine 93 = .ok (.if_icmp .ne 23, 3) := by decide +kernel
theorem dX10_readLine_96 : decode cX10_readLine 96 = .ok (.aload_n 0, 1) := by decide +kernel
theorem dX10_readLine_97 : decode cX10_readLine 97 = .ok (.getfield 18, 3) := by decide +kernel
theorem dX10_readLine_100 : decode cX10_readLine 100 = .ok (.iload_n 3, 1) := by decide +kernel
theorem dX10_readLine_101 : decode cX10_readLine 101 = .ok (.aload_n 1, 1) := by decide +kernel
theorem dX10_readLine_102 : decode cX10_readLine 102 = .ok (.iconst 0, 1) := by decide +kernel
theorem dX10_readLine_103 : decode cX10_readLine 103 = .ok (.bipush 7, 2) := by decide +kernel
theorem dX10_readLine_105 : decode cX10_readLine 105 = .ok (.invokevirtual 64, 3) := by decide +kernel
theorem dX10_readLine_108 : decode cX10_readLine 108 = .ok (.iastore, 1) := by decide +kernel
theorem dX10_readLine_109 : decode cX10_readLine 109 = .ok (.aload_n 1, 1) := by decide +kernel
theorem dX10_readLine_110 : decode cX10_readLine 110 = .ok (.invokevirtual 57, 3) := by decide +kernel
theorem dX10_readLine_113 : decode cX10_readLine 113 = .ok (.goto 36, 3) := by decide +kernel
theorem dX10_readLine_116 : decode cX10_readLine 116 = .ok (.aload_n 1, 1) := by decide +kernel
theorem dX10_readLine_117 : decode cX10_readLine 117 = .ok (.getfield 43, 3) := by decide +kernel
theorem dX10_readLine_120 : decode cX10_readLine 120 = .ok (.ifCond .ne 29, 3) := by decide +kernel
theorem dX10_readLine_123 : decode cX10_readLine 123 = .ok (.iload 4, 2) := by decide +kernel
theorem dX10_readLine_125 : decode cX10_readLine 125 = .ok (.bipush 7, 2) := by decide +kernel
theorem dX10_readLine_127 : decode cX10_readLine 127 = .ok (.if_icmp .eq 10, 3) := by decide +kernel
theorem dX10_readLine_130 : decode cX10_readLine 130 = .ok (.iload 4, 2) := by decide +kernel
theorem dX10_readLine_132 : decode cX10_readLine 132 = .ok (.bipush 13, 2) := by decide +kernel
theorem dX10_readLine_134 : decode cX10_readLine 134 = .ok (.if_icmp .ne 15, 3) := by decide +kernel
theorem dX10_readLine_137 : decode cX10_readLine 137 = .ok (.aload_n 0, 1) := by decide +kernel
theorem dX10_readLine_138 : decode cX10_readLine 138 = .ok (.getfield 18, 3) := by decide +kernel
theorem dX10_readLine_141 : decode cX10_readLine 141 = .ok (.iload_n 3, 1) := by decide +kernel
theorem dX10_readLine_142 : decode cX10_readLine 142 = .ok (.aload_n 1, 1) := by decide +kernel
theorem dX10_readLine_143 : decode cX10_readLine 143 = .ok (.aload_n 2, 1) := by decide +kernel
theorem dX10_readLine_144 : decode cX10_readLine 144 = .ok (.iconst 0, 1) := by decide +kernel
theorem dX10_readLine_145 : decode cX10_readLine 145 = .ok (.invokestatic 60, 3) := by decide +kernel
theorem dX10_readLine_148 : decode cX10_readLine 148 = .ok (.iastore, 1) := by decide +kernel
theorem dX10_readLine_149 : decode cX10_readLine 149 = .ok (.aload_n 1, 1) := by decide +kernel
theorem dX10_readLine_150 : decode cX10_readLine 150 = .ok (.getfield 43, 3) := by decide +kernel
theorem dX10_readLine_153 : decode cX10_readLine 153 = .ok (.ifCond .ne 12, 3) := by decide +kernel
theorem dX10_readLine_156 : decode cX10_readLine 156 = .ok (.aload_n 1, 1) := by decide +kernel
theorem dX10_readLine_157 : decode cX10_readLine 157 = .ok (.bipush 59, 2) := by decide +kernel
theorem dX10_readLine_159 : decode cX10_readLine 159 = .ok (.invokevirtual 68, 3) := by decide +kernel
theorem dX10_readLine_162 : decode cX10_readLine 162 = .ok (.ifCond .ne 5, 3) := by decide +kernel
theorem dX10_readLine_165 : decode cX10_readLine 165 = .ok (.iconst 0, 1) := by decide +kernel
theorem dX10_readLine_166 : decode cX10_readLine 166 = .ok (.ireturn, 1) := by decide +kernel
theorem dX10_readLine_167 : decode cX10_readLine 167 = .ok (.aload_n 0, 1) := by decide +kernel
theorem dX10_readLine_168 : decode cX10_readLine 168 = .ok (.iload_n 3, 1) := by decide +kernel
theorem dX10_readLine_169 : decode cX10_readLine 169 = .ok (.iconst 1, 1) := by decide +kernel
theorem dX10_readLine_170 : decode cX10_readLine 170 = .ok (.iadd, 1) := by decide +kernel
theorem dX10_readLine_171 : decode cX10_readLine 171 = .ok (.putfield 21, 3) := by decide +kernel
theorem dX10_readLine_174 : decode cX10_readLine 174 = .ok (.iconst 1, 1) := by decide +kernel
theorem dX10_readLine_175 : decode cX10_readLine 175 = .ok (.ireturn, 1) := by decide +kernel
def fX10_readLine (a0 : Nat) (a1 : Nat) (a2 : Nat) (G : Hp) : RT := bp (fX7_isWord a1 6 14 G) fun v1 => if v1 = 0 then (bn (fX7_wrong a1 1 G) fun v30 G31 => rz v30 G31) else (bd (G a0 3) fun v2 => if v2 < 40 then (bd (G a1 6) fun v3 => bn (fX7_step a1 G) fun _ G4 => bs (wr G4 ((rf a0 0)) 40 v2 v3) fun G5 => jn (fun (v6 : Int) => bn (fX10_readName a1 a2 v6 G5) fun v8 G9 => bs (wr G9 ((rf a0 1)) 40 v2 v8) fun G10 => bs (wr G10 ((rf a0 2)) 40 v2 ((-1))) fun G11 => jn (fun (G12 : Hp) => if (G12 a1 8) = 0 then (bn (fX7_takeSign a1 59 G12) fun v14 G15 => if v14 = 0 then rz 0 G15 else (bh (up G15 a0 3 (iadd v2 1)) fun G16 => rz 1 G16)) else rz 0 G12) fun (K13 : Hp → RT) => jn (if (G11 a1 8) = 0 then (jn (bn (fX10_readName a1 a2 0 G11) fun v19 G20 => bs (wr G20 ((rf a0 2)) 40 v2 v19) fun G21 => K13 G21) fun (K18 : RT) => if v3 = 7 then K18 else (if v3 = 13 then K18 else K13 G11)) else K13 G11) fun (K17 : RT) => if (G11 a1 8) = 0 then (if v3 = 12 then (bn (fX7_numberWithin a1 0 7 G11) fun v22 G23 => bs (wr G23 ((rf a0 2)) 40 v2 v22) fun G24 => bn (fX7_step a1 G24) fun _ G25 => K13 G25) else K17) else K17) fun (K7 : Int → RT) => if v3 = 13 then K7 1 else K7 0) else (bn (fX7_wrong a1 5 G) fun v28 G29 => rz v28 G29))
set_option maxRecDepth 20000 in
set_option maxHeartbeats 4000000 in
theorem tX10_readLine (l : Launch) (x : WX) (hi : Inj x.2.2) (G : Hp) (a0 : Nat) (a1 : Nat) (a2 : Nat) (ha0 : kd a0 = 10) (ha1 : kd a1 = 7) (ha2 : kd a2 = 8) : Ct l x yX10_readLine cX10_readLine 5 (some .boolean) 6 129 129 [vR a0, vR a1, vR a2] G (fX10_readLine a0 a1 a2 G) := by
  refine ct_of (plainFor_of_name (by decide)) hi (Nat.le_refl _) (Nat.le_refl _) (Nat.le_of_ble_eq_true rfl) (fun cx F hd hn0 hnE hl hQ => ?_)
  subst hl
  have F : Fx cx x RX10 cX10_readLine 5 (some .boolean) := F
  show Y cx x 5 (some .boolean) 129 0 [(0, vR a0), (1, vR a1), (2, vR a2)] [] G _
  unfold fX10_readLine
  refine x_aload_n F dX10_readLine_0 rfl rfl rfl ?_
  refine x_bipush F dX10_readLine_1 ⟨by decide, by decide⟩ (by decide) rfl ?_
  refine x_bipush F dX10_readLine_3 ⟨by decide, by decide⟩ (by decide) rfl ?_
  refine s_callVP F [vI 6, vI 14] [] lkX10_46 mX7_isWord rfl ha1 rfl hnE hn0 hd pX7_isWord (tX7_isWord cx.l x hi G a1 6 14 ha1) rfl rfl dX10_readLine_5 rfl rfl (fun v1 => ?_)
  refine x_ifne (pt := 17) F dX10_readLine_8 rfl rfl ?_ ?_
  · refine x_aload_n F dX10_readLine_11 rfl rfl rfl ?_
    refine x_iconst F dX10_readLine_12 ⟨by decide, by decide⟩ rfl ?_
    refine s_callV F [vI 1] [] lkX10_50 mX7_wrong rfl ha1 rfl hnE hn0 hd (tX7_wrong cx.l x hi G a1 1 ha1) rfl rfl dX10_readLine_13 rfl rfl (fun v30 G31 => ?_)
    exact x_zret F hnE hQ dX10_readLine_16
  · refine x_aload_n F dX10_readLine_17 rfl rfl rfl ?_
    refine s_getI F flX10_21 ha0 rfl dX10_readLine_18 rfl ?_
    refine x_istore_n F dX10_readLine_21 rfl (by decide) rfl rfl (fun v2 => ?_)
    show Y cx x _ _ _ _ [(0, vR a0), (1, vR a1), (2, vR a2), (3, vI v2)] _ _ _
    refine x_iload_n F dX10_readLine_22 rfl rfl rfl ?_
    refine x_bipush F dX10_readLine_23 ⟨by decide, by decide⟩ (by decide) rfl ?_
    refine x_icmplt (pt := 34) F dX10_readLine_25 rfl rfl ?_ ?_
    · refine x_aload_n F dX10_readLine_34 rfl rfl rfl ?_
      refine s_getI F flX10_54 ha1 rfl dX10_readLine_35 rfl ?_
      refine x_istore F dX10_readLine_38 (by decide) rfl rfl (fun v3 => ?_)
      show Y cx x _ _ _ _ [(0, vR a0), (1, vR a1), (2, vR a2), (3, vI v2), (4, vI v3)] _ _ _
      refine x_aload_n F dX10_readLine_40 rfl rfl rfl ?_
      refine s_callVv F [] [] lkX10_57 mX7_step rfl ha1 rfl hnE hn0 hd (tX7_step cx.l x hi G a1 ha1) rfl rfl dX10_readLine_41 rfl rfl (fun _ G4 => ?_)
      refine x_aload_n F dX10_readLine_44 rfl rfl rfl ?_
      refine x_getR F flX10_9 ha0 rfl dX10_readLine_45 rfl ?_
      refine x_iload_n F dX10_readLine_48 rfl rfl rfl ?_
      refine x_iload F dX10_readLine_49 rfl rfl ?_
      refine s_iast F (tf10_0 ha0).1 (tf10_0 ha0).2 dX10_readLine_51 rfl (fun G5 => ?_)
      refine x_aload_n F dX10_readLine_52 rfl rfl rfl ?_
      refine x_getR F flX10_15 ha0 rfl dX10_readLine_53 rfl ?_
      refine x_iload_n F dX10_readLine_56 rfl rfl rfl ?_
      refine x_aload_n F dX10_readLine_57 rfl rfl rfl ?_
      refine x_aload_n F dX10_readLine_58 rfl rfl rfl ?_
      refine x_iload F dX10_readLine_59 rfl rfl ?_
      refine x_bipush F dX10_readLine_61 ⟨by decide, by decide⟩ (by decide) rfl ?_
      refine x_jn (fun (K7 : Int → RT) => ∀ (v6 : Int), Y cx x 5 (some .boolean) 129 71 [(0, vR a0), (1, vR a1), (2, vR a2), (3, vI v2), (4, vI v3)] [vI v6, vR a2, vR a1, vI v2, vR ((rf a0 1))] G5 (K7 v6)) ?_ (fun K7 hK7 => ?_)
      · intro v6
        refine s_callS F [vR a1, vR a2, vI v6] [vI v2, vR ((rf a0 1))] lkX10_60 mX10_readName hnE hn0 hd (tX10_readName cx.l x hi G5 a1 a2 v6 ha1 ha2) rfl rfl dX10_readLine_71 rfl rfl (fun v8 G9 => ?_)
        refine s_iast F (tf10_1 ha0).1 (tf10_1 ha0).2 dX10_readLine_74 rfl (fun G10 => ?_)
        refine x_aload_n F dX10_readLine_75 rfl rfl rfl ?_
        refine x_getR F flX10_18 ha0 rfl dX10_readLine_76 rfl ?_
        refine x_iload_n F dX10_readLine_79 rfl rfl rfl ?_
        refine x_iconst F dX10_readLine_80 ⟨by decide, by decide⟩ rfl ?_
        refine s_iast F (tf10_2 ha0).1 (tf10_2 ha0).2 dX10_readLine_81 rfl (fun G11 => ?_)
        refine x_aload_n F dX10_readLine_82 rfl rfl rfl ?_
        refine s_getI F flX10_43 ha1 rfl dX10_readLine_83 rfl ?_
        refine x_jn (fun (K13 : Hp → RT) => ∀ (G12 : Hp), Y cx x 5 (some .boolean) 129 149 [(0, vR a0), (1, vR a1), (3, vI v2)] [] G12 (K13 G12)) ?_ (fun K13 hK13 => ?_)
        · intro G12
          refine x_aload_n F dX10_readLine_149 rfl rfl rfl ?_
          refine s_getI F flX10_43 ha1 rfl dX10_readLine_150 rfl ?_
          refine x_ifne (pt := 165) F dX10_readLine_153 rfl rfl ?_ ?_
          · refine x_aload_n F dX10_readLine_156 rfl rfl rfl ?_
            refine x_bipush F dX10_readLine_157 ⟨by decide, by decide⟩ (by decide) rfl ?_
            refine s_callV F [vI 59] [] lkX10_68 mX7_takeSign rfl ha1 rfl hnE hn0 hd (tX7_takeSign cx.l x hi G12 a1 59 ha1) rfl rfl dX10_readLine_159 rfl rfl (fun v14 G15 => ?_)
            refine x_ifne (pt := 167) F dX10_readLine_162 rfl rfl ?_ ?_
            · refine x_iconst F dX10_readLine_165 ⟨by decide, by decide⟩ rfl ?_
              exact x_zret F hnE hQ dX10_readLine_166
            · refine x_aload_n F dX10_readLine_167 rfl rfl rfl ?_
              refine x_iload_n F dX10_readLine_168 rfl rfl rfl ?_
              refine x_iconst F dX10_readLine_169 ⟨by decide, by decide⟩ rfl ?_
              refine x_iadd F dX10_readLine_170 rfl ?_
              refine s_putI F fpX10_21 ha0 rfl dX10_readLine_171 rfl (fun G16 => ?_)
              refine x_iconst F dX10_readLine_174 ⟨by decide, by decide⟩ rfl ?_
              exact x_zret F hnE hQ dX10_readLine_175
          · refine x_iconst F dX10_readLine_165 ⟨by decide, by decide⟩ rfl ?_
            exact x_zret F hnE hQ dX10_readLine_166
        · refine x_jn (fun (K17 : RT) => Y cx x 5 (some .boolean) 129 116 [(0, vR a0), (1, vR a1), (2, vR a2), (3, vI v2), (4, vI v3)] [] G11 K17) ?_ (fun K17 hK17 => ?_)
          · refine x_aload_n F dX10_readLine_116 rfl rfl rfl ?_
            refine s_getI F flX10_43 ha1 rfl dX10_readLine_117 rfl ?_
            refine x_ifne (pt := 149) F dX10_readLine_120 rfl rfl ?_ ?_
            · refine x_iload F dX10_readLine_123 rfl rfl ?_
              refine x_bipush F dX10_readLine_125 ⟨by decide, by decide⟩ (by decide) rfl ?_
              refine x_jn (fun (K18 : RT) => Y cx x 5 (some .boolean) 129 137 [(0, vR a0), (1, vR a1), (2, vR a2), (3, vI v2)] [] G11 K18) ?_ (fun K18 hK18 => ?_)
              · refine x_aload_n F dX10_readLine_137 rfl rfl rfl ?_
                refine x_getR F flX10_18 ha0 rfl dX10_readLine_138 rfl ?_
                refine x_iload_n F dX10_readLine_141 rfl rfl rfl ?_
                refine x_aload_n F dX10_readLine_142 rfl rfl rfl ?_
                refine x_aload_n F dX10_readLine_143 rfl rfl rfl ?_
                refine x_iconst F dX10_readLine_144 ⟨by decide, by decide⟩ rfl ?_
                refine s_callS F [vR a1, vR a2, vI 0] [vI v2, vR ((rf a0 2))] lkX10_60 mX10_readName hnE hn0 hd (tX10_readName cx.l x hi G11 a1 a2 0 ha1 ha2) rfl rfl dX10_readLine_145 rfl rfl (fun v19 G20 => ?_)
                refine s_iast F (tf10_2 ha0).1 (tf10_2 ha0).2 dX10_readLine_148 rfl (fun G21 => ?_)
                refine x_dp (L' := [(0, vR a0), (1, vR a1), (3, vI v2)]) [0, 1, 3] rfl ?_
                exact hK13 G21
              · refine x_icmpeq (pt := 137) F dX10_readLine_127 rfl rfl ?_ ?_
                · refine x_dp (L' := [(0, vR a0), (1, vR a1), (2, vR a2), (3, vI v2)]) [0, 1, 2, 3] rfl ?_
                  exact hK18
                · refine x_iload F dX10_readLine_130 rfl rfl ?_
                  refine x_bipush F dX10_readLine_132 ⟨by decide, by decide⟩ (by decide) rfl ?_
                  refine x_icmpne (pt := 149) F dX10_readLine_134 rfl rfl ?_ ?_
                  · refine x_dp (L' := [(0, vR a0), (1, vR a1), (2, vR a2), (3, vI v2)]) [0, 1, 2, 3] rfl ?_
                    exact hK18
                  · refine x_dp (L' := [(0, vR a0), (1, vR a1), (3, vI v2)]) [0, 1, 3] rfl ?_
                    exact hK13 G11
            · refine x_dp (L' := [(0, vR a0), (1, vR a1), (3, vI v2)]) [0, 1, 3] rfl ?_
              exact hK13 G11
          · refine x_ifne (pt := 116) F dX10_readLine_86 rfl rfl ?_ ?_
            · refine x_iload F dX10_readLine_89 rfl rfl ?_
              refine x_bipush F dX10_readLine_91 ⟨by decide, by decide⟩ (by decide) rfl ?_
              refine x_icmpne (pt := 116) F dX10_readLine_93 rfl rfl ?_ ?_
              · refine x_aload_n F dX10_readLine_96 rfl rfl rfl ?_
                refine x_getR F flX10_18 ha0 rfl dX10_readLine_97 rfl ?_
                refine x_iload_n F dX10_readLine_100 rfl rfl rfl ?_
                refine x_aload_n F dX10_readLine_101 rfl rfl rfl ?_
                refine x_iconst F dX10_readLine_102 ⟨by decide, by decide⟩ rfl ?_
                refine x_bipush F dX10_readLine_103 ⟨by decide, by decide⟩ (by decide) rfl ?_
                refine s_callV F [vI 0, vI 7] [vI v2, vR ((rf a0 2))] lkX10_64 mX7_numberWithin rfl ha1 rfl hnE hn0 hd (tX7_numberWithin cx.l x hi G11 a1 0 7 ha1) rfl rfl dX10_readLine_105 rfl rfl (fun v22 G23 => ?_)
                refine s_iast F (tf10_2 ha0).1 (tf10_2 ha0).2 dX10_readLine_108 rfl (fun G24 => ?_)
                refine x_aload_n F dX10_readLine_109 rfl rfl rfl ?_
                refine s_callVv F [] [] lkX10_57 mX7_step rfl ha1 rfl hnE hn0 hd (tX7_step cx.l x hi G24 a1 ha1) rfl rfl dX10_readLine_110 rfl rfl (fun _ G25 => ?_)
                refine x_goto (pc' := 149) F dX10_readLine_113 rfl ?_
                refine x_dp (L' := [(0, vR a0), (1, vR a1), (3, vI v2)]) [0, 1, 3] rfl ?_
                exact hK13 G25
              · exact hK17
            · exact hK17
      · refine x_icmpne (pt := 70) F dX10_readLine_63 rfl rfl ?_ ?_
        · refine x_iconst F dX10_readLine_66 ⟨by decide, by decide⟩ rfl ?_
          refine x_goto (pc' := 71) F dX10_readLine_67 rfl ?_
          exact hK7 1
        · refine x_iconst F dX10_readLine_70 ⟨by decide, by decide⟩ rfl ?_
          exact hK7 0
    · refine x_aload_n F dX10_readLine_28 rfl rfl rfl ?_
      refine x_iconst F dX10_readLine_29 ⟨by decide, by decide⟩ rfl ?_
      refine s_callV F [vI 5] [] lkX10_50 mX7_wrong rfl ha1 rfl hnE hn0 hd (tX7_wrong cx.l x hi G a1 5 ha1) rfl rfl dX10_readLine_30 rfl rfl (fun v28 G29 => ?_)
      exact x_zret F hnE hQ dX10_readLine_33
theorem dX10_readWork_0 : decode cX10_readWork 0 = .ok (.aload_n 0, 1) := by decide +kernel
theorem dX10_readWork_1 : decode cX10_readWork 1 = .ok (.iconst 0, 1) := by decide +kernel
theorem dX10_readWork_2 : decode cX10_readWork 2 = .ok (.putfield 21, 3) := by decide +kernel
theorem dX10_readWork_5 : decode cX10_readWork 5 = .ok (.aload_n 1, 1) := by decide +kernel
theorem dX10_readWork_6 : decode cX10_readWork 6 = .ok (.invokevirtual 31, 3) := by decide +kernel
theorem dX10_readWork_9 : decode cX10_readWork 9 = .ok (.iconst 1, 1) := by decide +kernel
theorem dX10_readWork_10 : decode cX10_readWork 10 = .ok (.istore_n 3, 1) := by decide +kernel
theorem dX10_readWork_11 : decode cX10_readWork 11 = .ok (.iconst 0, 1) := by decide +kernel
theorem dX10_readWork_12 : decode cX10_readWork 12 = .ok (.istore 4, 2) := by decide +kernel
theorem dX10_readWork_14 : decode cX10_readWork 14 = .ok (.iload 4, 2) := by decide +kernel
theorem dX10_readWork_16 : decode cX10_readWork 16 = .ok (.sipush 1000, 3) := by decide +kernel
theorem dX10_readWork_19 : decode cX10_readWork 19 = .ok (.if_icmp .ge 27, 3) := by decide +kernel
theorem dX10_readWork_22 : decode cX10_readWork 22 = .ok (.iload_n 3, 1) := by decide +kernel
theorem dX10_readWork_23 : decode cX10_readWork 23 = .ok (.ifCond .eq 23, 3) := by decide +kernel
theorem dX10_readWork_26 : decode cX10_readWork 26 = .ok (.aload_n 1, 1) := by decide +kernel
theorem dX10_readWork_27 : decode cX10_readWork 27 = .ok (.getfield 36, 3) := by decide +kernel
theorem dX10_readWork_30 : decode cX10_readWork 30 = .ok (.ifCond .eq 16, 3) := by decide +kernel
theorem dX10_readWork_33 : decode cX10_readWork 33 = .ok (.aload_n 0, 1) := by decide +kernel
theorem dX10_readWork_34 : decode cX10_readWork 34 = .ok (.aload_n 1, 1) := by decide +kernel
theorem dX10_readWork_35 : decode cX10_readWork 35 = .ok (.aload_n 2, 1) := by decide +kernel
theorem dX10_readWork_36 : decode cX10_readWork 36 = .ok (.invokevirtual 39, 3) := by decide +kernel
theorem dX10_readWork_39 : decode cX10_readWork 39 = .ok (.istore_n 3, 1) := by decide +kernel
theorem dX10_readWork_40 : decode cX10_readWork 40 = .ok (.iinc 4 1, 3) := by decide +kernel
theorem dX10_readWork_43 : decode cX10_readWork 43 = .ok (.goto (-29), 3) := by decide +kernel
theorem dX10_readWork_46 : decode cX10_readWork 46 = .ok (.aload_n 1, 1) := by decide +kernel
theorem dX10_readWork_47 : decode cX10_readWork 47 = .ok (.getfield 43, 3) := by decide +kernel
theorem dX10_readWork_50 : decode cX10_readWork 50 = .ok (.ireturn, 1) := by decide +kernel
def fX10_readWork (a0 : Nat) (a1 : Nat) (a2 : Nat) (G : Hp) : RT := bh (up G a0 3 0) fun G1 => bn (fX7_restart a1 G1) fun _ G2 => bd 1 fun v3 => bd 0 fun v4 => (lp (fun (_ : Int) (_ : Int) (_ : Hp) => (none : RT)) 5000 (fun (rc8 : Int → Int → Hp → RT) (v5 : Int) (v6 : Int) (G7 : Hp) => jn (rt (G7 a1 8) G7) fun (K9 : RT) => if v6 < 1000 then (if v5 = 0 then K9 else (if (G7 a1 4) = 0 then K9 else (bn (fX10_readLine a0 a1 a2 G7) fun v10 G11 => bd v10 fun v12 => bd (iadd v6 1) fun v13 => rc8 v12 v13 G11))) else K9)) v3 v4 G2
set_option maxRecDepth 20000 in
set_option maxHeartbeats 4000000 in
theorem tX10_readWork (l : Launch) (x : WX) (hi : Inj x.2.2) (G : Hp) (a0 : Nat) (a1 : Nat) (a2 : Nat) (ha0 : kd a0 = 10) (ha1 : kd a1 = 7) (ha2 : kd a2 = 8) : Ct l x yX10_readWork cX10_readWork 5 (some .int) 7 129 129 [vR a0, vR a1, vR a2] G (fX10_readWork a0 a1 a2 G) := by
  refine ct_of (plainFor_of_name (by decide)) hi (Nat.le_refl _) (Nat.le_refl _) (Nat.le_of_ble_eq_true rfl) (fun cx F hd hn0 hnE hl hQ => ?_)
  subst hl
  have F : Fx cx x RX10 cX10_readWork 5 (some .int) := F
  show Y cx x 5 (some .int) 129 0 [(0, vR a0), (1, vR a1), (2, vR a2)] [] G _
  unfold fX10_readWork
  refine x_aload_n F dX10_readWork_0 rfl rfl rfl ?_
  refine x_iconst F dX10_readWork_1 ⟨by decide, by decide⟩ rfl ?_
  refine s_putI F fpX10_21 ha0 rfl dX10_readWork_2 rfl (fun G1 => ?_)
  refine x_aload_n F dX10_readWork_5 rfl rfl rfl ?_
  refine s_callVv F [] [] lkX10_31 mX7_restart rfl ha1 rfl hnE hn0 hd (tX7_restart cx.l x hi G1 a1 ha1) rfl rfl dX10_readWork_6 rfl rfl (fun _ G2 => ?_)
  refine x_iconst F dX10_readWork_9 ⟨by decide, by decide⟩ rfl ?_
  refine x_istore_n F dX10_readWork_10 rfl (by decide) rfl rfl (fun v3 => ?_)
  show Y cx x _ _ _ _ [(0, vR a0), (1, vR a1), (2, vR a2), (3, vI v3)] _ _ _
  refine x_iconst F dX10_readWork_11 ⟨by decide, by decide⟩ rfl ?_
  refine x_istore F dX10_readWork_12 (by decide) rfl rfl (fun v4 => ?_)
  show Y cx x _ _ _ _ [(0, vR a0), (1, vR a1), (2, vR a2), (3, vI v3), (4, vI v4)] _ _ _
  refine x_lp (fun (rc8 : Int → Int → Hp → RT) => ∀ (v5 : Int) (v6 : Int) (G7 : Hp), Y cx x 5 (some .int) 129 14 [(0, vR a0), (1, vR a1), (2, vR a2), (3, vI v5), (4, vI v6)] [] G7 (rc8 v5 v6 G7)) (fun _ _ _ => Y_none) (fun rc8 hrc8 v5 v6 G7 => ?_) 5000 v3 v4 G2
  refine x_iload F dX10_readWork_14 rfl rfl ?_
  refine x_sipush F dX10_readWork_16 ⟨by decide, by decide⟩ (by decide) rfl ?_
  refine x_jn (fun (K9 : RT) => Y cx x 5 (some .int) 129 46 [(1, vR a1)] [] G7 K9) ?_ (fun K9 hK9 => ?_)
  · refine x_aload_n F dX10_readWork_46 rfl rfl rfl ?_
    refine s_getI F flX10_43 ha1 rfl dX10_readWork_47 rfl ?_
    exact x_iret F hnE hQ dX10_readWork_50
  · refine x_icmpge (pt := 46) F dX10_readWork_19 rfl rfl ?_ ?_
    · refine x_iload_n F dX10_readWork_22 rfl rfl rfl ?_
      refine x_ifeq (pt := 46) F dX10_readWork_23 rfl rfl ?_ ?_
      · refine x_dp (L' := [(1, vR a1)]) [1] rfl ?_
        exact hK9
      · refine x_aload_n F dX10_readWork_26 rfl rfl rfl ?_
        refine s_getI F flX10_36 ha1 rfl dX10_readWork_27 rfl ?_
        refine x_ifeq (pt := 46) F dX10_readWork_30 rfl rfl ?_ ?_
        · refine x_dp (L' := [(1, vR a1)]) [1] rfl ?_
          exact hK9
        · refine x_aload_n F dX10_readWork_33 rfl rfl rfl ?_
          refine x_aload_n F dX10_readWork_34 rfl rfl rfl ?_
          refine x_aload_n F dX10_readWork_35 rfl rfl rfl ?_
          refine s_callV F [vR a1, vR a2] [] lkX10_39 mX10_readLine rfl ha0 rfl hnE hn0 hd (tX10_readLine cx.l x hi G7 a0 a1 a2 ha0 ha1 ha2) rfl rfl dX10_readWork_36 rfl rfl (fun v10 G11 => ?_)
          refine x_istore_n F dX10_readWork_39 rfl (by decide) rfl rfl (fun v12 => ?_)
          show Y cx x _ _ _ _ [(0, vR a0), (1, vR a1), (2, vR a2), (3, vI v12), (4, vI v6)] _ _ _
          refine x_iinc F dX10_readWork_40 rfl (by decide) rfl rfl (fun v13 => ?_)
          show Y cx x _ _ _ _ [(0, vR a0), (1, vR a1), (2, vR a2), (3, vI v12), (4, vI v13)] _ _ _
          refine x_goto (pc' := 14) F dX10_readWork_43 rfl ?_
          exact hrc8 v12 v13 G11
    · refine x_dp (L' := [(1, vR a1)]) [1] rfl ?_
      exact hK9
