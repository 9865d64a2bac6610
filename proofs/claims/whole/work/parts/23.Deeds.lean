theorem dX0_doBegin_0 : decode cX0_doBegin 0 = .ok (.aload_n 0, 1) := by decide +kernel
theorem dX0_doBegin_1 : decode cX0_doBegin 1 = .ok (.getfield 9, 3) := by decide +kernel
theorem dX0_doBegin_4 : decode cX0_doBegin 4 = .ok (.iload_n 1, 1) := by decide +kernel
theorem dX0_doBegin_5 : decode cX0_doBegin 5 = .ok (.invokevirtual 58, 3) := by decide +kernel
theorem dX0_doBegin_8 : decode cX0_doBegin 8 = .ok (.ifCond .eq 13, 3) := by decide +kernel
theorem dX0_doBegin_11 : decode cX0_doBegin 11 = .ok (.aload_n 0, 1) := by decide +kernel
theorem dX0_doBegin_12 : decode cX0_doBegin 12 = .ok (.getfield 15, 3) := by decide +kernel
theorem dX0_doBegin_15 : decode cX0_doBegin 15 = .ok (.getfield 63, 3) := by decide +kernel
theorem dX0_doBegin_18 : decode cX0_doBegin 18 = .ok (.ifCond .eq 5, 3) := by decide +kernel
theorem dX0_doBegin_21 : decode cX0_doBegin 21 = .ok (.iconst 0, 1) := by decide +kernel
theorem dX0_doBegin_22 : decode cX0_doBegin 22 = .ok (.ireturn, 1) := by decide +kernel
theorem dX0_doBegin_23 : decode cX0_doBegin 23 = .ok (.aload_n 0, 1) := by decide +kernel
theorem dX0_doBegin_24 : decode cX0_doBegin 24 = .ok (.getfield 15, 3) := by decide +kernel
theorem dX0_doBegin_27 : decode cX0_doBegin 27 = .ok (.iload_n 1, 1) := by decide +kernel
theorem dX0_doBegin_28 : decode cX0_doBegin 28 = .ok (.invokevirtual 69, 3) := by decide +kernel
theorem dX0_doBegin_31 : decode cX0_doBegin 31 = .ok (.aload_n 0, 1) := by decide +kernel
theorem dX0_doBegin_32 : decode cX0_doBegin 32 = .ok (.getfield 15, 3) := by decide +kernel
theorem dX0_doBegin_35 : decode cX0_doBegin 35 = .ok (.iload_n 1, 1) := by decide +kernel
theorem dX0_doBegin_36 : decode cX0_doBegin 36 = .ok (.iconst 0, 1) := by decide +kernel
theorem dX0_doBegin_37 : decode cX0_doBegin 37 = .ok (.iload_n 1, 1) := by decide +kernel
theorem dX0_doBegin_38 : decode cX0_doBegin 38 = .ok (.invokevirtual 73, 3) := by decide +kernel
theorem dX0_doBegin_41 : decode cX0_doBegin 41 = .ok (.iconst 1, 1) := by decide +kernel
theorem dX0_doBegin_42 : decode cX0_doBegin 42 = .ok (.ireturn, 1) := by decide +kernel
def fX0_doBegin (a0 : Nat) (a1 : Int) (G : Hp) : RT := bp (fX8_isNode ((rf a0 0)) a1 G) fun v1 => if v1 = 0 then rz 0 G else (if (G ((rf a0 1)) 1) = 0 then (bn (fX6_enter ((rf a0 1)) a1 G) fun _ G2 => bn (fX6_setList ((rf a0 1)) a1 0 a1 G2) fun _ G3 => rz 1 G3) else rz 0 G)
set_option maxRecDepth 20000 in
set_option maxHeartbeats 4000000 in
theorem tX0_doBegin (l : Launch) (x : WX) (hi : Inj x.2.2) (G : Hp) (a0 : Nat) (a1 : Int) (ha0 : kd a0 = 0) : Ct l x yX0_doBegin cX0_doBegin 2 (some .boolean) 1 129 129 [vR a0, vI a1] G (fX0_doBegin a0 a1 G) := by
  refine ct_of (plainFor_of_name (by decide)) hi (Nat.le_refl _) (Nat.le_refl _) (Nat.le_of_ble_eq_true rfl) (fun cx F hd hn0 hnE hl hQ => ?_)
  subst hl
  have F : Fx cx x RX0 cX0_doBegin 2 (some .boolean) := F
  show Y cx x 2 (some .boolean) 129 0 [(0, vR a0), (1, vI a1)] [] G _
  unfold fX0_doBegin
  refine x_aload_n F dX0_doBegin_0 rfl rfl rfl ?_
  refine x_getR F flX0_9 ha0 rfl dX0_doBegin_1 rfl ?_
  refine x_iload_n F dX0_doBegin_4 rfl rfl rfl ?_
  refine s_callVP F [vI a1] [] lkX0_58 mX8_isNode rfl (tf0_0 ha0).1 rfl hnE hn0 hd pX8_isNode (tX8_isNode cx.l x hi G ((rf a0 0)) a1 (tf0_0 ha0).1) rfl rfl dX0_doBegin_5 rfl rfl (fun v1 => ?_)
  refine x_ifeq (pt := 21) F dX0_doBegin_8 rfl rfl ?_ ?_
  · refine x_iconst F dX0_doBegin_21 ⟨by decide, by decide⟩ rfl ?_
    exact x_zret F hnE hQ dX0_doBegin_22
  · refine x_aload_n F dX0_doBegin_11 rfl rfl rfl ?_
    refine x_getR F flX0_15 ha0 rfl dX0_doBegin_12 rfl ?_
    refine s_getI F flX0_63 (tf0_1 ha0).1 rfl dX0_doBegin_15 rfl ?_
    refine x_ifeq (pt := 23) F dX0_doBegin_18 rfl rfl ?_ ?_
    · refine x_aload_n F dX0_doBegin_23 rfl rfl rfl ?_
      refine x_getR F flX0_15 ha0 rfl dX0_doBegin_24 rfl ?_
      refine x_iload_n F dX0_doBegin_27 rfl rfl rfl ?_
      refine s_callVv F [vI a1] [] lkX0_69 mX6_enter rfl (tf0_1 ha0).1 rfl hnE hn0 hd (tX6_enter cx.l x hi G ((rf a0 1)) a1 (tf0_1 ha0).1) rfl rfl dX0_doBegin_28 rfl rfl (fun _ G2 => ?_)
      refine x_aload_n F dX0_doBegin_31 rfl rfl rfl ?_
      refine x_getR F flX0_15 ha0 rfl dX0_doBegin_32 rfl ?_
      refine x_iload_n F dX0_doBegin_35 rfl rfl rfl ?_
      refine x_iconst F dX0_doBegin_36 ⟨by decide, by decide⟩ rfl ?_
      refine x_iload_n F dX0_doBegin_37 rfl rfl rfl ?_
      refine s_callVv F [vI a1, vI 0, vI a1] [] lkX0_73 mX6_setList rfl (tf0_1 ha0).1 rfl hnE hn0 hd (tX6_setList cx.l x hi G2 ((rf a0 1)) a1 0 a1 (tf0_1 ha0).1) rfl rfl dX0_doBegin_38 rfl rfl (fun _ G3 => ?_)
      refine x_iconst F dX0_doBegin_41 ⟨by decide, by decide⟩ rfl ?_
      exact x_zret F hnE hQ dX0_doBegin_42
    · refine x_iconst F dX0_doBegin_21 ⟨by decide, by decide⟩ rfl ?_
      exact x_zret F hnE hQ dX0_doBegin_22
theorem dX0_doFail_0 : decode cX0_doFail 0 = .ok (.aload_n 0, 1) := by decide +kernel
theorem dX0_doFail_1 : decode cX0_doFail 1 = .ok (.getfield 15, 3) := by decide +kernel
theorem dX0_doFail_4 : decode cX0_doFail 4 = .ok (.iload_n 1, 1) := by decide +kernel
theorem dX0_doFail_5 : decode cX0_doFail 5 = .ok (.invokevirtual 77, 3) := by decide +kernel
theorem dX0_doFail_8 : decode cX0_doFail 8 = .ok (.ifCond .ne 5, 3) := by decide +kernel
theorem dX0_doFail_11 : decode cX0_doFail 11 = .ok (.iconst (-1), 1) := by decide +kernel
theorem dX0_doFail_12 : decode cX0_doFail 12 = .ok (.ireturn, 1) := by decide +kernel
theorem dX0_doFail_13 : decode cX0_doFail 13 = .ok (.aload_n 0, 1) := by decide +kernel
theorem dX0_doFail_14 : decode cX0_doFail 14 = .ok (.getfield 15, 3) := by decide +kernel
theorem dX0_doFail_17 : decode cX0_doFail 17 = .ok (.iload_n 1, 1) := by decide +kernel
theorem dX0_doFail_18 : decode cX0_doFail 18 = .ok (.invokevirtual 104, 3) := by decide +kernel
theorem dX0_doFail_21 : decode cX0_doFail 21 = .ok (.invokestatic 107, 3) := by decide +kernel
theorem dX0_doFail_24 : decode cX0_doFail 24 = .ok (.istore_n 2, 1) := by decide +kernel
theorem dX0_doFail_25 : decode cX0_doFail 25 = .ok (.aload_n 0, 1) := by decide +kernel
theorem dX0_doFail_26 : decode cX0_doFail 26 = .ok (.getfield 15, 3) := by decide +kernel
theorem dX0_doFail_29 : decode cX0_doFail 29 = .ok (.iload_n 1, 1) := by decide +kernel
theorem dX0_doFail_30 : decode cX0_doFail 30 = .ok (.iconst (-1), 1) := by decide +kernel
theorem dX0_doFail_31 : decode cX0_doFail 31 = .ok (.invokevirtual 98, 3) := by decide +kernel
theorem dX0_doFail_34 : decode cX0_doFail 34 = .ok (.aload_n 0, 1) := by decide +kernel
theorem dX0_doFail_35 : decode cX0_doFail 35 = .ok (.getfield 15, 3) := by decide +kernel
theorem dX0_doFail_38 : decode cX0_doFail 38 = .ok (.iload_n 1, 1) := by decide +kernel
theorem dX0_doFail_39 : decode cX0_doFail 39 = .ok (.invokevirtual 101, 3) := by decide +kernel
theorem dX0_doFail_42 : decode cX0_doFail 42 = .ok (.iload_n 2, 1) := by decide +kernel
theorem dX0_doFail_43 : decode cX0_doFail 43 = .ok (.ireturn, 1) := by decide +kernel
def fX0_doFail (a0 : Nat) (a1 : Int) (G : Hp) : RT := bp (fX6_isIn ((rf a0 1)) a1 G) fun v1 => if v1 = 0 then (rt ((-1)) G) else (bp (fX6_heldBy ((rf a0 1)) a1 G) fun v2 => bp (fJ6_bitCount_0f7a4 v2 G) fun v3 => bd v3 fun v4 => bn (fX6_passKeys ((rf a0 1)) a1 ((-1)) G) fun _ G5 => bn (fX6_goOut ((rf a0 1)) a1 G5) fun _ G6 => rt v4 G6)
set_option maxRecDepth 20000 in
set_option maxHeartbeats 4000000 in
theorem tX0_doFail (l : Launch) (x : WX) (hi : Inj x.2.2) (G : Hp) (a0 : Nat) (a1 : Int) (ha0 : kd a0 = 0) : Ct l x yX0_doFail cX0_doFail 3 (some .int) 1 129 129 [vR a0, vI a1] G (fX0_doFail a0 a1 G) := by
  refine ct_of (plainFor_of_name (by decide)) hi (Nat.le_refl _) (Nat.le_refl _) (Nat.le_of_ble_eq_true rfl) (fun cx F hd hn0 hnE hl hQ => ?_)
  subst hl
  have F : Fx cx x RX0 cX0_doFail 3 (some .int) := F
  show Y cx x 3 (some .int) 129 0 [(0, vR a0), (1, vI a1)] [] G _
  unfold fX0_doFail
  refine x_aload_n F dX0_doFail_0 rfl rfl rfl ?_
  refine x_getR F flX0_15 ha0 rfl dX0_doFail_1 rfl ?_
  refine x_iload_n F dX0_doFail_4 rfl rfl rfl ?_
  refine s_callVP F [vI a1] [] lkX0_77 mX6_isIn rfl (tf0_1 ha0).1 rfl hnE hn0 hd pX6_isIn (tX6_isIn cx.l x hi G ((rf a0 1)) a1 (tf0_1 ha0).1) rfl rfl dX0_doFail_5 rfl rfl (fun v1 => ?_)
  refine x_ifne (pt := 13) F dX0_doFail_8 rfl rfl ?_ ?_
  · refine x_iconst F dX0_doFail_11 ⟨by decide, by decide⟩ rfl ?_
    exact x_iret F hnE hQ dX0_doFail_12
  · refine x_aload_n F dX0_doFail_13 rfl rfl rfl ?_
    refine x_getR F flX0_15 ha0 rfl dX0_doFail_14 rfl ?_
    refine x_iload_n F dX0_doFail_17 rfl rfl rfl ?_
    refine s_callVP F [vI a1] [] lkX0_104 mX6_heldBy rfl (tf0_1 ha0).1 rfl hnE hn0 hd pX6_heldBy (tX6_heldBy cx.l x hi G ((rf a0 1)) a1 (tf0_1 ha0).1) rfl rfl dX0_doFail_18 rfl rfl (fun v2 => ?_)
    refine s_callSP F [vI v2] [] lkX0_107 mJ6_bitCount_0f7a4 hnE hn0 hd pJ6_bitCount_0f7a4 (tJ6_bitCount_0f7a4 cx.l x hi G v2) rfl rfl dX0_doFail_21 rfl rfl (fun v3 => ?_)
    refine x_istore_n F dX0_doFail_24 rfl (by decide) rfl rfl (fun v4 => ?_)
    show Y cx x _ _ _ _ [(0, vR a0), (1, vI a1), (2, vI v4)] _ _ _
    refine x_aload_n F dX0_doFail_25 rfl rfl rfl ?_
    refine x_getR F flX0_15 ha0 rfl dX0_doFail_26 rfl ?_
    refine x_iload_n F dX0_doFail_29 rfl rfl rfl ?_
    refine x_iconst F dX0_doFail_30 ⟨by decide, by decide⟩ rfl ?_
    refine s_callVv F [vI a1, vI ((-1))] [] lkX0_98 mX6_passKeys rfl (tf0_1 ha0).1 rfl hnE hn0 hd (tX6_passKeys cx.l x hi G ((rf a0 1)) a1 ((-1)) (tf0_1 ha0).1) rfl rfl dX0_doFail_31 rfl rfl (fun _ G5 => ?_)
    refine x_aload_n F dX0_doFail_34 rfl rfl rfl ?_
    refine x_getR F flX0_15 ha0 rfl dX0_doFail_35 rfl ?_
    refine x_iload_n F dX0_doFail_38 rfl rfl rfl ?_
    refine s_callVv F [vI a1] [] lkX0_101 mX6_goOut rfl (tf0_1 ha0).1 rfl hnE hn0 hd (tX6_goOut cx.l x hi G5 ((rf a0 1)) a1 (tf0_1 ha0).1) rfl rfl dX0_doFail_39 rfl rfl (fun _ G6 => ?_)
    refine x_iload_n F dX0_doFail_42 rfl rfl rfl ?_
    exact x_iret F hnE hQ dX0_doFail_43
theorem dX0_setListBy_0 : decode cX0_setListBy 0 = .ok (.aload_n 0, 1) := by decide +kernel
theorem dX0_setListBy_1 : decode cX0_setListBy 1 = .ok (.getfield 9, 3) := by decide +kernel
theorem dX0_setListBy_4 : decode cX0_setListBy 4 = .ok (.iload_n 1, 1) := by decide +kernel
theorem dX0_setListBy_5 : decode cX0_setListBy 5 = .ok (.invokevirtual 122, 3) := by decide +kernel
theorem dX0_setListBy_8 : decode cX0_setListBy 8 = .ok (.iconst 4, 1) := by decide +kernel
theorem dX0_setListBy_9 : decode cX0_setListBy 9 = .ok (.invokestatic 125, 3) := by decide +kernel
theorem dX0_setListBy_12 : decode cX0_setListBy 12 = .ok (.istore_n 3, 1) := by decide +kernel
theorem dX0_setListBy_13 : decode cX0_setListBy 13 = .ok (.iconst 1, 1) := by decide +kernel
theorem dX0_setListBy_14 : decode cX0_setListBy 14 = .ok (.istore 4, 2) := by decide +kernel
theorem dX0_setListBy_16 : decode cX0_setListBy 16 = .ok (.aload_n 0, 1) := by decide +kernel
theorem dX0_setListBy_17 : decode cX0_setListBy 17 = .ok (.getfield 23, 3) := by decide +kernel
theorem dX0_setListBy_20 : decode cX0_setListBy 20 = .ok (.iconst 0, 1) := by decide +kernel
theorem dX0_setListBy_21 : decode cX0_setListBy 21 = .ok (.iload_n 2, 1) := by decide +kernel
theorem dX0_setListBy_22 : decode cX0_setListBy 22 = .ok (.iastore, 1) := by decide +kernel
theorem dX0_setListBy_23 : decode cX0_setListBy 23 = .ok (.iconst 0, 1) := by decide +kernel
theorem dX0_setListBy_24 : decode cX0_setListBy 24 = .ok (.istore 5, 2) := by decide +kernel
theorem dX0_setListBy_26 : decode cX0_setListBy 26 = .ok (.iload 5, 2) := by decide +kernel
theorem dX0_setListBy_28 : decode cX0_setListBy 28 = .ok (.iconst 4, 1) := by decide +kernel
theorem dX0_setListBy_29 : decode cX0_setListBy 29 = .ok (.if_icmp .ge 57, 3) := by decide +kernel
theorem dX0_setListBy_32 : decode cX0_setListBy 32 = .ok (.iload 4, 2) := by decide +kernel
theorem dX0_setListBy_34 : decode cX0_setListBy 34 = .ok (.iload_n 3, 1) := by decide +kernel
theorem dX0_setListBy_35 : decode cX0_setListBy 35 = .ok (.if_icmp .ge 51, 3) := by decide +kernel
theorem dX0_setListBy_38 : decode cX0_setListBy 38 = .ok (.aload_n 0, 1) := by decide +kernel
theorem dX0_setListBy_39 : decode cX0_setListBy 39 = .ok (.getfield 15, 3) := by decide +kernel
theorem dX0_setListBy_42 : decode cX0_setListBy 42 = .ok (.iload_n 2, 1) := by decide +kernel
theorem dX0_setListBy_43 : decode cX0_setListBy 43 = .ok (.iload 5, 2) := by decide +kernel
theorem dX0_setListBy_45 : decode cX0_setListBy 45 = .ok (.invokevirtual 130, 3) := by decide +kernel
theorem dX0_setListBy_48 : decode cX0_setListBy 48 = .ok (.istore 6, 2) := by decide +kernel
theorem dX0_setListBy_50 : decode cX0_setListBy 50 = .ok (.iload 6, 2) := by decide +kernel
theorem dX0_setListBy_52 : decode cX0_setListBy 52 = .ok (.iconst (-1), 1) := by decide +kernel
theorem dX0_setListBy_53 : decode cX0_setListBy 53 = .ok (.if_icmp .eq 27, 3) := by decide +kernel
theorem dX0_setListBy_56 : decode cX0_setListBy 56 = .ok (.iload 6, 2) := by decide +kernel
theorem dX0_setListBy_58 : decode cX0_setListBy 58 = .ok (.iload_n 1, 1) := by decide +kernel
theorem dX0_setListBy_59 : decode cX0_setListBy 59 = .ok (.if_icmp .eq 21, 3) := by decide +kernel
theorem dX0_setListBy_62 : decode cX0_setListBy 62 = .ok (.iload 6, 2) := by decide +kernel
theorem dX0_setListBy_64 : decode cX0_setListBy 64 = .ok (.iload_n 2, 1) := by decide +kernel
theorem dX0_setListBy_65 : decode cX0_setListBy 65 = .ok (.if_icmp .eq 15, 3) := by decide +kernel
theorem dX0_setListBy_68 : decode cX0_setListBy 68 = .ok (.aload_n 0, 1) := by decide +kernel
theorem dX0_setListBy_69 : decode cX0_setListBy 69 = .ok (.getfield 23, 3) := by decide +kernel
theorem dX0_setListBy_72 : decode cX0_setListBy 72 = .ok (.iload 4, 2) := by decide +kernel
theorem dX0_setListBy_74 : decode cX0_setListBy 74 = .ok (.iload 6, 2) := by decide +kernel
theorem dX0_setListBy_76 : decode cX0_setListBy 76 = .ok (.iastore, 1) := by decide +kernel
theorem dX0_setListBy_77 : decode cX0_setListBy 77 = .ok (.iinc 4 1, 3) := by decide +kernel
theorem dX0_setListBy_80 : decode cX0_setListBy 80 = .ok (.iinc 5 1, 3) := by decide +kernel
theorem dX0_setListBy_83 : decode cX0_setListBy 83 = .ok (.goto (-57), 3) := by decide +kernel
theorem dX0_setListBy_86 : decode cX0_setListBy 86 = .ok (.iconst 0, 1) := by decide +kernel
theorem dX0_setListBy_87 : decode cX0_setListBy 87 = .ok (.istore 5, 2) := by decide +kernel
theorem dX0_setListBy_89 : decode cX0_setListBy 89 = .ok (.iload 5, 2) := by decide +kernel
theorem dX0_setListBy_91 : decode cX0_setListBy 91 = .ok (.iconst 4, 1) := by decide +kernel
theorem dX0_setListBy_92 : decode cX0_setListBy 92 = .ok (.if_icmp .ge 37, 3) := by decide +kernel
theorem dX0_setListBy_95 : decode cX0_setListBy 95 = .ok (.aload_n 0, 1) := by decide +kernel
theorem dX0_setListBy_96 : decode cX0_setListBy 96 = .ok (.getfield 15, 3) := by decide +kernel
theorem dX0_setListBy_99 : decode cX0_setListBy 99 = .ok (.iload_n 1, 1) := by decide +kernel
theorem dX0_setListBy_100 : decode cX0_setListBy 100 = .ok (.iload 5, 2) := by decide +kernel
theorem dX0_setListBy_102 : decode cX0_setListBy 102 = .ok (.iload 5, 2) := by decide +kernel
theorem dX0_setListBy_104 : decode cX0_setListBy 104 = .ok (.iload 4, 2) := by decide +kernel
theorem dX0_setListBy_106 : decode cX0_setListBy 106 = .ok (.if_icmp .ge 13, 3) := by decide +kernel
theorem dX0_setListBy_109 : decode cX0_setListBy 109 = .ok (.aload_n 0, 1) := by decide +kernel
theorem dX0_setListBy_110 : decode cX0_setListBy 110 = .ok (.getfield 23, 3) := by decide +kernel
theorem dX0_setListBy_113 : decode cX0_setListBy 113 = .ok (.iload 5, 2) := by decide +kernel
theorem dX0_setListBy_115 : decode cX0_setListBy 115 = .ok (.iaload, 1) := by decide +kernel
theorem dX0_setListBy_116 : decode cX0_setListBy 116 = .ok (.goto 4, 3) := by decide +kernel
theorem dX0_setListBy_119 : decode cX0_setListBy 119 = .ok (.iconst (-1), 1) := by decide +kernel
theorem dX0_setListBy_120 : decode cX0_setListBy 120 = .ok (.invokevirtual 73, 3) := by decide +kernel
theorem dX0_setListBy_123 : decode cX0_setListBy 123 = .ok (.iinc 5 1, 3) := by decide +kernel
theorem dX0_setListBy_126 : decode cX0_setListBy 126 = .ok (.goto (-37), 3) := by decide +kernel
theorem dX0_setListBy_129 : decode cX0_setListBy 129 = .ok (.return_, 1) := by decide +kernel
def fX0_setListBy (a0 : Nat) (a1 : Int) (a2 : Int) (G : Hp) : RT := bp (fX8_roomOf ((rf a0 0)) a1 G) fun v1 => bd ((if 4 < v1 then 4 else v1)) fun v2 => bd 1 fun v3 => bs (wr G ((rf a0 3)) 4 0 a2) fun G4 => bd 0 fun v5 => (lp (fun (_ : Int) (_ : Int) (_ : Hp) => (none : RT)) 5000 (fun (rc9 : Int → Int → Hp → RT) (v6 : Int) (v7 : Int) (G8 : Hp) => jn (bd 0 fun v11 => (lp (fun (_ : Int) (_ : Hp) => (none : RT)) 5000 (fun (rc14 : Int → Hp → RT) (v12 : Int) (G13 : Hp) => if v12 < 4 then (jn (fun (v15 : Int) => bn (fX6_setList ((rf a0 1)) a1 v12 v15 G13) fun _ G17 => bd (iadd v12 1) fun v18 => rc14 v18 G17) fun (K16 : Int → RT) => if v12 < v6 then (br (rd G13 ((rf a0 3)) 4 v12) fun v20 => K16 v20) else (K16 ((-1)))) else rt 0 G13)) v11 G8) fun (K10 : RT) => if v7 < 4 then (if v6 < v2 then (bp (fX6_listAt ((rf a0 1)) a2 v7 G8) fun v21 => bd v21 fun v22 => jn (fun (v23 : Int) (G24 : Hp) => bd (iadd v7 1) fun v26 => rc9 v23 v26 G24) fun (K25 : Int → Hp → RT) => if v22 = ((-1)) then K25 v6 G8 else (if v22 = a1 then K25 v6 G8 else (if v22 = a2 then K25 v6 G8 else (bs (wr G8 ((rf a0 3)) 4 v6 v22) fun G27 => bd (iadd v6 1) fun v28 => K25 v28 G27)))) else K10) else K10)) v3 v5 G4
set_option maxRecDepth 20000 in
set_option maxHeartbeats 4000000 in
theorem tX0_setListBy (l : Launch) (x : WX) (hi : Inj x.2.2) (G : Hp) (a0 : Nat) (a1 : Int) (a2 : Int) (ha0 : kd a0 = 0) : Ct l x yX0_setListBy cX0_setListBy 7 none 1 129 129 [vR a0, vI a1, vI a2] G (fX0_setListBy a0 a1 a2 G) := by
  refine ct_of (plainFor_of_name (by decide)) hi (Nat.le_refl _) (Nat.le_refl _) (Nat.le_of_ble_eq_true rfl) (fun cx F hd hn0 hnE hl hQ => ?_)
  subst hl
  have F : Fx cx x RX0 cX0_setListBy 7 none := F
  show Y cx x 7 none 129 0 [(0, vR a0), (1, vI a1), (2, vI a2)] [] G _
  unfold fX0_setListBy
  refine x_aload_n F dX0_setListBy_0 rfl rfl rfl ?_
  refine x_getR F flX0_9 ha0 rfl dX0_setListBy_1 rfl ?_
  refine x_iload_n F dX0_setListBy_4 rfl rfl rfl ?_
  refine s_callVP F [vI a1] [] lkX0_122 mX8_roomOf rfl (tf0_0 ha0).1 rfl hnE hn0 hd pX8_roomOf (tX8_roomOf cx.l x hi G ((rf a0 0)) a1 (tf0_0 ha0).1) rfl rfl dX0_setListBy_5 rfl rfl (fun v1 => ?_)
  refine x_iconst F dX0_setListBy_8 ⟨by decide, by decide⟩ rfl ?_
  refine x_mmin F lkX0_125 mmmin1 mmIni mmmin2 (Nat.le_of_eq hnE.symm) (le_d (d' := 0) hd rfl) (Nat.le_of_ble_eq_true rfl) dX0_setListBy_9 rfl ?_
  refine x_istore_n F dX0_setListBy_12 rfl (by decide) rfl rfl (fun v2 => ?_)
  show Y cx x _ _ _ _ [(0, vR a0), (1, vI a1), (2, vI a2), (3, vI v2)] _ _ _
  refine x_iconst F dX0_setListBy_13 ⟨by decide, by decide⟩ rfl ?_
  refine x_istore F dX0_setListBy_14 (by decide) rfl rfl (fun v3 => ?_)
  show Y cx x _ _ _ _ [(0, vR a0), (1, vI a1), (2, vI a2), (3, vI v2), (4, vI v3)] _ _ _
  refine x_aload_n F dX0_setListBy_16 rfl rfl rfl ?_
  refine x_getR F flX0_23 ha0 rfl dX0_setListBy_17 rfl ?_
  refine x_iconst F dX0_setListBy_20 ⟨by decide, by decide⟩ rfl ?_
  refine x_iload_n F dX0_setListBy_21 rfl rfl rfl ?_
  refine s_iast F (tf0_3 ha0).1 (tf0_3 ha0).2 dX0_setListBy_22 rfl (fun G4 => ?_)
  refine x_iconst F dX0_setListBy_23 ⟨by decide, by decide⟩ rfl ?_
  refine x_istore F dX0_setListBy_24 (by decide) rfl rfl (fun v5 => ?_)
  show Y cx x _ _ _ _ [(0, vR a0), (1, vI a1), (2, vI a2), (3, vI v2), (4, vI v3), (5, vI v5)] _ _ _
  refine x_lp (fun (rc9 : Int → Int → Hp → RT) => ∀ (v6 : Int) (v7 : Int) (G8 : Hp), Y cx x 7 none 129 26 [(0, vR a0), (1, vI a1), (2, vI a2), (3, vI v2), (4, vI v6), (5, vI v7)] [] G8 (rc9 v6 v7 G8)) (fun _ _ _ => Y_none) (fun rc9 hrc9 v6 v7 G8 => ?_) 5000 v3 v5 G4
  refine x_iload F dX0_setListBy_26 rfl rfl ?_
  refine x_iconst F dX0_setListBy_28 ⟨by decide, by decide⟩ rfl ?_
  refine x_jn (fun (K10 : RT) => Y cx x 7 none 129 86 [(0, vR a0), (1, vI a1), (4, vI v6)] [] G8 K10) ?_ (fun K10 hK10 => ?_)
  · refine x_iconst F dX0_setListBy_86 ⟨by decide, by decide⟩ rfl ?_
    refine x_istore F dX0_setListBy_87 (by decide) rfl rfl (fun v11 => ?_)
    show Y cx x _ _ _ _ [(0, vR a0), (1, vI a1), (4, vI v6), (5, vI v11)] _ _ _
    refine x_lp (fun (rc14 : Int → Hp → RT) => ∀ (v12 : Int) (G13 : Hp), Y cx x 7 none 129 89 [(0, vR a0), (1, vI a1), (4, vI v6), (5, vI v12)] [] G13 (rc14 v12 G13)) (fun _ _ => Y_none) (fun rc14 hrc14 v12 G13 => ?_) 5000 v11 G8
    refine x_iload F dX0_setListBy_89 rfl rfl ?_
    refine x_iconst F dX0_setListBy_91 ⟨by decide, by decide⟩ rfl ?_
    refine x_icmpge (pt := 129) F dX0_setListBy_92 rfl rfl ?_ ?_
    · refine x_aload_n F dX0_setListBy_95 rfl rfl rfl ?_
      refine x_getR F flX0_15 ha0 rfl dX0_setListBy_96 rfl ?_
      refine x_iload_n F dX0_setListBy_99 rfl rfl rfl ?_
      refine x_iload F dX0_setListBy_100 rfl rfl ?_
      refine x_iload F dX0_setListBy_102 rfl rfl ?_
      refine x_iload F dX0_setListBy_104 rfl rfl ?_
      refine x_jn (fun (K16 : Int → RT) => ∀ (v15 : Int), Y cx x 7 none 129 120 [(0, vR a0), (1, vI a1), (4, vI v6), (5, vI v12)] [vI v15, vI v12, vI a1, vR ((rf a0 1))] G13 (K16 v15)) ?_ (fun K16 hK16 => ?_)
      · intro v15
        refine s_callVv F [vI a1, vI v12, vI v15] [] lkX0_73 mX6_setList rfl (tf0_1 ha0).1 rfl hnE hn0 hd (tX6_setList cx.l x hi G13 ((rf a0 1)) a1 v12 v15 (tf0_1 ha0).1) rfl rfl dX0_setListBy_120 rfl rfl (fun _ G17 => ?_)
        refine x_iinc F dX0_setListBy_123 rfl (by decide) rfl rfl (fun v18 => ?_)
        show Y cx x _ _ _ _ [(0, vR a0), (1, vI a1), (4, vI v6), (5, vI v18)] _ _ _
        refine x_goto (pc' := 89) F dX0_setListBy_126 rfl ?_
        exact hrc14 v18 G17
      · refine x_icmpge (pt := 119) F dX0_setListBy_106 rfl rfl ?_ ?_
        · refine x_aload_n F dX0_setListBy_109 rfl rfl rfl ?_
          refine x_getR F flX0_23 ha0 rfl dX0_setListBy_110 rfl ?_
          refine x_iload F dX0_setListBy_113 rfl rfl ?_
          refine s_iald F (tf0_3 ha0).1 (tf0_3 ha0).2 dX0_setListBy_115 rfl (fun v20 => ?_)
          refine x_goto (pc' := 120) F dX0_setListBy_116 rfl ?_
          exact hK16 v20
        · refine x_iconst F dX0_setListBy_119 ⟨by decide, by decide⟩ rfl ?_
          exact hK16 ((-1))
    · exact x_vret F hnE hQ dX0_setListBy_129
  · refine x_icmpge (pt := 86) F dX0_setListBy_29 rfl rfl ?_ ?_
    · refine x_iload F dX0_setListBy_32 rfl rfl ?_
      refine x_iload_n F dX0_setListBy_34 rfl rfl rfl ?_
      refine x_icmpge (pt := 86) F dX0_setListBy_35 rfl rfl ?_ ?_
      · refine x_aload_n F dX0_setListBy_38 rfl rfl rfl ?_
        refine x_getR F flX0_15 ha0 rfl dX0_setListBy_39 rfl ?_
        refine x_iload_n F dX0_setListBy_42 rfl rfl rfl ?_
        refine x_iload F dX0_setListBy_43 rfl rfl ?_
        refine s_callVP F [vI a2, vI v7] [] lkX0_130 mX6_listAt rfl (tf0_1 ha0).1 rfl hnE hn0 hd pX6_listAt (tX6_listAt cx.l x hi G8 ((rf a0 1)) a2 v7 (tf0_1 ha0).1) rfl rfl dX0_setListBy_45 rfl rfl (fun v21 => ?_)
        refine x_istore F dX0_setListBy_48 (by decide) rfl rfl (fun v22 => ?_)
        show Y cx x _ _ _ _ [(0, vR a0), (1, vI a1), (2, vI a2), (3, vI v2), (4, vI v6), (5, vI v7), (6, vI v22)] _ _ _
        refine x_iload F dX0_setListBy_50 rfl rfl ?_
        refine x_iconst F dX0_setListBy_52 ⟨by decide, by decide⟩ rfl ?_
        refine x_jn (fun (K25 : Int → Hp → RT) => ∀ (v23 : Int) (G24 : Hp), Y cx x 7 none 129 80 [(0, vR a0), (1, vI a1), (2, vI a2), (3, vI v2), (4, vI v23), (5, vI v7)] [] G24 (K25 v23 G24)) ?_ (fun K25 hK25 => ?_)
        · intro v23 G24
          refine x_iinc F dX0_setListBy_80 rfl (by decide) rfl rfl (fun v26 => ?_)
          show Y cx x _ _ _ _ [(0, vR a0), (1, vI a1), (2, vI a2), (3, vI v2), (4, vI v23), (5, vI v26)] _ _ _
          refine x_goto (pc' := 26) F dX0_setListBy_83 rfl ?_
          exact hrc9 v23 v26 G24
        · refine x_icmpeq (pt := 80) F dX0_setListBy_53 rfl rfl ?_ ?_
          · refine x_dp (L' := [(0, vR a0), (1, vI a1), (2, vI a2), (3, vI v2), (4, vI v6), (5, vI v7)]) [0, 1, 2, 3, 4, 5] rfl ?_
            exact hK25 v6 G8
          · refine x_iload F dX0_setListBy_56 rfl rfl ?_
            refine x_iload_n F dX0_setListBy_58 rfl rfl rfl ?_
            refine x_icmpeq (pt := 80) F dX0_setListBy_59 rfl rfl ?_ ?_
            · refine x_dp (L' := [(0, vR a0), (1, vI a1), (2, vI a2), (3, vI v2), (4, vI v6), (5, vI v7)]) [0, 1, 2, 3, 4, 5] rfl ?_
              exact hK25 v6 G8
            · refine x_iload F dX0_setListBy_62 rfl rfl ?_
              refine x_iload_n F dX0_setListBy_64 rfl rfl rfl ?_
              refine x_icmpeq (pt := 80) F dX0_setListBy_65 rfl rfl ?_ ?_
              · refine x_dp (L' := [(0, vR a0), (1, vI a1), (2, vI a2), (3, vI v2), (4, vI v6), (5, vI v7)]) [0, 1, 2, 3, 4, 5] rfl ?_
                exact hK25 v6 G8
              · refine x_aload_n F dX0_setListBy_68 rfl rfl rfl ?_
                refine x_getR F flX0_23 ha0 rfl dX0_setListBy_69 rfl ?_
                refine x_iload F dX0_setListBy_72 rfl rfl ?_
                refine x_iload F dX0_setListBy_74 rfl rfl ?_
                refine s_iast F (tf0_3 ha0).1 (tf0_3 ha0).2 dX0_setListBy_76 rfl (fun G27 => ?_)
                refine x_iinc F dX0_setListBy_77 rfl (by decide) rfl rfl (fun v28 => ?_)
                show Y cx x _ _ _ _ [(0, vR a0), (1, vI a1), (2, vI a2), (3, vI v2), (4, vI v28), (5, vI v7), (6, vI v22)] _ _ _
                refine x_dp (L' := [(0, vR a0), (1, vI a1), (2, vI a2), (3, vI v2), (4, vI v28), (5, vI v7)]) [0, 1, 2, 3, 4, 5] rfl ?_
                exact hK25 v28 G27
      · refine x_dp (L' := [(0, vR a0), (1, vI a1), (4, vI v6)]) [0, 1, 4] rfl ?_
        exact hK10
    · refine x_dp (L' := [(0, vR a0), (1, vI a1), (4, vI v6)]) [0, 1, 4] rfl ?_
      exact hK10
theorem dX0_flushList_0 : decode cX0_flushList 0 = .ok (.iconst 0, 1) := by decide +kernel
theorem dX0_flushList_1 : decode cX0_flushList 1 = .ok (.istore_n 2, 1) := by decide +kernel
theorem dX0_flushList_2 : decode cX0_flushList 2 = .ok (.iconst 0, 1) := by decide +kernel
theorem dX0_flushList_3 : decode cX0_flushList 3 = .ok (.istore_n 3, 1) := by decide +kernel
theorem dX0_flushList_4 : decode cX0_flushList 4 = .ok (.iconst 0, 1) := by decide +kernel
theorem dX0_flushList_5 : decode cX0_flushList 5 = .ok (.istore 4, 2) := by decide +kernel
theorem dX0_flushList_7 : decode cX0_flushList 7 = .ok (.iload 4, 2) := by decide +kernel
theorem dX0_flushList_9 : decode cX0_flushList 9 = .ok (.iconst 4, 1) := by decide +kernel
theorem dX0_flushList_10 : decode cX0_flushList 10 = .ok (.if_icmp .ge 70, 3) := by decide +kernel
theorem dX0_flushList_13 : decode cX0_flushList 13 = .ok (.aload_n 0, 1) := by decide +kernel
theorem dX0_flushList_14 : decode cX0_flushList 14 = .ok (.getfield 15, 3) := by decide +kernel
theorem dX0_flushList_17 : decode cX0_flushList 17 = .ok (.iload_n 1, 1) := by decide +kernel
theorem dX0_flushList_18 : decode cX0_flushList 18 = .ok (.iload 4, 2) := by decide +kernel
theorem dX0_flushList_20 : decode cX0_flushList 20 = .ok (.invokevirtual 130, 3) := by decide +kernel
theorem dX0_flushList_23 : decode cX0_flushList 23 = .ok (.istore 5, 2) := by decide +kernel
theorem dX0_flushList_25 : decode cX0_flushList 25 = .ok (.aload_n 0, 1) := by decide +kernel
theorem dX0_flushList_26 : decode cX0_flushList 26 = .ok (.getfield 15, 3) := by decide +kernel
theorem dX0_flushList_29 : decode cX0_flushList 29 = .ok (.iload_n 1, 1) := by decide +kernel
theorem dX0_flushList_30 : decode cX0_flushList 30 = .ok (.iload 4, 2) := by decide +kernel
theorem dX0_flushList_32 : decode cX0_flushList 32 = .ok (.iconst (-1), 1) := by decide +kernel
theorem dX0_flushList_33 : decode cX0_flushList 33 = .ok (.invokevirtual 73, 3) := by decide +kernel
theorem dX0_flushList_36 : decode cX0_flushList 36 = .ok (.aload_n 0, 1) := by decide +kernel
theorem dX0_flushList_37 : decode cX0_flushList 37 = .ok (.getfield 15, 3) := by decide +kernel
theorem dX0_flushList_40 : decode cX0_flushList 40 = .ok (.iload 5, 2) := by decide +kernel
theorem dX0_flushList_42 : decode cX0_flushList 42 = .ok (.invokevirtual 77, 3) := by decide +kernel
theorem dX0_flushList_45 : decode cX0_flushList 45 = .ok (.ifCond .eq 20, 3) := by decide +kernel
theorem dX0_flushList_48 : decode cX0_flushList 48 = .ok (.aload_n 0, 1) := by decide +kernel
theorem dX0_flushList_49 : decode cX0_flushList 49 = .ok (.getfield 15, 3) := by decide +kernel
theorem dX0_flushList_52 : decode cX0_flushList 52 = .ok (.iload_n 1, 1) := by decide +kernel
theorem dX0_flushList_53 : decode cX0_flushList 53 = .ok (.iload_n 2, 1) := by decide +kernel
theorem dX0_flushList_54 : decode cX0_flushList 54 = .ok (.iload 5, 2) := by decide +kernel
theorem dX0_flushList_56 : decode cX0_flushList 56 = .ok (.invokevirtual 73, 3) := by decide +kernel
theorem dX0_flushList_59 : decode cX0_flushList 59 = .ok (.iinc 2 1, 3) := by decide +kernel
theorem dX0_flushList_62 : decode cX0_flushList 62 = .ok (.goto 12, 3) := by decide +kernel
theorem dX0_flushList_65 : decode cX0_flushList 65 = .ok (.iload 5, 2) := by decide +kernel
theorem dX0_flushList_67 : decode cX0_flushList 67 = .ok (.iconst (-1), 1) := by decide +kernel
theorem dX0_flushList_68 : decode cX0_flushList 68 = .ok (.if_icmp .eq 6, 3) := by decide +kernel
theorem dX0_flushList_71 : decode cX0_flushList 71 = .ok (.iinc 3 1, 3) := by decide +kernel
theorem dX0_flushList_74 : decode cX0_flushList 74 = .ok (.iinc 4 1, 3) := by decide +kernel
theorem dX0_flushList_77 : decode cX0_flushList 77 = .ok (.goto (-70), 3) := by decide +kernel
theorem dX0_flushList_80 : decode cX0_flushList 80 = .ok (.iload_n 3, 1) := by decide +kernel
theorem dX0_flushList_81 : decode cX0_flushList 81 = .ok (.ireturn, 1) := by decide +kernel
def fX0_flushList (a0 : Nat) (a1 : Int) (G : Hp) : RT := bd 0 fun v1 => bd 0 fun v2 => bd 0 fun v3 => (lp (fun (_ : Int) (_ : Int) (_ : Int) (_ : Hp) => (none : RT)) 5000 (fun (rc8 : Int → Int → Int → Hp → RT) (v4 : Int) (v5 : Int) (v6 : Int) (G7 : Hp) => if v6 < 4 then (bp (fX6_listAt ((rf a0 1)) a1 v6 G7) fun v9 => bd v9 fun v10 => bn (fX6_setList ((rf a0 1)) a1 v6 ((-1)) G7) fun _ G11 => bp (fX6_isIn ((rf a0 1)) v10 G11) fun v12 => jn (fun (v13 : Int) (v14 : Int) (G15 : Hp) => bd (iadd v6 1) fun v17 => rc8 v13 v14 v17 G15) fun (K16 : Int → Int → Hp → RT) => if v12 = 0 then (if v10 = ((-1)) then K16 v4 v5 G11 else (bd (iadd v5 1) fun v18 => K16 v4 v18 G11)) else (bn (fX6_setList ((rf a0 1)) a1 v4 v10 G11) fun _ G19 => bd (iadd v4 1) fun v20 => K16 v20 v5 G19)) else rt v5 G7)) v1 v2 v3 G
set_option maxRecDepth 20000 in
set_option maxHeartbeats 4000000 in
theorem tX0_flushList (l : Launch) (x : WX) (hi : Inj x.2.2) (G : Hp) (a0 : Nat) (a1 : Int) (ha0 : kd a0 = 0) : Ct l x yX0_flushList cX0_flushList 6 (some .int) 1 129 129 [vR a0, vI a1] G (fX0_flushList a0 a1 G) := by
  refine ct_of (plainFor_of_name (by decide)) hi (Nat.le_refl _) (Nat.le_refl _) (Nat.le_of_ble_eq_true rfl) (fun cx F hd hn0 hnE hl hQ => ?_)
  subst hl
  have F : Fx cx x RX0 cX0_flushList 6 (some .int) := F
  show Y cx x 6 (some .int) 129 0 [(0, vR a0), (1, vI a1)] [] G _
  unfold fX0_flushList
  refine x_iconst F dX0_flushList_0 ⟨by decide, by decide⟩ rfl ?_
  refine x_istore_n F dX0_flushList_1 rfl (by decide) rfl rfl (fun v1 => ?_)
  show Y cx x _ _ _ _ [(0, vR a0), (1, vI a1), (2, vI v1)] _ _ _
  refine x_iconst F dX0_flushList_2 ⟨by decide, by decide⟩ rfl ?_
  refine x_istore_n F dX0_flushList_3 rfl (by decide) rfl rfl (fun v2 => ?_)
  show Y cx x _ _ _ _ [(0, vR a0), (1, vI a1), (2, vI v1), (3, vI v2)] _ _ _
  refine x_iconst F dX0_flushList_4 ⟨by decide, by decide⟩ rfl ?_
  refine x_istore F dX0_flushList_5 (by decide) rfl rfl (fun v3 => ?_)
  show Y cx x _ _ _ _ [(0, vR a0), (1, vI a1), (2, vI v1), (3, vI v2), (4, vI v3)] _ _ _
  refine x_lp (fun (rc8 : Int → Int → Int → Hp → RT) => ∀ (v4 : Int) (v5 : Int) (v6 : Int) (G7 : Hp), Y cx x 6 (some .int) 129 7 [(0, vR a0), (1, vI a1), (2, vI v4), (3, vI v5), (4, vI v6)] [] G7 (rc8 v4 v5 v6 G7)) (fun _ _ _ _ => Y_none) (fun rc8 hrc8 v4 v5 v6 G7 => ?_) 5000 v1 v2 v3 G
  refine x_iload F dX0_flushList_7 rfl rfl ?_
  refine x_iconst F dX0_flushList_9 ⟨by decide, by decide⟩ rfl ?_
  refine x_icmpge (pt := 80) F dX0_flushList_10 rfl rfl ?_ ?_
  · refine x_aload_n F dX0_flushList_13 rfl rfl rfl ?_
    refine x_getR F flX0_15 ha0 rfl dX0_flushList_14 rfl ?_
    refine x_iload_n F dX0_flushList_17 rfl rfl rfl ?_
    refine x_iload F dX0_flushList_18 rfl rfl ?_
    refine s_callVP F [vI a1, vI v6] [] lkX0_130 mX6_listAt rfl (tf0_1 ha0).1 rfl hnE hn0 hd pX6_listAt (tX6_listAt cx.l x hi G7 ((rf a0 1)) a1 v6 (tf0_1 ha0).1) rfl rfl dX0_flushList_20 rfl rfl (fun v9 => ?_)
    refine x_istore F dX0_flushList_23 (by decide) rfl rfl (fun v10 => ?_)
    show Y cx x _ _ _ _ [(0, vR a0), (1, vI a1), (2, vI v4), (3, vI v5), (4, vI v6), (5, vI v10)] _ _ _
    refine x_aload_n F dX0_flushList_25 rfl rfl rfl ?_
    refine x_getR F flX0_15 ha0 rfl dX0_flushList_26 rfl ?_
    refine x_iload_n F dX0_flushList_29 rfl rfl rfl ?_
    refine x_iload F dX0_flushList_30 rfl rfl ?_
    refine x_iconst F dX0_flushList_32 ⟨by decide, by decide⟩ rfl ?_
    refine s_callVv F [vI a1, vI v6, vI ((-1))] [] lkX0_73 mX6_setList rfl (tf0_1 ha0).1 rfl hnE hn0 hd (tX6_setList cx.l x hi G7 ((rf a0 1)) a1 v6 ((-1)) (tf0_1 ha0).1) rfl rfl dX0_flushList_33 rfl rfl (fun _ G11 => ?_)
    refine x_aload_n F dX0_flushList_36 rfl rfl rfl ?_
    refine x_getR F flX0_15 ha0 rfl dX0_flushList_37 rfl ?_
    refine x_iload F dX0_flushList_40 rfl rfl ?_
    refine s_callVP F [vI v10] [] lkX0_77 mX6_isIn rfl (tf0_1 ha0).1 rfl hnE hn0 hd pX6_isIn (tX6_isIn cx.l x hi G11 ((rf a0 1)) v10 (tf0_1 ha0).1) rfl rfl dX0_flushList_42 rfl rfl (fun v12 => ?_)
    refine x_jn (fun (K16 : Int → Int → Hp → RT) => ∀ (v13 : Int) (v14 : Int) (G15 : Hp), Y cx x 6 (some .int) 129 74 [(0, vR a0), (1, vI a1), (2, vI v13), (3, vI v14), (4, vI v6)] [] G15 (K16 v13 v14 G15)) ?_ (fun K16 hK16 => ?_)
    · intro v13 v14 G15
      refine x_iinc F dX0_flushList_74 rfl (by decide) rfl rfl (fun v17 => ?_)
      show Y cx x _ _ _ _ [(0, vR a0), (1, vI a1), (2, vI v13), (3, vI v14), (4, vI v17)] _ _ _
      refine x_goto (pc' := 7) F dX0_flushList_77 rfl ?_
      exact hrc8 v13 v14 v17 G15
    · refine x_ifeq (pt := 65) F dX0_flushList_45 rfl rfl ?_ ?_
      · refine x_iload F dX0_flushList_65 rfl rfl ?_
        refine x_iconst F dX0_flushList_67 ⟨by decide, by decide⟩ rfl ?_
        refine x_icmpeq (pt := 74) F dX0_flushList_68 rfl rfl ?_ ?_
        · refine x_dp (L' := [(0, vR a0), (1, vI a1), (2, vI v4), (3, vI v5), (4, vI v6)]) [0, 1, 2, 3, 4] rfl ?_
          exact hK16 v4 v5 G11
        · refine x_iinc F dX0_flushList_71 rfl (by decide) rfl rfl (fun v18 => ?_)
          show Y cx x _ _ _ _ [(0, vR a0), (1, vI a1), (2, vI v4), (3, vI v18), (4, vI v6), (5, vI v10)] _ _ _
          refine x_dp (L' := [(0, vR a0), (1, vI a1), (2, vI v4), (3, vI v18), (4, vI v6)]) [0, 1, 2, 3, 4] rfl ?_
          exact hK16 v4 v18 G11
      · refine x_aload_n F dX0_flushList_48 rfl rfl rfl ?_
        refine x_getR F flX0_15 ha0 rfl dX0_flushList_49 rfl ?_
        refine x_iload_n F dX0_flushList_52 rfl rfl rfl ?_
        refine x_iload_n F dX0_flushList_53 rfl rfl rfl ?_
        refine x_iload F dX0_flushList_54 rfl rfl ?_
        refine s_callVv F [vI a1, vI v4, vI v10] [] lkX0_73 mX6_setList rfl (tf0_1 ha0).1 rfl hnE hn0 hd (tX6_setList cx.l x hi G11 ((rf a0 1)) a1 v4 v10 (tf0_1 ha0).1) rfl rfl dX0_flushList_56 rfl rfl (fun _ G19 => ?_)
        refine x_iinc F dX0_flushList_59 rfl (by decide) rfl rfl (fun v20 => ?_)
        show Y cx x _ _ _ _ [(0, vR a0), (1, vI a1), (2, vI v20), (3, vI v5), (4, vI v6), (5, vI v10)] _ _ _
        refine x_goto (pc' := 74) F dX0_flushList_62 rfl ?_
        refine x_dp (L' := [(0, vR a0), (1, vI a1), (2, vI v20), (3, vI v5), (4, vI v6)]) [0, 1, 2, 3, 4] rfl ?_
        exact hK16 v20 v5 G19
  · refine x_iload_n F dX0_flushList_80 rfl rfl rfl ?_
    exact x_iret F hnE hQ dX0_flushList_81
theorem dX0_doLeave_0 : decode cX0_doLeave 0 = .ok (.aload_n 0, 1) := by decide +kernel
theorem dX0_doLeave_1 : decode cX0_doLeave 1 = .ok (.getfield 15, 3) := by decide +kernel
theorem dX0_doLeave_4 : decode cX0_doLeave 4 = .ok (.iload_n 1, 1) := by decide +kernel
theorem dX0_doLeave_5 : decode cX0_doLeave 5 = .ok (.invokevirtual 77, 3) := by decide +kernel
theorem dX0_doLeave_8 : decode cX0_doLeave 8 = .ok (.ifCond .ne 5, 3) := by decide +kernel
theorem dX0_doLeave_11 : decode cX0_doLeave 11 = .ok (.iconst 0, 1) := by decide +kernel
theorem dX0_doLeave_12 : decode cX0_doLeave 12 = .ok (.ireturn, 1) := by decide +kernel
theorem dX0_doLeave_13 : decode cX0_doLeave 13 = .ok (.aload_n 0, 1) := by decide +kernel
theorem dX0_doLeave_14 : decode cX0_doLeave 14 = .ok (.getfield 15, 3) := by decide +kernel
theorem dX0_doLeave_17 : decode cX0_doLeave 17 = .ok (.iload_n 1, 1) := by decide +kernel
theorem dX0_doLeave_18 : decode cX0_doLeave 18 = .ok (.aload_n 0, 1) := by decide +kernel
theorem dX0_doLeave_19 : decode cX0_doLeave 19 = .ok (.getfield 15, 3) := by decide +kernel
theorem dX0_doLeave_22 : decode cX0_doLeave 22 = .ok (.getfield 63, 3) := by decide +kernel
theorem dX0_doLeave_25 : decode cX0_doLeave 25 = .ok (.invokevirtual 95, 3) := by decide +kernel
theorem dX0_doLeave_28 : decode cX0_doLeave 28 = .ok (.istore_n 2, 1) := by decide +kernel
theorem dX0_doLeave_29 : decode cX0_doLeave 29 = .ok (.iload_n 2, 1) := by decide +kernel
theorem dX0_doLeave_30 : decode cX0_doLeave 30 = .ok (.iconst (-1), 1) := by decide +kernel
theorem dX0_doLeave_31 : decode cX0_doLeave 31 = .ok (.if_icmp .eq 8, 3) := by decide +kernel
theorem dX0_doLeave_34 : decode cX0_doLeave 34 = .ok (.iload_n 2, 1) := by decide +kernel
theorem dX0_doLeave_35 : decode cX0_doLeave 35 = .ok (.iload_n 1, 1) := by decide +kernel
theorem dX0_doLeave_36 : decode cX0_doLeave 36 = .ok (.if_icmp .ne 5, 3) := by decide +kernel
theorem dX0_doLeave_39 : decode cX0_doLeave 39 = .ok (.iconst 0, 1) := by decide +kernel
theorem dX0_doLeave_40 : decode cX0_doLeave 40 = .ok (.ireturn, 1) := by decide +kernel
theorem dX0_doLeave_41 : decode cX0_doLeave 41 = .ok (.aload_n 0, 1) := by decide +kernel
theorem dX0_doLeave_42 : decode cX0_doLeave 42 = .ok (.getfield 15, 3) := by decide +kernel
theorem dX0_doLeave_45 : decode cX0_doLeave 45 = .ok (.iload_n 1, 1) := by decide +kernel
theorem dX0_doLeave_46 : decode cX0_doLeave 46 = .ok (.iload_n 2, 1) := by decide +kernel
theorem dX0_doLeave_47 : decode cX0_doLeave 47 = .ok (.invokevirtual 98, 3) := by decide +kernel
theorem dX0_doLeave_50 : decode cX0_doLeave 50 = .ok (.aload_n 0, 1) := by decide +kernel
theorem dX0_doLeave_51 : decode cX0_doLeave 51 = .ok (.getfield 15, 3) := by decide +kernel
theorem dX0_doLeave_54 : decode cX0_doLeave 54 = .ok (.iload_n 1, 1) := by decide +kernel
theorem dX0_doLeave_55 : decode cX0_doLeave 55 = .ok (.invokevirtual 101, 3) := by decide +kernel
theorem dX0_doLeave_58 : decode cX0_doLeave 58 = .ok (.iconst 1, 1) := by decide +kernel
theorem dX0_doLeave_59 : decode cX0_doLeave 59 = .ok (.ireturn, 1) := by decide +kernel
def fX0_doLeave (a0 : Nat) (a1 : Int) (G : Hp) : RT := bp (fX6_isIn ((rf a0 1)) a1 G) fun v1 => if v1 = 0 then rz 0 G else (bp (fX6_firstOf ((rf a0 1)) a1 (G ((rf a0 1)) 1) G) fun v2 => bd v2 fun v3 => if v3 = ((-1)) then rz 0 G else (if v3 = a1 then rz 0 G else (bn (fX6_passKeys ((rf a0 1)) a1 v3 G) fun _ G4 => bn (fX6_goOut ((rf a0 1)) a1 G4) fun _ G5 => rz 1 G5)))
set_option maxRecDepth 20000 in
set_option maxHeartbeats 4000000 in
theorem tX0_doLeave (l : Launch) (x : WX) (hi : Inj x.2.2) (G : Hp) (a0 : Nat) (a1 : Int) (ha0 : kd a0 = 0) : Ct l x yX0_doLeave cX0_doLeave 3 (some .boolean) 2 129 129 [vR a0, vI a1] G (fX0_doLeave a0 a1 G) := by
  refine ct_of (plainFor_of_name (by decide)) hi (Nat.le_refl _) (Nat.le_refl _) (Nat.le_of_ble_eq_true rfl) (fun cx F hd hn0 hnE hl hQ => ?_)
  subst hl
  have F : Fx cx x RX0 cX0_doLeave 3 (some .boolean) := F
  show Y cx x 3 (some .boolean) 129 0 [(0, vR a0), (1, vI a1)] [] G _
  unfold fX0_doLeave
  refine x_aload_n F dX0_doLeave_0 rfl rfl rfl ?_
  refine x_getR F flX0_15 ha0 rfl dX0_doLeave_1 rfl ?_
  refine x_iload_n F dX0_doLeave_4 rfl rfl rfl ?_
  refine s_callVP F [vI a1] [] lkX0_77 mX6_isIn rfl (tf0_1 ha0).1 rfl hnE hn0 hd pX6_isIn (tX6_isIn cx.l x hi G ((rf a0 1)) a1 (tf0_1 ha0).1) rfl rfl dX0_doLeave_5 rfl rfl (fun v1 => ?_)
  refine x_ifne (pt := 13) F dX0_doLeave_8 rfl rfl ?_ ?_
  · refine x_iconst F dX0_doLeave_11 ⟨by decide, by decide⟩ rfl ?_
    exact x_zret F hnE hQ dX0_doLeave_12
  · refine x_aload_n F dX0_doLeave_13 rfl rfl rfl ?_
    refine x_getR F flX0_15 ha0 rfl dX0_doLeave_14 rfl ?_
    refine x_iload_n F dX0_doLeave_17 rfl rfl rfl ?_
    refine x_aload_n F dX0_doLeave_18 rfl rfl rfl ?_
    refine x_getR F flX0_15 ha0 rfl dX0_doLeave_19 rfl ?_
    refine s_getI F flX0_63 (tf0_1 ha0).1 rfl dX0_doLeave_22 rfl ?_
    refine s_callVP F [vI a1, vI (G ((rf a0 1)) 1)] [] lkX0_95 mX6_firstOf rfl (tf0_1 ha0).1 rfl hnE hn0 hd pX6_firstOf (tX6_firstOf cx.l x hi G ((rf a0 1)) a1 (G ((rf a0 1)) 1) (tf0_1 ha0).1) rfl rfl dX0_doLeave_25 rfl rfl (fun v2 => ?_)
    refine x_istore_n F dX0_doLeave_28 rfl (by decide) rfl rfl (fun v3 => ?_)
    show Y cx x _ _ _ _ [(0, vR a0), (1, vI a1), (2, vI v3)] _ _ _
    refine x_iload_n F dX0_doLeave_29 rfl rfl rfl ?_
    refine x_iconst F dX0_doLeave_30 ⟨by decide, by decide⟩ rfl ?_
    refine x_icmpeq (pt := 39) F dX0_doLeave_31 rfl rfl ?_ ?_
    · refine x_iconst F dX0_doLeave_39 ⟨by decide, by decide⟩ rfl ?_
      exact x_zret F hnE hQ dX0_doLeave_40
    · refine x_iload_n F dX0_doLeave_34 rfl rfl rfl ?_
      refine x_iload_n F dX0_doLeave_35 rfl rfl rfl ?_
      refine x_icmpne (pt := 41) F dX0_doLeave_36 rfl rfl ?_ ?_
      · refine x_iconst F dX0_doLeave_39 ⟨by decide, by decide⟩ rfl ?_
        exact x_zret F hnE hQ dX0_doLeave_40
      · refine x_aload_n F dX0_doLeave_41 rfl rfl rfl ?_
        refine x_getR F flX0_15 ha0 rfl dX0_doLeave_42 rfl ?_
        refine x_iload_n F dX0_doLeave_45 rfl rfl rfl ?_
        refine x_iload_n F dX0_doLeave_46 rfl rfl rfl ?_
        refine s_callVv F [vI a1, vI v3] [] lkX0_98 mX6_passKeys rfl (tf0_1 ha0).1 rfl hnE hn0 hd (tX6_passKeys cx.l x hi G ((rf a0 1)) a1 v3 (tf0_1 ha0).1) rfl rfl dX0_doLeave_47 rfl rfl (fun _ G4 => ?_)
        refine x_aload_n F dX0_doLeave_50 rfl rfl rfl ?_
        refine x_getR F flX0_15 ha0 rfl dX0_doLeave_51 rfl ?_
        refine x_iload_n F dX0_doLeave_54 rfl rfl rfl ?_
        refine s_callVv F [vI a1] [] lkX0_101 mX6_goOut rfl (tf0_1 ha0).1 rfl hnE hn0 hd (tX6_goOut cx.l x hi G4 ((rf a0 1)) a1 (tf0_1 ha0).1) rfl rfl dX0_doLeave_55 rfl rfl (fun _ G5 => ?_)
        refine x_iconst F dX0_doLeave_58 ⟨by decide, by decide⟩ rfl ?_
        exact x_zret F hnE hQ dX0_doLeave_59
theorem dX0_rectify_0 : decode cX0_rectify 0 = .ok (.aload_n 0, 1) := by decide +kernel
theorem dX0_rectify_1 : decode cX0_rectify 1 = .ok (.getfield 15, 3) := by decide +kernel
theorem dX0_rectify_4 : decode cX0_rectify 4 = .ok (.iload_n 1, 1) := by decide +kernel
theorem dX0_rectify_5 : decode cX0_rectify 5 = .ok (.invokevirtual 112, 3) := by decide +kernel
theorem dX0_rectify_8 : decode cX0_rectify 8 = .ok (.istore_n 3, 1) := by decide +kernel
theorem dX0_rectify_9 : decode cX0_rectify 9 = .ok (.aload_n 0, 1) := by decide +kernel
theorem dX0_rectify_10 : decode cX0_rectify 10 = .ok (.getfield 15, 3) := by decide +kernel
theorem dX0_rectify_13 : decode cX0_rectify 13 = .ok (.iload_n 3, 1) := by decide +kernel
theorem dX0_rectify_14 : decode cX0_rectify 14 = .ok (.invokevirtual 77, 3) := by decide +kernel
theorem dX0_rectify_17 : decode cX0_rectify 17 = .ok (.ifCond .eq 17, 3) := by decide +kernel
theorem dX0_rectify_20 : decode cX0_rectify 20 = .ok (.aload_n 0, 1) := by decide +kernel
theorem dX0_rectify_21 : decode cX0_rectify 21 = .ok (.getfield 9, 3) := by decide +kernel
theorem dX0_rectify_24 : decode cX0_rectify 24 = .ok (.iload_n 2, 1) := by decide +kernel
theorem dX0_rectify_25 : decode cX0_rectify 25 = .ok (.iload_n 3, 1) := by decide +kernel
theorem dX0_rectify_26 : decode cX0_rectify 26 = .ok (.iload_n 1, 1) := by decide +kernel
theorem dX0_rectify_27 : decode cX0_rectify 27 = .ok (.invokevirtual 115, 3) := by decide +kernel
theorem dX0_rectify_30 : decode cX0_rectify 30 = .ok (.ifCond .ne 4, 3) := by decide +kernel
theorem dX0_rectify_33 : decode cX0_rectify 33 = .ok (.return_, 1) := by decide +kernel
theorem dX0_rectify_34 : decode cX0_rectify 34 = .ok (.aload_n 0, 1) := by decide +kernel
theorem dX0_rectify_35 : decode cX0_rectify 35 = .ok (.getfield 15, 3) := by decide +kernel
theorem dX0_rectify_38 : decode cX0_rectify 38 = .ok (.iload_n 1, 1) := by decide +kernel
theorem dX0_rectify_39 : decode cX0_rectify 39 = .ok (.iload_n 2, 1) := by decide +kernel
theorem dX0_rectify_40 : decode cX0_rectify 40 = .ok (.invokevirtual 133, 3) := by decide +kernel
theorem dX0_rectify_43 : decode cX0_rectify 43 = .ok (.aload_n 0, 1) := by decide +kernel
theorem dX0_rectify_44 : decode cX0_rectify 44 = .ok (.getfield 9, 3) := by decide +kernel
theorem dX0_rectify_47 : decode cX0_rectify 47 = .ok (.getfield 136, 3) := by decide +kernel
theorem dX0_rectify_50 : decode cX0_rectify 50 = .ok (.iload_n 2, 1) := by decide +kernel
theorem dX0_rectify_51 : decode cX0_rectify 51 = .ok (.iaload, 1) := by decide +kernel
theorem dX0_rectify_52 : decode cX0_rectify 52 = .ok (.iconst 2, 1) := by decide +kernel
theorem dX0_rectify_53 : decode cX0_rectify 53 = .ok (.if_icmp .ne 4, 3) := by decide +kernel
theorem dX0_rectify_56 : decode cX0_rectify 56 = .ok (.return_, 1) := by decide +kernel
theorem dX0_rectify_57 : decode cX0_rectify 57 = .ok (.aload_n 0, 1) := by decide +kernel
theorem dX0_rectify_58 : decode cX0_rectify 58 = .ok (.getfield 9, 3) := by decide +kernel
theorem dX0_rectify_61 : decode cX0_rectify 61 = .ok (.getfield 80, 3) := by decide +kernel
theorem dX0_rectify_64 : decode cX0_rectify 64 = .ok (.iload_n 2, 1) := by decide +kernel
theorem dX0_rectify_65 : decode cX0_rectify 65 = .ok (.iaload, 1) := by decide +kernel
theorem dX0_rectify_66 : decode cX0_rectify 66 = .ok (.istore 4, 2) := by decide +kernel
theorem dX0_rectify_68 : decode cX0_rectify 68 = .ok (.aload_n 0, 1) := by decide +kernel
theorem dX0_rectify_69 : decode cX0_rectify 69 = .ok (.getfield 9, 3) := by decide +kernel
theorem dX0_rectify_72 : decode cX0_rectify 72 = .ok (.iload 4, 2) := by decide +kernel
theorem dX0_rectify_74 : decode cX0_rectify 74 = .ok (.aload_n 0, 1) := by decide +kernel
theorem dX0_rectify_75 : decode cX0_rectify 75 = .ok (.getfield 9, 3) := by decide +kernel
theorem dX0_rectify_78 : decode cX0_rectify 78 = .ok (.getfield 80, 3) := by decide +kernel
theorem dX0_rectify_81 : decode cX0_rectify 81 = .ok (.iload_n 1, 1) := by decide +kernel
theorem dX0_rectify_82 : decode cX0_rectify 82 = .ok (.iaload, 1) := by decide +kernel
theorem dX0_rectify_83 : decode cX0_rectify 83 = .ok (.invokevirtual 139, 3) := by decide +kernel
theorem dX0_rectify_86 : decode cX0_rectify 86 = .ok (.istore 5, 2) := by decide +kernel
theorem dX0_rectify_88 : decode cX0_rectify 88 = .ok (.iconst 0, 1) := by decide +kernel
theorem dX0_rectify_89 : decode cX0_rectify 89 = .ok (.istore 6, 2) := by decide +kernel
theorem dX0_rectify_91 : decode cX0_rectify 91 = .ok (.iload 6, 2) := by decide +kernel
theorem dX0_rectify_93 : decode cX0_rectify 93 = .ok (.aload_n 0, 1) := by decide +kernel
theorem dX0_rectify_94 : decode cX0_rectify 94 = .ok (.getfield 9, 3) := by decide +kernel
theorem dX0_rectify_97 : decode cX0_rectify 97 = .ok (.getfield 142, 3) := by decide +kernel
theorem dX0_rectify_100 : decode cX0_rectify 100 = .ok (.if_icmp .ge 56, 3) := by decide +kernel
theorem dX0_rectify_103 : decode cX0_rectify 103 = .ok (.aload_n 0, 1) := by decide +kernel
theorem dX0_rectify_104 : decode cX0_rectify 104 = .ok (.getfield 15, 3) := by decide +kernel
theorem dX0_rectify_107 : decode cX0_rectify 107 = .ok (.iload 6, 2) := by decide +kernel
theorem dX0_rectify_109 : decode cX0_rectify 109 = .ok (.invokevirtual 145, 3) := by decide +kernel
theorem dX0_rectify_112 : decode cX0_rectify 112 = .ok (.iload_n 1, 1) := by decide +kernel
theorem dX0_rectify_113 : decode cX0_rectify 113 = .ok (.if_icmp .ne 37, 3) := by decide +kernel
theorem dX0_rectify_116 : decode cX0_rectify 116 = .ok (.aload_n 0, 1) := by decide +kernel
theorem dX0_rectify_117 : decode cX0_rectify 117 = .ok (.getfield 9, 3) := by decide +kernel
theorem dX0_rectify_120 : decode cX0_rectify 120 = .ok (.iload 4, 2) := by decide +kernel
theorem dX0_rectify_122 : decode cX0_rectify 122 = .ok (.aload_n 0, 1) := by decide +kernel
theorem dX0_rectify_123 : decode cX0_rectify 123 = .ok (.getfield 9, 3) := by decide +kernel
theorem dX0_rectify_126 : decode cX0_rectify 126 = .ok (.getfield 148, 3) := by decide +kernel
theorem dX0_rectify_129 : decode cX0_rectify 129 = .ok (.iload 6, 2) := by decide +kernel
theorem dX0_rectify_131 : decode cX0_rectify 131 = .ok (.iaload, 1) := by decide +kernel
theorem dX0_rectify_132 : decode cX0_rectify 132 = .ok (.invokevirtual 139, 3) := by decide +kernel
theorem dX0_rectify_135 : decode cX0_rectify 135 = .ok (.iload 5, 2) := by decide +kernel
theorem dX0_rectify_137 : decode cX0_rectify 137 = .ok (.if_icmp .le 13, 3) := by decide +kernel
theorem dX0_rectify_140 : decode cX0_rectify 140 = .ok (.aload_n 0, 1) := by decide +kernel
theorem dX0_rectify_141 : decode cX0_rectify 141 = .ok (.getfield 15, 3) := by decide +kernel
theorem dX0_rectify_144 : decode cX0_rectify 144 = .ok (.iload 6, 2) := by decide +kernel
theorem dX0_rectify_146 : decode cX0_rectify 146 = .ok (.iload_n 2, 1) := by decide +kernel
theorem dX0_rectify_147 : decode cX0_rectify 147 = .ok (.invokevirtual 151, 3) := by decide +kernel
theorem dX0_rectify_150 : decode cX0_rectify 150 = .ok (.iinc 6 1, 3) := by decide +kernel
theorem dX0_rectify_153 : decode cX0_rectify 153 = .ok (.goto (-62), 3) := by decide +kernel
theorem dX0_rectify_156 : decode cX0_rectify 156 = .ok (.return_, 1) := by decide +kernel
def fX0_rectify (a0 : Nat) (a1 : Int) (a2 : Int) (G : Hp) : RT := bp (fX6_aheadOf ((rf a0 1)) a1 G) fun v1 => bd v1 fun v2 => bp (fX6_isIn ((rf a0 1)) v2 G) fun v3 => jn (bn (fX6_setAhead ((rf a0 1)) a1 a2 G) fun _ G5 => br (rd G5 ((rf ((rf a0 0)) 4)) 8 a2) fun v6 => if v6 = 2 then rt 0 G5 else (br (rd G5 ((rf ((rf a0 0)) 5)) 8 a2) fun v7 => bd v7 fun v8 => br (rd G5 ((rf ((rf a0 0)) 5)) 8 a1) fun v9 => bp (fX8_way ((rf a0 0)) v8 v9 G5) fun v10 => bd v10 fun v11 => bd 0 fun v12 => (lp (fun (_ : Int) (_ : Hp) => (none : RT)) 5000 (fun (rc15 : Int → Hp → RT) (v13 : Int) (G14 : Hp) => if v13 < (G14 ((rf a0 0)) 3) then (bp (fX6_holderOf ((rf a0 1)) v13 G14) fun v16 => jn (fun (G17 : Hp) => bd (iadd v13 1) fun v19 => rc15 v19 G17) fun (K18 : Hp → RT) => if v16 = a1 then (br (rd G14 ((rf ((rf a0 0)) 8)) 10 v13) fun v20 => bp (fX8_way ((rf a0 0)) v8 v20 G14) fun v21 => if v11 < v21 then (bn (fX6_setHolder ((rf a0 1)) v13 a2 G14) fun _ G22 => K18 G22) else K18 G14) else K18 G14) else rt 0 G14)) v12 G5)) fun (K4 : RT) => if v3 = 0 then K4 else (bp (fX8_isBetween ((rf a0 0)) a2 v2 a1 G) fun v25 => if v25 = 0 then rt 0 G else K4)
set_option maxRecDepth 20000 in
set_option maxHeartbeats 4000000 in
theorem tX0_rectify (l : Launch) (x : WX) (hi : Inj x.2.2) (G : Hp) (a0 : Nat) (a1 : Int) (a2 : Int) (ha0 : kd a0 = 0) : Ct l x yX0_rectify cX0_rectify 7 none 2 129 129 [vR a0, vI a1, vI a2] G (fX0_rectify a0 a1 a2 G) := by
  refine ct_of (plainFor_of_name (by decide)) hi (Nat.le_refl _) (Nat.le_refl _) (Nat.le_of_ble_eq_true rfl) (fun cx F hd hn0 hnE hl hQ => ?_)
  subst hl
  have F : Fx cx x RX0 cX0_rectify 7 none := F
  show Y cx x 7 none 129 0 [(0, vR a0), (1, vI a1), (2, vI a2)] [] G _
  unfold fX0_rectify
  refine x_aload_n F dX0_rectify_0 rfl rfl rfl ?_
  refine x_getR F flX0_15 ha0 rfl dX0_rectify_1 rfl ?_
  refine x_iload_n F dX0_rectify_4 rfl rfl rfl ?_
  refine s_callVP F [vI a1] [] lkX0_112 mX6_aheadOf rfl (tf0_1 ha0).1 rfl hnE hn0 hd pX6_aheadOf (tX6_aheadOf cx.l x hi G ((rf a0 1)) a1 (tf0_1 ha0).1) rfl rfl dX0_rectify_5 rfl rfl (fun v1 => ?_)
  refine x_istore_n F dX0_rectify_8 rfl (by decide) rfl rfl (fun v2 => ?_)
  show Y cx x _ _ _ _ [(0, vR a0), (1, vI a1), (2, vI a2), (3, vI v2)] _ _ _
  refine x_aload_n F dX0_rectify_9 rfl rfl rfl ?_
  refine x_getR F flX0_15 ha0 rfl dX0_rectify_10 rfl ?_
  refine x_iload_n F dX0_rectify_13 rfl rfl rfl ?_
  refine s_callVP F [vI v2] [] lkX0_77 mX6_isIn rfl (tf0_1 ha0).1 rfl hnE hn0 hd pX6_isIn (tX6_isIn cx.l x hi G ((rf a0 1)) v2 (tf0_1 ha0).1) rfl rfl dX0_rectify_14 rfl rfl (fun v3 => ?_)
  refine x_jn (fun (K4 : RT) => Y cx x 7 none 129 34 [(0, vR a0), (1, vI a1), (2, vI a2)] [] G K4) ?_ (fun K4 hK4 => ?_)
  · refine x_aload_n F dX0_rectify_34 rfl rfl rfl ?_
    refine x_getR F flX0_15 ha0 rfl dX0_rectify_35 rfl ?_
    refine x_iload_n F dX0_rectify_38 rfl rfl rfl ?_
    refine x_iload_n F dX0_rectify_39 rfl rfl rfl ?_
    refine s_callVv F [vI a1, vI a2] [] lkX0_133 mX6_setAhead rfl (tf0_1 ha0).1 rfl hnE hn0 hd (tX6_setAhead cx.l x hi G ((rf a0 1)) a1 a2 (tf0_1 ha0).1) rfl rfl dX0_rectify_40 rfl rfl (fun _ G5 => ?_)
    refine x_aload_n F dX0_rectify_43 rfl rfl rfl ?_
    refine x_getR F flX0_9 ha0 rfl dX0_rectify_44 rfl ?_
    refine x_getR F flX0_136 (tf0_0 ha0).1 rfl dX0_rectify_47 rfl ?_
    refine x_iload_n F dX0_rectify_50 rfl rfl rfl ?_
    refine s_iald F (tf8_4 (tf0_0 ha0).1).1 (tf8_4 (tf0_0 ha0).1).2 dX0_rectify_51 rfl (fun v6 => ?_)
    refine x_iconst F dX0_rectify_52 ⟨by decide, by decide⟩ rfl ?_
    refine x_icmpne (pt := 57) F dX0_rectify_53 rfl rfl ?_ ?_
    · exact x_vret F hnE hQ dX0_rectify_56
    · refine x_aload_n F dX0_rectify_57 rfl rfl rfl ?_
      refine x_getR F flX0_9 ha0 rfl dX0_rectify_58 rfl ?_
      refine x_getR F flX0_80 (tf0_0 ha0).1 rfl dX0_rectify_61 rfl ?_
      refine x_iload_n F dX0_rectify_64 rfl rfl rfl ?_
      refine s_iald F (tf8_5 (tf0_0 ha0).1).1 (tf8_5 (tf0_0 ha0).1).2 dX0_rectify_65 rfl (fun v7 => ?_)
      refine x_istore F dX0_rectify_66 (by decide) rfl rfl (fun v8 => ?_)
      show Y cx x _ _ _ _ [(0, vR a0), (1, vI a1), (2, vI a2), (4, vI v8)] _ _ _
      refine x_aload_n F dX0_rectify_68 rfl rfl rfl ?_
      refine x_getR F flX0_9 ha0 rfl dX0_rectify_69 rfl ?_
      refine x_iload F dX0_rectify_72 rfl rfl ?_
      refine x_aload_n F dX0_rectify_74 rfl rfl rfl ?_
      refine x_getR F flX0_9 ha0 rfl dX0_rectify_75 rfl ?_
      refine x_getR F flX0_80 (tf0_0 ha0).1 rfl dX0_rectify_78 rfl ?_
      refine x_iload_n F dX0_rectify_81 rfl rfl rfl ?_
      refine s_iald F (tf8_5 (tf0_0 ha0).1).1 (tf8_5 (tf0_0 ha0).1).2 dX0_rectify_82 rfl (fun v9 => ?_)
      refine s_callVP F [vI v8, vI v9] [] lkX0_139 mX8_way rfl (tf0_0 ha0).1 rfl hnE hn0 hd pX8_way (tX8_way cx.l x hi G5 ((rf a0 0)) v8 v9 (tf0_0 ha0).1) rfl rfl dX0_rectify_83 rfl rfl (fun v10 => ?_)
      refine x_istore F dX0_rectify_86 (by decide) rfl rfl (fun v11 => ?_)
      show Y cx x _ _ _ _ [(0, vR a0), (1, vI a1), (2, vI a2), (4, vI v8), (5, vI v11)] _ _ _
      refine x_iconst F dX0_rectify_88 ⟨by decide, by decide⟩ rfl ?_
      refine x_istore F dX0_rectify_89 (by decide) rfl rfl (fun v12 => ?_)
      show Y cx x _ _ _ _ [(0, vR a0), (1, vI a1), (2, vI a2), (4, vI v8), (5, vI v11), (6, vI v12)] _ _ _
      refine x_lp (fun (rc15 : Int → Hp → RT) => ∀ (v13 : Int) (G14 : Hp), Y cx x 7 none 129 91 [(0, vR a0), (1, vI a1), (2, vI a2), (4, vI v8), (5, vI v11), (6, vI v13)] [] G14 (rc15 v13 G14)) (fun _ _ => Y_none) (fun rc15 hrc15 v13 G14 => ?_) 5000 v12 G5
      refine x_iload F dX0_rectify_91 rfl rfl ?_
      refine x_aload_n F dX0_rectify_93 rfl rfl rfl ?_
      refine x_getR F flX0_9 ha0 rfl dX0_rectify_94 rfl ?_
      refine s_getI F flX0_142 (tf0_0 ha0).1 rfl dX0_rectify_97 rfl ?_
      refine x_icmpge (pt := 156) F dX0_rectify_100 rfl rfl ?_ ?_
      · refine x_aload_n F dX0_rectify_103 rfl rfl rfl ?_
        refine x_getR F flX0_15 ha0 rfl dX0_rectify_104 rfl ?_
        refine x_iload F dX0_rectify_107 rfl rfl ?_
        refine s_callVP F [vI v13] [] lkX0_145 mX6_holderOf rfl (tf0_1 ha0).1 rfl hnE hn0 hd pX6_holderOf (tX6_holderOf cx.l x hi G14 ((rf a0 1)) v13 (tf0_1 ha0).1) rfl rfl dX0_rectify_109 rfl rfl (fun v16 => ?_)
        refine x_iload_n F dX0_rectify_112 rfl rfl rfl ?_
        refine x_jn (fun (K18 : Hp → RT) => ∀ (G17 : Hp), Y cx x 7 none 129 150 [(0, vR a0), (1, vI a1), (2, vI a2), (4, vI v8), (5, vI v11), (6, vI v13)] [] G17 (K18 G17)) ?_ (fun K18 hK18 => ?_)
        · intro G17
          refine x_iinc F dX0_rectify_150 rfl (by decide) rfl rfl (fun v19 => ?_)
          show Y cx x _ _ _ _ [(0, vR a0), (1, vI a1), (2, vI a2), (4, vI v8), (5, vI v11), (6, vI v19)] _ _ _
          refine x_goto (pc' := 91) F dX0_rectify_153 rfl ?_
          exact hrc15 v19 G17
        · refine x_icmpne (pt := 150) F dX0_rectify_113 rfl rfl ?_ ?_
          · refine x_aload_n F dX0_rectify_116 rfl rfl rfl ?_
            refine x_getR F flX0_9 ha0 rfl dX0_rectify_117 rfl ?_
            refine x_iload F dX0_rectify_120 rfl rfl ?_
            refine x_aload_n F dX0_rectify_122 rfl rfl rfl ?_
            refine x_getR F flX0_9 ha0 rfl dX0_rectify_123 rfl ?_
            refine x_getR F flX0_148 (tf0_0 ha0).1 rfl dX0_rectify_126 rfl ?_
            refine x_iload F dX0_rectify_129 rfl rfl ?_
            refine s_iald F (tf8_8 (tf0_0 ha0).1).1 (tf8_8 (tf0_0 ha0).1).2 dX0_rectify_131 rfl (fun v20 => ?_)
            refine s_callVP F [vI v8, vI v20] [] lkX0_139 mX8_way rfl (tf0_0 ha0).1 rfl hnE hn0 hd pX8_way (tX8_way cx.l x hi G14 ((rf a0 0)) v8 v20 (tf0_0 ha0).1) rfl rfl dX0_rectify_132 rfl rfl (fun v21 => ?_)
            refine x_iload F dX0_rectify_135 rfl rfl ?_
            refine x_icmple (pt := 150) F dX0_rectify_137 rfl rfl ?_ ?_
            · refine x_aload_n F dX0_rectify_140 rfl rfl rfl ?_
              refine x_getR F flX0_15 ha0 rfl dX0_rectify_141 rfl ?_
              refine x_iload F dX0_rectify_144 rfl rfl ?_
              refine x_iload_n F dX0_rectify_146 rfl rfl rfl ?_
              refine s_callVv F [vI v13, vI a2] [] lkX0_151 mX6_setHolder rfl (tf0_1 ha0).1 rfl hnE hn0 hd (tX6_setHolder cx.l x hi G14 ((rf a0 1)) v13 a2 (tf0_1 ha0).1) rfl rfl dX0_rectify_147 rfl rfl (fun _ G22 => ?_)
              exact hK18 G22
            · exact hK18 G14
          · exact hK18 G14
      · exact x_vret F hnE hQ dX0_rectify_156
  · refine x_ifeq (pt := 34) F dX0_rectify_17 rfl rfl ?_ ?_
    · refine x_dp (L' := [(0, vR a0), (1, vI a1), (2, vI a2)]) [0, 1, 2] rfl ?_
      exact hK4
    · refine x_aload_n F dX0_rectify_20 rfl rfl rfl ?_
      refine x_getR F flX0_9 ha0 rfl dX0_rectify_21 rfl ?_
      refine x_iload_n F dX0_rectify_24 rfl rfl rfl ?_
      refine x_iload_n F dX0_rectify_25 rfl rfl rfl ?_
      refine x_iload_n F dX0_rectify_26 rfl rfl rfl ?_
      refine s_callVP F [vI a2, vI v2, vI a1] [] lkX0_115 mX8_isBetween rfl (tf0_0 ha0).1 rfl hnE hn0 hd pX8_isBetween (tX8_isBetween cx.l x hi G ((rf a0 0)) a2 v2 a1 (tf0_0 ha0).1) rfl rfl dX0_rectify_27 rfl rfl (fun v25 => ?_)
      refine x_ifne (pt := 34) F dX0_rectify_30 rfl rfl ?_ ?_
      · exact x_vret F hnE hQ dX0_rectify_33
      · refine x_dp (L' := [(0, vR a0), (1, vI a1), (2, vI a2)]) [0, 1, 2] rfl ?_
        exact hK4
theorem dX0_doFlush_0 : decode cX0_doFlush 0 = .ok (.aload_n 0, 1) := by decide +kernel
theorem dX0_doFlush_1 : decode cX0_doFlush 1 = .ok (.getfield 15, 3) := by decide +kernel
theorem dX0_doFlush_4 : decode cX0_doFlush 4 = .ok (.iload_n 1, 1) := by decide +kernel
theorem dX0_doFlush_5 : decode cX0_doFlush 5 = .ok (.invokevirtual 77, 3) := by decide +kernel
theorem dX0_doFlush_8 : decode cX0_doFlush 8 = .ok (.ifCond .ne 5, 3) := by decide +kernel
theorem dX0_doFlush_11 : decode cX0_doFlush 11 = .ok (.iconst (-1), 1) := by decide +kernel
theorem dX0_doFlush_12 : decode cX0_doFlush 12 = .ok (.ireturn, 1) := by decide +kernel
theorem dX0_doFlush_13 : decode cX0_doFlush 13 = .ok (.aload_n 0, 1) := by decide +kernel
theorem dX0_doFlush_14 : decode cX0_doFlush 14 = .ok (.iload_n 1, 1) := by decide +kernel
theorem dX0_doFlush_15 : decode cX0_doFlush 15 = .ok (.invokevirtual 154, 3) := by decide +kernel
theorem dX0_doFlush_18 : decode cX0_doFlush 18 = .ok (.istore_n 2, 1) := by decide +kernel
theorem dX0_doFlush_19 : decode cX0_doFlush 19 = .ok (.iconst 0, 1) := by decide +kernel
theorem dX0_doFlush_20 : decode cX0_doFlush 20 = .ok (.istore_n 3, 1) := by decide +kernel
theorem dX0_doFlush_21 : decode cX0_doFlush 21 = .ok (.iload_n 3, 1) := by decide +kernel
theorem dX0_doFlush_22 : decode cX0_doFlush 22 = .ok (.bipush 8, 2) := by decide +kernel
theorem dX0_doFlush_24 : decode cX0_doFlush 24 = .ok (.if_icmp .ge 51, 3) := by decide +kernel
theorem dX0_doFlush_27 : decode cX0_doFlush 27 = .ok (.aload_n 0, 1) := by decide +kernel
theorem dX0_doFlush_28 : decode cX0_doFlush 28 = .ok (.getfield 15, 3) := by decide +kernel
theorem dX0_doFlush_31 : decode cX0_doFlush 31 = .ok (.iload_n 1, 1) := by decide +kernel
theorem dX0_doFlush_32 : decode cX0_doFlush 32 = .ok (.iload_n 3, 1) := by decide +kernel
theorem dX0_doFlush_33 : decode cX0_doFlush 33 = .ok (.invokevirtual 157, 3) := by decide +kernel
theorem dX0_doFlush_36 : decode cX0_doFlush 36 = .ok (.istore 4, 2) := by decide +kernel
theorem dX0_doFlush_38 : decode cX0_doFlush 38 = .ok (.iload 4, 2) := by decide +kernel
theorem dX0_doFlush_40 : decode cX0_doFlush 40 = .ok (.iconst (-1), 1) := by decide +kernel
theorem dX0_doFlush_41 : decode cX0_doFlush 41 = .ok (.if_icmp .eq 28, 3) := by decide +kernel
theorem dX0_doFlush_44 : decode cX0_doFlush 44 = .ok (.aload_n 0, 1) := by decide +kernel
theorem dX0_doFlush_45 : decode cX0_doFlush 45 = .ok (.getfield 15, 3) := by decide +kernel
theorem dX0_doFlush_48 : decode cX0_doFlush 48 = .ok (.iload 4, 2) := by decide +kernel
theorem dX0_doFlush_50 : decode cX0_doFlush 50 = .ok (.invokevirtual 77, 3) := by decide +kernel
theorem dX0_doFlush_53 : decode cX0_doFlush 53 = .ok (.ifCond .ne 16, 3) := by decide +kernel
theorem dX0_doFlush_56 : decode cX0_doFlush 56 = .ok (.aload_n 0, 1) := by decide +kernel
theorem dX0_doFlush_57 : decode cX0_doFlush 57 = .ok (.getfield 15, 3) := by decide +kernel
theorem dX0_doFlush_60 : decode cX0_doFlush 60 = .ok (.iload_n 1, 1) := by decide +kernel
theorem dX0_doFlush_61 : decode cX0_doFlush 61 = .ok (.iload_n 3, 1) := by decide +kernel
theorem dX0_doFlush_62 : decode cX0_doFlush 62 = .ok (.iconst (-1), 1) := by decide +kernel
theorem dX0_doFlush_63 : decode cX0_doFlush 63 = .ok (.invokevirtual 160, 3) := by decide +kernel
theorem dX0_doFlush_66 : decode cX0_doFlush 66 = .ok (.iinc 2 1, 3) := by decide +kernel
theorem dX0_doFlush_69 : decode cX0_doFlush 69 = .ok (.iinc 3 1, 3) := by decide +kernel
theorem dX0_doFlush_72 : decode cX0_doFlush 72 = .ok (.goto (-51), 3) := by decide +kernel
theorem dX0_doFlush_75 : decode cX0_doFlush 75 = .ok (.aload_n 0, 1) := by decide +kernel
theorem dX0_doFlush_76 : decode cX0_doFlush 76 = .ok (.getfield 15, 3) := by decide +kernel
theorem dX0_doFlush_79 : decode cX0_doFlush 79 = .ok (.aload_n 0, 1) := by decide +kernel
theorem dX0_doFlush_80 : decode cX0_doFlush 80 = .ok (.getfield 15, 3) := by decide +kernel
theorem dX0_doFlush_83 : decode cX0_doFlush 83 = .ok (.iload_n 1, 1) := by decide +kernel
theorem dX0_doFlush_84 : decode cX0_doFlush 84 = .ok (.invokevirtual 112, 3) := by decide +kernel
theorem dX0_doFlush_87 : decode cX0_doFlush 87 = .ok (.invokevirtual 77, 3) := by decide +kernel
theorem dX0_doFlush_90 : decode cX0_doFlush 90 = .ok (.ifCond .ne 12, 3) := by decide +kernel
theorem dX0_doFlush_93 : decode cX0_doFlush 93 = .ok (.aload_n 0, 1) := by decide +kernel
theorem dX0_doFlush_94 : decode cX0_doFlush 94 = .ok (.getfield 15, 3) := by decide +kernel
theorem dX0_doFlush_97 : decode cX0_doFlush 97 = .ok (.iload_n 1, 1) := by decide +kernel
theorem dX0_doFlush_98 : decode cX0_doFlush 98 = .ok (.iconst (-1), 1) := by decide +kernel
theorem dX0_doFlush_99 : decode cX0_doFlush 99 = .ok (.invokevirtual 133, 3) := by decide +kernel
theorem dX0_doFlush_102 : decode cX0_doFlush 102 = .ok (.iload_n 2, 1) := by decide +kernel
theorem dX0_doFlush_103 : decode cX0_doFlush 103 = .ok (.ireturn, 1) := by decide +kernel
def fX0_doFlush (a0 : Nat) (a1 : Int) (G : Hp) : RT := bp (fX6_isIn ((rf a0 1)) a1 G) fun v1 => if v1 = 0 then (rt ((-1)) G) else (bn (fX0_flushList a0 a1 G) fun v2 G3 => bd v2 fun v4 => bd 0 fun v5 => (lp (fun (_ : Int) (_ : Int) (_ : Hp) => (none : RT)) 5000 (fun (rc9 : Int → Int → Hp → RT) (v6 : Int) (v7 : Int) (G8 : Hp) => if v7 < 8 then (bp (fX6_fingerAt ((rf a0 1)) a1 v7 G8) fun v14 => bd v14 fun v15 => jn (fun (v16 : Int) (G17 : Hp) => bd (iadd v7 1) fun v19 => rc9 v16 v19 G17) fun (K18 : Int → Hp → RT) => if v15 = ((-1)) then K18 v6 G8 else (bp (fX6_isIn ((rf a0 1)) v15 G8) fun v20 => if v20 = 0 then (bn (fX6_setFinger ((rf a0 1)) a1 v7 ((-1)) G8) fun _ G21 => bd (iadd v6 1) fun v22 => K18 v22 G21) else K18 v6 G8)) else (bp (fX6_aheadOf ((rf a0 1)) a1 G8) fun v10 => bp (fX6_isIn ((rf a0 1)) v10 G8) fun v11 => if v11 = 0 then (bn (fX6_setAhead ((rf a0 1)) a1 ((-1)) G8) fun _ G12 => rt v6 G12) else rt v6 G8))) v4 v5 G3)
set_option maxRecDepth 20000 in
set_option maxHeartbeats 4000000 in
theorem tX0_doFlush (l : Launch) (x : WX) (hi : Inj x.2.2) (G : Hp) (a0 : Nat) (a1 : Int) (ha0 : kd a0 = 0) : Ct l x yX0_doFlush cX0_doFlush 5 (some .int) 2 129 129 [vR a0, vI a1] G (fX0_doFlush a0 a1 G) := by
  refine ct_of (plainFor_of_name (by decide)) hi (Nat.le_refl _) (Nat.le_refl _) (Nat.le_of_ble_eq_true rfl) (fun cx F hd hn0 hnE hl hQ => ?_)
  subst hl
  have F : Fx cx x RX0 cX0_doFlush 5 (some .int) := F
  show Y cx x 5 (some .int) 129 0 [(0, vR a0), (1, vI a1)] [] G _
  unfold fX0_doFlush
  refine x_aload_n F dX0_doFlush_0 rfl rfl rfl ?_
  refine x_getR F flX0_15 ha0 rfl dX0_doFlush_1 rfl ?_
  refine x_iload_n F dX0_doFlush_4 rfl rfl rfl ?_
  refine s_callVP F [vI a1] [] lkX0_77 mX6_isIn rfl (tf0_1 ha0).1 rfl hnE hn0 hd pX6_isIn (tX6_isIn cx.l x hi G ((rf a0 1)) a1 (tf0_1 ha0).1) rfl rfl dX0_doFlush_5 rfl rfl (fun v1 => ?_)
  refine x_ifne (pt := 13) F dX0_doFlush_8 rfl rfl ?_ ?_
  · refine x_iconst F dX0_doFlush_11 ⟨by decide, by decide⟩ rfl ?_
    exact x_iret F hnE hQ dX0_doFlush_12
  · refine x_aload_n F dX0_doFlush_13 rfl rfl rfl ?_
    refine x_iload_n F dX0_doFlush_14 rfl rfl rfl ?_
    refine s_callV F [vI a1] [] lkX0_154 mX0_flushList rfl ha0 rfl hnE hn0 hd (tX0_flushList cx.l x hi G a0 a1 ha0) rfl rfl dX0_doFlush_15 rfl rfl (fun v2 G3 => ?_)
    refine x_istore_n F dX0_doFlush_18 rfl (by decide) rfl rfl (fun v4 => ?_)
    show Y cx x _ _ _ _ [(0, vR a0), (1, vI a1), (2, vI v4)] _ _ _
    refine x_iconst F dX0_doFlush_19 ⟨by decide, by decide⟩ rfl ?_
    refine x_istore_n F dX0_doFlush_20 rfl (by decide) rfl rfl (fun v5 => ?_)
    show Y cx x _ _ _ _ [(0, vR a0), (1, vI a1), (2, vI v4), (3, vI v5)] _ _ _
    refine x_lp (fun (rc9 : Int → Int → Hp → RT) => ∀ (v6 : Int) (v7 : Int) (G8 : Hp), Y cx x 5 (some .int) 129 21 [(0, vR a0), (1, vI a1), (2, vI v6), (3, vI v7)] [] G8 (rc9 v6 v7 G8)) (fun _ _ _ => Y_none) (fun rc9 hrc9 v6 v7 G8 => ?_) 5000 v4 v5 G3
    refine x_iload_n F dX0_doFlush_21 rfl rfl rfl ?_
    refine x_bipush F dX0_doFlush_22 ⟨by decide, by decide⟩ (by decide) rfl ?_
    refine x_icmpge (pt := 75) F dX0_doFlush_24 rfl rfl ?_ ?_
    · refine x_aload_n F dX0_doFlush_27 rfl rfl rfl ?_
      refine x_getR F flX0_15 ha0 rfl dX0_doFlush_28 rfl ?_
      refine x_iload_n F dX0_doFlush_31 rfl rfl rfl ?_
      refine x_iload_n F dX0_doFlush_32 rfl rfl rfl ?_
      refine s_callVP F [vI a1, vI v7] [] lkX0_157 mX6_fingerAt rfl (tf0_1 ha0).1 rfl hnE hn0 hd pX6_fingerAt (tX6_fingerAt cx.l x hi G8 ((rf a0 1)) a1 v7 (tf0_1 ha0).1) rfl rfl dX0_doFlush_33 rfl rfl (fun v14 => ?_)
      refine x_istore F dX0_doFlush_36 (by decide) rfl rfl (fun v15 => ?_)
      show Y cx x _ _ _ _ [(0, vR a0), (1, vI a1), (2, vI v6), (3, vI v7), (4, vI v15)] _ _ _
      refine x_iload F dX0_doFlush_38 rfl rfl ?_
      refine x_iconst F dX0_doFlush_40 ⟨by decide, by decide⟩ rfl ?_
      refine x_jn (fun (K18 : Int → Hp → RT) => ∀ (v16 : Int) (G17 : Hp), Y cx x 5 (some .int) 129 69 [(0, vR a0), (1, vI a1), (2, vI v16), (3, vI v7)] [] G17 (K18 v16 G17)) ?_ (fun K18 hK18 => ?_)
      · intro v16 G17
        refine x_iinc F dX0_doFlush_69 rfl (by decide) rfl rfl (fun v19 => ?_)
        show Y cx x _ _ _ _ [(0, vR a0), (1, vI a1), (2, vI v16), (3, vI v19)] _ _ _
        refine x_goto (pc' := 21) F dX0_doFlush_72 rfl ?_
        exact hrc9 v16 v19 G17
      · refine x_icmpeq (pt := 69) F dX0_doFlush_41 rfl rfl ?_ ?_
        · refine x_dp (L' := [(0, vR a0), (1, vI a1), (2, vI v6), (3, vI v7)]) [0, 1, 2, 3] rfl ?_
          exact hK18 v6 G8
        · refine x_aload_n F dX0_doFlush_44 rfl rfl rfl ?_
          refine x_getR F flX0_15 ha0 rfl dX0_doFlush_45 rfl ?_
          refine x_iload F dX0_doFlush_48 rfl rfl ?_
          refine s_callVP F [vI v15] [] lkX0_77 mX6_isIn rfl (tf0_1 ha0).1 rfl hnE hn0 hd pX6_isIn (tX6_isIn cx.l x hi G8 ((rf a0 1)) v15 (tf0_1 ha0).1) rfl rfl dX0_doFlush_50 rfl rfl (fun v20 => ?_)
          refine x_ifne (pt := 69) F dX0_doFlush_53 rfl rfl ?_ ?_
          · refine x_aload_n F dX0_doFlush_56 rfl rfl rfl ?_
            refine x_getR F flX0_15 ha0 rfl dX0_doFlush_57 rfl ?_
            refine x_iload_n F dX0_doFlush_60 rfl rfl rfl ?_
            refine x_iload_n F dX0_doFlush_61 rfl rfl rfl ?_
            refine x_iconst F dX0_doFlush_62 ⟨by decide, by decide⟩ rfl ?_
            refine s_callVv F [vI a1, vI v7, vI ((-1))] [] lkX0_160 mX6_setFinger rfl (tf0_1 ha0).1 rfl hnE hn0 hd (tX6_setFinger cx.l x hi G8 ((rf a0 1)) a1 v7 ((-1)) (tf0_1 ha0).1) rfl rfl dX0_doFlush_63 rfl rfl (fun _ G21 => ?_)
            refine x_iinc F dX0_doFlush_66 rfl (by decide) rfl rfl (fun v22 => ?_)
            show Y cx x _ _ _ _ [(0, vR a0), (1, vI a1), (2, vI v22), (3, vI v7), (4, vI v15)] _ _ _
            refine x_dp (L' := [(0, vR a0), (1, vI a1), (2, vI v22), (3, vI v7)]) [0, 1, 2, 3] rfl ?_
            exact hK18 v22 G21
          · refine x_dp (L' := [(0, vR a0), (1, vI a1), (2, vI v6), (3, vI v7)]) [0, 1, 2, 3] rfl ?_
            exact hK18 v6 G8
    · refine x_aload_n F dX0_doFlush_75 rfl rfl rfl ?_
      refine x_getR F flX0_15 ha0 rfl dX0_doFlush_76 rfl ?_
      refine x_aload_n F dX0_doFlush_79 rfl rfl rfl ?_
      refine x_getR F flX0_15 ha0 rfl dX0_doFlush_80 rfl ?_
      refine x_iload_n F dX0_doFlush_83 rfl rfl rfl ?_
      refine s_callVP F [vI a1] [vR ((rf a0 1))] lkX0_112 mX6_aheadOf rfl (tf0_1 ha0).1 rfl hnE hn0 hd pX6_aheadOf (tX6_aheadOf cx.l x hi G8 ((rf a0 1)) a1 (tf0_1 ha0).1) rfl rfl dX0_doFlush_84 rfl rfl (fun v10 => ?_)
      refine s_callVP F [vI v10] [] lkX0_77 mX6_isIn rfl (tf0_1 ha0).1 rfl hnE hn0 hd pX6_isIn (tX6_isIn cx.l x hi G8 ((rf a0 1)) v10 (tf0_1 ha0).1) rfl rfl dX0_doFlush_87 rfl rfl (fun v11 => ?_)
      refine x_ifne (pt := 102) F dX0_doFlush_90 rfl rfl ?_ ?_
      · refine x_aload_n F dX0_doFlush_93 rfl rfl rfl ?_
        refine x_getR F flX0_15 ha0 rfl dX0_doFlush_94 rfl ?_
        refine x_iload_n F dX0_doFlush_97 rfl rfl rfl ?_
        refine x_iconst F dX0_doFlush_98 ⟨by decide, by decide⟩ rfl ?_
        refine s_callVv F [vI a1, vI ((-1))] [] lkX0_133 mX6_setAhead rfl (tf0_1 ha0).1 rfl hnE hn0 hd (tX6_setAhead cx.l x hi G8 ((rf a0 1)) a1 ((-1)) (tf0_1 ha0).1) rfl rfl dX0_doFlush_99 rfl rfl (fun _ G12 => ?_)
        refine x_iload_n F dX0_doFlush_102 rfl rfl rfl ?_
        exact x_iret F hnE hQ dX0_doFlush_103
      · refine x_iload_n F dX0_doFlush_102 rfl rfl rfl ?_
        exact x_iret F hnE hQ dX0_doFlush_103
theorem dX0_doJoin_0 : decode cX0_doJoin 0 = .ok (.aload_n 0, 1) := by decide +kernel
theorem dX0_doJoin_1 : decode cX0_doJoin 1 = .ok (.getfield 9, 3) := by decide +kernel
theorem dX0_doJoin_4 : decode cX0_doJoin 4 = .ok (.iload_n 1, 1) := by decide +kernel
theorem dX0_doJoin_5 : decode cX0_doJoin 5 = .ok (.invokevirtual 58, 3) := by decide +kernel
theorem dX0_doJoin_8 : decode cX0_doJoin 8 = .ok (.ifCond .eq 34, 3) := by decide +kernel
theorem dX0_doJoin_11 : decode cX0_doJoin 11 = .ok (.aload_n 0, 1) := by decide +kernel
theorem dX0_doJoin_12 : decode cX0_doJoin 12 = .ok (.getfield 15, 3) := by decide +kernel
theorem dX0_doJoin_15 : decode cX0_doJoin 15 = .ok (.iload_n 1, 1) := by decide +kernel
theorem dX0_doJoin_16 : decode cX0_doJoin 16 = .ok (.invokevirtual 77, 3) := by decide +kernel
theorem dX0_doJoin_19 : decode cX0_doJoin 19 = .ok (.ifCond .ne 23, 3) := by decide +kernel
theorem dX0_doJoin_22 : decode cX0_doJoin 22 = .ok (.aload_n 0, 1) := by decide +kernel
theorem dX0_doJoin_23 : decode cX0_doJoin 23 = .ok (.getfield 19, 3) := by decide +kernel
theorem dX0_doJoin_26 : decode cX0_doJoin 26 = .ok (.iload_n 2, 1) := by decide +kernel
theorem dX0_doJoin_27 : decode cX0_doJoin 27 = .ok (.aload_n 0, 1) := by decide +kernel
theorem dX0_doJoin_28 : decode cX0_doJoin 28 = .ok (.getfield 9, 3) := by decide +kernel
theorem dX0_doJoin_31 : decode cX0_doJoin 31 = .ok (.getfield 80, 3) := by decide +kernel
theorem dX0_doJoin_34 : decode cX0_doJoin 34 = .ok (.iload_n 1, 1) := by decide +kernel
theorem dX0_doJoin_35 : decode cX0_doJoin 35 = .ok (.iaload, 1) := by decide +kernel
theorem dX0_doJoin_36 : decode cX0_doJoin 36 = .ok (.invokevirtual 83, 3) := by decide +kernel
theorem dX0_doJoin_39 : decode cX0_doJoin 39 = .ok (.ifCond .ne 5, 3) := by decide +kernel
theorem dX0_doJoin_42 : decode cX0_doJoin 42 = .ok (.iconst 0, 1) := by decide +kernel
theorem dX0_doJoin_43 : decode cX0_doJoin 43 = .ok (.ireturn, 1) := by decide +kernel
theorem dX0_doJoin_44 : decode cX0_doJoin 44 = .ok (.aload_n 0, 1) := by decide +kernel
theorem dX0_doJoin_45 : decode cX0_doJoin 45 = .ok (.iload_n 1, 1) := by decide +kernel
theorem dX0_doJoin_46 : decode cX0_doJoin 46 = .ok (.aload_n 0, 1) := by decide +kernel
theorem dX0_doJoin_47 : decode cX0_doJoin 47 = .ok (.getfield 19, 3) := by decide +kernel
theorem dX0_doJoin_50 : decode cX0_doJoin 50 = .ok (.getfield 88, 3) := by decide +kernel
theorem dX0_doJoin_53 : decode cX0_doJoin 53 = .ok (.invokevirtual 91, 3) := by decide +kernel
theorem dX0_doJoin_56 : decode cX0_doJoin 56 = .ok (.aload_n 0, 1) := by decide +kernel
theorem dX0_doJoin_57 : decode cX0_doJoin 57 = .ok (.getfield 15, 3) := by decide +kernel
theorem dX0_doJoin_60 : decode cX0_doJoin 60 = .ok (.iload_n 1, 1) := by decide +kernel
theorem dX0_doJoin_61 : decode cX0_doJoin 61 = .ok (.invokevirtual 69, 3) := by decide +kernel
theorem dX0_doJoin_64 : decode cX0_doJoin 64 = .ok (.iconst 1, 1) := by decide +kernel
theorem dX0_doJoin_65 : decode cX0_doJoin 65 = .ok (.ireturn, 1) := by decide +kernel
def fX0_doJoin (a0 : Nat) (a1 : Int) (a2 : Int) (G : Hp) : RT := bp (fX8_isNode ((rf a0 0)) a1 G) fun v1 => if v1 = 0 then rz 0 G else (bp (fX6_isIn ((rf a0 1)) a1 G) fun v2 => if v2 = 0 then (br (rd G ((rf ((rf a0 0)) 5)) 8 a1) fun v3 => bn (fX1_seek ((rf a0 2)) a2 v3 G) fun v4 G5 => if v4 = 0 then rz 0 G5 else (bn (fX0_setListBy a0 a1 (G5 ((rf a0 2)) 3) G5) fun _ G6 => bn (fX6_enter ((rf a0 1)) a1 G6) fun _ G7 => rz 1 G7)) else rz 0 G)
set_option maxRecDepth 20000 in
set_option maxHeartbeats 4000000 in
theorem tX0_doJoin (l : Launch) (x : WX) (hi : Inj x.2.2) (G : Hp) (a0 : Nat) (a1 : Int) (a2 : Int) (ha0 : kd a0 = 0) : Ct l x yX0_doJoin cX0_doJoin 3 (some .boolean) 3 129 129 [vR a0, vI a1, vI a2] G (fX0_doJoin a0 a1 a2 G) := by
  refine ct_of (plainFor_of_name (by decide)) hi (Nat.le_refl _) (Nat.le_refl _) (Nat.le_of_ble_eq_true rfl) (fun cx F hd hn0 hnE hl hQ => ?_)
  subst hl
  have F : Fx cx x RX0 cX0_doJoin 3 (some .boolean) := F
  show Y cx x 3 (some .boolean) 129 0 [(0, vR a0), (1, vI a1), (2, vI a2)] [] G _
  unfold fX0_doJoin
  refine x_aload_n F dX0_doJoin_0 rfl rfl rfl ?_
  refine x_getR F flX0_9 ha0 rfl dX0_doJoin_1 rfl ?_
  refine x_iload_n F dX0_doJoin_4 rfl rfl rfl ?_
  refine s_callVP F [vI a1] [] lkX0_58 mX8_isNode rfl (tf0_0 ha0).1 rfl hnE hn0 hd pX8_isNode (tX8_isNode cx.l x hi G ((rf a0 0)) a1 (tf0_0 ha0).1) rfl rfl dX0_doJoin_5 rfl rfl (fun v1 => ?_)
  refine x_ifeq (pt := 42) F dX0_doJoin_8 rfl rfl ?_ ?_
  · refine x_iconst F dX0_doJoin_42 ⟨by decide, by decide⟩ rfl ?_
    exact x_zret F hnE hQ dX0_doJoin_43
  · refine x_aload_n F dX0_doJoin_11 rfl rfl rfl ?_
    refine x_getR F flX0_15 ha0 rfl dX0_doJoin_12 rfl ?_
    refine x_iload_n F dX0_doJoin_15 rfl rfl rfl ?_
    refine s_callVP F [vI a1] [] lkX0_77 mX6_isIn rfl (tf0_1 ha0).1 rfl hnE hn0 hd pX6_isIn (tX6_isIn cx.l x hi G ((rf a0 1)) a1 (tf0_1 ha0).1) rfl rfl dX0_doJoin_16 rfl rfl (fun v2 => ?_)
    refine x_ifne (pt := 42) F dX0_doJoin_19 rfl rfl ?_ ?_
    · refine x_aload_n F dX0_doJoin_22 rfl rfl rfl ?_
      refine x_getR F flX0_19 ha0 rfl dX0_doJoin_23 rfl ?_
      refine x_iload_n F dX0_doJoin_26 rfl rfl rfl ?_
      refine x_aload_n F dX0_doJoin_27 rfl rfl rfl ?_
      refine x_getR F flX0_9 ha0 rfl dX0_doJoin_28 rfl ?_
      refine x_getR F flX0_80 (tf0_0 ha0).1 rfl dX0_doJoin_31 rfl ?_
      refine x_iload_n F dX0_doJoin_34 rfl rfl rfl ?_
      refine s_iald F (tf8_5 (tf0_0 ha0).1).1 (tf8_5 (tf0_0 ha0).1).2 dX0_doJoin_35 rfl (fun v3 => ?_)
      refine s_callV F [vI a2, vI v3] [] lkX0_83 mX1_seek rfl (tf0_2 ha0).1 rfl hnE hn0 hd (tX1_seek cx.l x hi G ((rf a0 2)) a2 v3 (tf0_2 ha0).1) rfl rfl dX0_doJoin_36 rfl rfl (fun v4 G5 => ?_)
      refine x_ifne (pt := 44) F dX0_doJoin_39 rfl rfl ?_ ?_
      · refine x_iconst F dX0_doJoin_42 ⟨by decide, by decide⟩ rfl ?_
        exact x_zret F hnE hQ dX0_doJoin_43
      · refine x_aload_n F dX0_doJoin_44 rfl rfl rfl ?_
        refine x_iload_n F dX0_doJoin_45 rfl rfl rfl ?_
        refine x_aload_n F dX0_doJoin_46 rfl rfl rfl ?_
        refine x_getR F flX0_19 ha0 rfl dX0_doJoin_47 rfl ?_
        refine s_getI F flX0_88 (tf0_2 ha0).1 rfl dX0_doJoin_50 rfl ?_
        refine s_callVv F [vI a1, vI (G5 ((rf a0 2)) 3)] [] lkX0_91 mX0_setListBy rfl ha0 rfl hnE hn0 hd (tX0_setListBy cx.l x hi G5 a0 a1 (G5 ((rf a0 2)) 3) ha0) rfl rfl dX0_doJoin_53 rfl rfl (fun _ G6 => ?_)
        refine x_aload_n F dX0_doJoin_56 rfl rfl rfl ?_
        refine x_getR F flX0_15 ha0 rfl dX0_doJoin_57 rfl ?_
        refine x_iload_n F dX0_doJoin_60 rfl rfl rfl ?_
        refine s_callVv F [vI a1] [] lkX0_69 mX6_enter rfl (tf0_1 ha0).1 rfl hnE hn0 hd (tX6_enter cx.l x hi G6 ((rf a0 1)) a1 (tf0_1 ha0).1) rfl rfl dX0_doJoin_61 rfl rfl (fun _ G7 => ?_)
        refine x_iconst F dX0_doJoin_64 ⟨by decide, by decide⟩ rfl ?_
        exact x_zret F hnE hQ dX0_doJoin_65
    · refine x_iconst F dX0_doJoin_42 ⟨by decide, by decide⟩ rfl ?_
      exact x_zret F hnE hQ dX0_doJoin_43
theorem dX0_doTidy_0 : decode cX0_doTidy 0 = .ok (.aload_n 0, 1) := by decide +kernel
theorem dX0_doTidy_1 : decode cX0_doTidy 1 = .ok (.getfield 15, 3) := by decide +kernel
theorem dX0_doTidy_4 : decode cX0_doTidy 4 = .ok (.iload_n 1, 1) := by decide +kernel
theorem dX0_doTidy_5 : decode cX0_doTidy 5 = .ok (.invokevirtual 77, 3) := by decide +kernel
theorem dX0_doTidy_8 : decode cX0_doTidy 8 = .ok (.ifCond .ne 5, 3) := by decide +kernel
theorem dX0_doTidy_11 : decode cX0_doTidy 11 = .ok (.iconst (-1), 1) := by decide +kernel
theorem dX0_doTidy_12 : decode cX0_doTidy 12 = .ok (.ireturn, 1) := by decide +kernel
theorem dX0_doTidy_13 : decode cX0_doTidy 13 = .ok (.aload_n 0, 1) := by decide +kernel
theorem dX0_doTidy_14 : decode cX0_doTidy 14 = .ok (.getfield 15, 3) := by decide +kernel
theorem dX0_doTidy_17 : decode cX0_doTidy 17 = .ok (.iload_n 1, 1) := by decide +kernel
theorem dX0_doTidy_18 : decode cX0_doTidy 18 = .ok (.aload_n 0, 1) := by decide +kernel
theorem dX0_doTidy_19 : decode cX0_doTidy 19 = .ok (.getfield 15, 3) := by decide +kernel
theorem dX0_doTidy_22 : decode cX0_doTidy 22 = .ok (.getfield 63, 3) := by decide +kernel
theorem dX0_doTidy_25 : decode cX0_doTidy 25 = .ok (.invokevirtual 95, 3) := by decide +kernel
theorem dX0_doTidy_28 : decode cX0_doTidy 28 = .ok (.istore_n 2, 1) := by decide +kernel
theorem dX0_doTidy_29 : decode cX0_doTidy 29 = .ok (.iload_n 2, 1) := by decide +kernel
theorem dX0_doTidy_30 : decode cX0_doTidy 30 = .ok (.iconst (-1), 1) := by decide +kernel
theorem dX0_doTidy_31 : decode cX0_doTidy 31 = .ok (.if_icmp .ne 5, 3) := by decide +kernel
theorem dX0_doTidy_34 : decode cX0_doTidy 34 = .ok (.iconst (-1), 1) := by decide +kernel
theorem dX0_doTidy_35 : decode cX0_doTidy 35 = .ok (.ireturn, 1) := by decide +kernel
theorem dX0_doTidy_36 : decode cX0_doTidy 36 = .ok (.aload_n 0, 1) := by decide +kernel
theorem dX0_doTidy_37 : decode cX0_doTidy 37 = .ok (.getfield 15, 3) := by decide +kernel
theorem dX0_doTidy_40 : decode cX0_doTidy 40 = .ok (.iload_n 2, 1) := by decide +kernel
theorem dX0_doTidy_41 : decode cX0_doTidy 41 = .ok (.invokevirtual 112, 3) := by decide +kernel
theorem dX0_doTidy_44 : decode cX0_doTidy 44 = .ok (.istore_n 3, 1) := by decide +kernel
theorem dX0_doTidy_45 : decode cX0_doTidy 45 = .ok (.aload_n 0, 1) := by decide +kernel
theorem dX0_doTidy_46 : decode cX0_doTidy 46 = .ok (.getfield 15, 3) := by decide +kernel
theorem dX0_doTidy_49 : decode cX0_doTidy 49 = .ok (.iload_n 3, 1) := by decide +kernel
theorem dX0_doTidy_50 : decode cX0_doTidy 50 = .ok (.invokevirtual 77, 3) := by decide +kernel
theorem dX0_doTidy_53 : decode cX0_doTidy 53 = .ok (.ifCond .eq 18, 3) := by decide +kernel
theorem dX0_doTidy_56 : decode cX0_doTidy 56 = .ok (.aload_n 0, 1) := by decide +kernel
theorem dX0_doTidy_57 : decode cX0_doTidy 57 = .ok (.getfield 9, 3) := by decide +kernel
theorem dX0_doTidy_60 : decode cX0_doTidy 60 = .ok (.iload_n 3, 1) := by decide +kernel
theorem dX0_doTidy_61 : decode cX0_doTidy 61 = .ok (.iload_n 1, 1) := by decide +kernel
theorem dX0_doTidy_62 : decode cX0_doTidy 62 = .ok (.iload_n 2, 1) := by decide +kernel
theorem dX0_doTidy_63 : decode cX0_doTidy 63 = .ok (.invokevirtual 115, 3) := by decide +kernel
theorem dX0_doTidy_66 : decode cX0_doTidy 66 = .ok (.ifCond .eq 5, 3) := by decide +kernel
theorem dX0_doTidy_69 : decode cX0_doTidy 69 = .ok (.iload_n 3, 1) := by decide +kernel
theorem dX0_doTidy_70 : decode cX0_doTidy 70 = .ok (.istore_n 2, 1) := by decide +kernel
theorem dX0_doTidy_71 : decode cX0_doTidy 71 = .ok (.aload_n 0, 1) := by decide +kernel
theorem dX0_doTidy_72 : decode cX0_doTidy 72 = .ok (.iload_n 1, 1) := by decide +kernel
theorem dX0_doTidy_73 : decode cX0_doTidy 73 = .ok (.iload_n 2, 1) := by decide +kernel
theorem dX0_doTidy_74 : decode cX0_doTidy 74 = .ok (.invokevirtual 91, 3) := by decide +kernel
theorem dX0_doTidy_77 : decode cX0_doTidy 77 = .ok (.iload_n 2, 1) := by decide +kernel
theorem dX0_doTidy_78 : decode cX0_doTidy 78 = .ok (.iload_n 1, 1) := by decide +kernel
theorem dX0_doTidy_79 : decode cX0_doTidy 79 = .ok (.if_icmp .eq 9, 3) := by decide +kernel
theorem dX0_doTidy_82 : decode cX0_doTidy 82 = .ok (.aload_n 0, 1) := by decide +kernel
theorem dX0_doTidy_83 : decode cX0_doTidy 83 = .ok (.iload_n 2, 1) := by decide +kernel
theorem dX0_doTidy_84 : decode cX0_doTidy 84 = .ok (.iload_n 1, 1) := by decide +kernel
theorem dX0_doTidy_85 : decode cX0_doTidy 85 = .ok (.invokevirtual 119, 3) := by decide +kernel
theorem dX0_doTidy_88 : decode cX0_doTidy 88 = .ok (.iload_n 2, 1) := by decide +kernel
theorem dX0_doTidy_89 : decode cX0_doTidy 89 = .ok (.ireturn, 1) := by decide +kernel
def fX0_doTidy (a0 : Nat) (a1 : Int) (G : Hp) : RT := bp (fX6_isIn ((rf a0 1)) a1 G) fun v1 => if v1 = 0 then (rt ((-1)) G) else (bp (fX6_firstOf ((rf a0 1)) a1 (G ((rf a0 1)) 1) G) fun v2 => bd v2 fun v3 => if v3 = ((-1)) then (rt ((-1)) G) else (bp (fX6_aheadOf ((rf a0 1)) v3 G) fun v4 => bd v4 fun v5 => bp (fX6_isIn ((rf a0 1)) v5 G) fun v6 => jn (fun (v7 : Int) => bn (fX0_setListBy a0 a1 v7 G) fun _ G9 => if v7 = a1 then rt v7 G9 else (bn (fX0_rectify a0 v7 a1 G9) fun _ G10 => rt v7 G10)) fun (K8 : Int → RT) => if v6 = 0 then K8 v3 else (bp (fX8_isBetween ((rf a0 0)) v5 a1 v3 G) fun v13 => if v13 = 0 then K8 v3 else (bd v5 fun v14 => K8 v14))))
set_option maxRecDepth 20000 in
set_option maxHeartbeats 4000000 in
theorem tX0_doTidy (l : Launch) (x : WX) (hi : Inj x.2.2) (G : Hp) (a0 : Nat) (a1 : Int) (ha0 : kd a0 = 0) : Ct l x yX0_doTidy cX0_doTidy 4 (some .int) 3 129 129 [vR a0, vI a1] G (fX0_doTidy a0 a1 G) := by
  refine ct_of (plainFor_of_name (by decide)) hi (Nat.le_refl _) (Nat.le_refl _) (Nat.le_of_ble_eq_true rfl) (fun cx F hd hn0 hnE hl hQ => ?_)
  subst hl
  have F : Fx cx x RX0 cX0_doTidy 4 (some .int) := F
  show Y cx x 4 (some .int) 129 0 [(0, vR a0), (1, vI a1)] [] G _
  unfold fX0_doTidy
  refine x_aload_n F dX0_doTidy_0 rfl rfl rfl ?_
  refine x_getR F flX0_15 ha0 rfl dX0_doTidy_1 rfl ?_
  refine x_iload_n F dX0_doTidy_4 rfl rfl rfl ?_
  refine s_callVP F [vI a1] [] lkX0_77 mX6_isIn rfl (tf0_1 ha0).1 rfl hnE hn0 hd pX6_isIn (tX6_isIn cx.l x hi G ((rf a0 1)) a1 (tf0_1 ha0).1) rfl rfl dX0_doTidy_5 rfl rfl (fun v1 => ?_)
  refine x_ifne (pt := 13) F dX0_doTidy_8 rfl rfl ?_ ?_
  · refine x_iconst F dX0_doTidy_11 ⟨by decide, by decide⟩ rfl ?_
    exact x_iret F hnE hQ dX0_doTidy_12
  · refine x_aload_n F dX0_doTidy_13 rfl rfl rfl ?_
    refine x_getR F flX0_15 ha0 rfl dX0_doTidy_14 rfl ?_
    refine x_iload_n F dX0_doTidy_17 rfl rfl rfl ?_
    refine x_aload_n F dX0_doTidy_18 rfl rfl rfl ?_
    refine x_getR F flX0_15 ha0 rfl dX0_doTidy_19 rfl ?_
    refine s_getI F flX0_63 (tf0_1 ha0).1 rfl dX0_doTidy_22 rfl ?_
    refine s_callVP F [vI a1, vI (G ((rf a0 1)) 1)] [] lkX0_95 mX6_firstOf rfl (tf0_1 ha0).1 rfl hnE hn0 hd pX6_firstOf (tX6_firstOf cx.l x hi G ((rf a0 1)) a1 (G ((rf a0 1)) 1) (tf0_1 ha0).1) rfl rfl dX0_doTidy_25 rfl rfl (fun v2 => ?_)
    refine x_istore_n F dX0_doTidy_28 rfl (by decide) rfl rfl (fun v3 => ?_)
    show Y cx x _ _ _ _ [(0, vR a0), (1, vI a1), (2, vI v3)] _ _ _
    refine x_iload_n F dX0_doTidy_29 rfl rfl rfl ?_
    refine x_iconst F dX0_doTidy_30 ⟨by decide, by decide⟩ rfl ?_
    refine x_icmpne (pt := 36) F dX0_doTidy_31 rfl rfl ?_ ?_
    · refine x_iconst F dX0_doTidy_34 ⟨by decide, by decide⟩ rfl ?_
      exact x_iret F hnE hQ dX0_doTidy_35
    · refine x_aload_n F dX0_doTidy_36 rfl rfl rfl ?_
      refine x_getR F flX0_15 ha0 rfl dX0_doTidy_37 rfl ?_
      refine x_iload_n F dX0_doTidy_40 rfl rfl rfl ?_
      refine s_callVP F [vI v3] [] lkX0_112 mX6_aheadOf rfl (tf0_1 ha0).1 rfl hnE hn0 hd pX6_aheadOf (tX6_aheadOf cx.l x hi G ((rf a0 1)) v3 (tf0_1 ha0).1) rfl rfl dX0_doTidy_41 rfl rfl (fun v4 => ?_)
      refine x_istore_n F dX0_doTidy_44 rfl (by decide) rfl rfl (fun v5 => ?_)
      show Y cx x _ _ _ _ [(0, vR a0), (1, vI a1), (2, vI v3), (3, vI v5)] _ _ _
      refine x_aload_n F dX0_doTidy_45 rfl rfl rfl ?_
      refine x_getR F flX0_15 ha0 rfl dX0_doTidy_46 rfl ?_
      refine x_iload_n F dX0_doTidy_49 rfl rfl rfl ?_
      refine s_callVP F [vI v5] [] lkX0_77 mX6_isIn rfl (tf0_1 ha0).1 rfl hnE hn0 hd pX6_isIn (tX6_isIn cx.l x hi G ((rf a0 1)) v5 (tf0_1 ha0).1) rfl rfl dX0_doTidy_50 rfl rfl (fun v6 => ?_)
      refine x_jn (fun (K8 : Int → RT) => ∀ (v7 : Int), Y cx x 4 (some .int) 129 71 [(0, vR a0), (1, vI a1), (2, vI v7)] [] G (K8 v7)) ?_ (fun K8 hK8 => ?_)
      · intro v7
        refine x_aload_n F dX0_doTidy_71 rfl rfl rfl ?_
        refine x_iload_n F dX0_doTidy_72 rfl rfl rfl ?_
        refine x_iload_n F dX0_doTidy_73 rfl rfl rfl ?_
        refine s_callVv F [vI a1, vI v7] [] lkX0_91 mX0_setListBy rfl ha0 rfl hnE hn0 hd (tX0_setListBy cx.l x hi G a0 a1 v7 ha0) rfl rfl dX0_doTidy_74 rfl rfl (fun _ G9 => ?_)
        refine x_iload_n F dX0_doTidy_77 rfl rfl rfl ?_
        refine x_iload_n F dX0_doTidy_78 rfl rfl rfl ?_
        refine x_icmpeq (pt := 88) F dX0_doTidy_79 rfl rfl ?_ ?_
        · refine x_iload_n F dX0_doTidy_88 rfl rfl rfl ?_
          exact x_iret F hnE hQ dX0_doTidy_89
        · refine x_aload_n F dX0_doTidy_82 rfl rfl rfl ?_
          refine x_iload_n F dX0_doTidy_83 rfl rfl rfl ?_
          refine x_iload_n F dX0_doTidy_84 rfl rfl rfl ?_
          refine s_callVv F [vI v7, vI a1] [] lkX0_119 mX0_rectify rfl ha0 rfl hnE hn0 hd (tX0_rectify cx.l x hi G9 a0 v7 a1 ha0) rfl rfl dX0_doTidy_85 rfl rfl (fun _ G10 => ?_)
          refine x_iload_n F dX0_doTidy_88 rfl rfl rfl ?_
          exact x_iret F hnE hQ dX0_doTidy_89
      · refine x_ifeq (pt := 71) F dX0_doTidy_53 rfl rfl ?_ ?_
        · refine x_dp (L' := [(0, vR a0), (1, vI a1), (2, vI v3)]) [0, 1, 2] rfl ?_
          exact hK8 v3
        · refine x_aload_n F dX0_doTidy_56 rfl rfl rfl ?_
          refine x_getR F flX0_9 ha0 rfl dX0_doTidy_57 rfl ?_
          refine x_iload_n F dX0_doTidy_60 rfl rfl rfl ?_
          refine x_iload_n F dX0_doTidy_61 rfl rfl rfl ?_
          refine x_iload_n F dX0_doTidy_62 rfl rfl rfl ?_
          refine s_callVP F [vI v5, vI a1, vI v3] [] lkX0_115 mX8_isBetween rfl (tf0_0 ha0).1 rfl hnE hn0 hd pX8_isBetween (tX8_isBetween cx.l x hi G ((rf a0 0)) v5 a1 v3 (tf0_0 ha0).1) rfl rfl dX0_doTidy_63 rfl rfl (fun v13 => ?_)
          refine x_ifeq (pt := 71) F dX0_doTidy_66 rfl rfl ?_ ?_
          · refine x_dp (L' := [(0, vR a0), (1, vI a1), (2, vI v3)]) [0, 1, 2] rfl ?_
            exact hK8 v3
          · refine x_iload_n F dX0_doTidy_69 rfl rfl rfl ?_
            refine x_dp (L' := [(0, vR a0), (1, vI a1), (2, vI v3)]) [0, 1, 2] rfl ?_
            refine x_istore_n F dX0_doTidy_70 rfl (by decide) rfl rfl (fun v14 => ?_)
            show Y cx x _ _ _ _ [(0, vR a0), (1, vI a1), (2, vI v14)] _ _ _
            exact hK8 v14
theorem dX0_doFix_0 : decode cX0_doFix 0 = .ok (.aload_n 0, 1) := by decide +kernel
theorem dX0_doFix_1 : decode cX0_doFix 1 = .ok (.getfield 15, 3) := by decide +kernel
theorem dX0_doFix_4 : decode cX0_doFix 4 = .ok (.iload_n 1, 1) := by decide +kernel
theorem dX0_doFix_5 : decode cX0_doFix 5 = .ok (.invokevirtual 77, 3) := by decide +kernel
theorem dX0_doFix_8 : decode cX0_doFix 8 = .ok (.ifCond .eq 26, 3) := by decide +kernel
theorem dX0_doFix_11 : decode cX0_doFix 11 = .ok (.aload_n 0, 1) := by decide +kernel
theorem dX0_doFix_12 : decode cX0_doFix 12 = .ok (.getfield 9, 3) := by decide +kernel
theorem dX0_doFix_15 : decode cX0_doFix 15 = .ok (.getfield 136, 3) := by decide +kernel
theorem dX0_doFix_18 : decode cX0_doFix 18 = .ok (.iload_n 1, 1) := by decide +kernel
theorem dX0_doFix_19 : decode cX0_doFix 19 = .ok (.iaload, 1) := by decide +kernel
theorem dX0_doFix_20 : decode cX0_doFix 20 = .ok (.iconst 3, 1) := by decide +kernel
theorem dX0_doFix_21 : decode cX0_doFix 21 = .ok (.if_icmp .eq 13, 3) := by decide +kernel
theorem dX0_doFix_24 : decode cX0_doFix 24 = .ok (.iload_n 2, 1) := by decide +kernel
theorem dX0_doFix_25 : decode cX0_doFix 25 = .ok (.ifCond .lt 9, 3) := by decide +kernel
theorem dX0_doFix_28 : decode cX0_doFix 28 = .ok (.iload_n 2, 1) := by decide +kernel
theorem dX0_doFix_29 : decode cX0_doFix 29 = .ok (.bipush 8, 2) := by decide +kernel
theorem dX0_doFix_31 : decode cX0_doFix 31 = .ok (.if_icmp .lt 5, 3) := by decide +kernel
theorem dX0_doFix_34 : decode cX0_doFix 34 = .ok (.iconst 0, 1) := by decide +kernel
theorem dX0_doFix_35 : decode cX0_doFix 35 = .ok (.ireturn, 1) := by decide +kernel
theorem dX0_doFix_36 : decode cX0_doFix 36 = .ok (.aload_n 0, 1) := by decide +kernel
theorem dX0_doFix_37 : decode cX0_doFix 37 = .ok (.getfield 9, 3) := by decide +kernel
theorem dX0_doFix_40 : decode cX0_doFix 40 = .ok (.iload_n 1, 1) := by decide +kernel
theorem dX0_doFix_41 : decode cX0_doFix 41 = .ok (.iload_n 2, 1) := by decide +kernel
theorem dX0_doFix_42 : decode cX0_doFix 42 = .ok (.invokevirtual 163, 3) := by decide +kernel
theorem dX0_doFix_45 : decode cX0_doFix 45 = .ok (.istore_n 3, 1) := by decide +kernel
theorem dX0_doFix_46 : decode cX0_doFix 46 = .ok (.iload_n 3, 1) := by decide +kernel
theorem dX0_doFix_47 : decode cX0_doFix 47 = .ok (.iconst (-1), 1) := by decide +kernel
theorem dX0_doFix_48 : decode cX0_doFix 48 = .ok (.if_icmp .ne 5, 3) := by decide +kernel
theorem dX0_doFix_51 : decode cX0_doFix 51 = .ok (.iconst 0, 1) := by decide +kernel
theorem dX0_doFix_52 : decode cX0_doFix 52 = .ok (.ireturn, 1) := by decide +kernel
theorem dX0_doFix_53 : decode cX0_doFix 53 = .ok (.aload_n 0, 1) := by decide +kernel
theorem dX0_doFix_54 : decode cX0_doFix 54 = .ok (.getfield 19, 3) := by decide +kernel
theorem dX0_doFix_57 : decode cX0_doFix 57 = .ok (.iload_n 1, 1) := by decide +kernel
theorem dX0_doFix_58 : decode cX0_doFix 58 = .ok (.iload_n 3, 1) := by decide +kernel
theorem dX0_doFix_59 : decode cX0_doFix 59 = .ok (.invokevirtual 83, 3) := by decide +kernel
theorem dX0_doFix_62 : decode cX0_doFix 62 = .ok (.pop, 1) := by decide +kernel
theorem dX0_doFix_63 : decode cX0_doFix 63 = .ok (.aload_n 0, 1) := by decide +kernel
theorem dX0_doFix_64 : decode cX0_doFix 64 = .ok (.getfield 15, 3) := by decide +kernel
theorem dX0_doFix_67 : decode cX0_doFix 67 = .ok (.iload_n 1, 1) := by decide +kernel
theorem dX0_doFix_68 : decode cX0_doFix 68 = .ok (.iload_n 2, 1) := by decide +kernel
theorem dX0_doFix_69 : decode cX0_doFix 69 = .ok (.aload_n 0, 1) := by decide +kernel
theorem dX0_doFix_70 : decode cX0_doFix 70 = .ok (.getfield 19, 3) := by decide +kernel
theorem dX0_doFix_73 : decode cX0_doFix 73 = .ok (.getfield 88, 3) := by decide +kernel
theorem dX0_doFix_76 : decode cX0_doFix 76 = .ok (.invokevirtual 160, 3) := by decide +kernel
theorem dX0_doFix_79 : decode cX0_doFix 79 = .ok (.iconst 1, 1) := by decide +kernel
theorem dX0_doFix_80 : decode cX0_doFix 80 = .ok (.ireturn, 1) := by decide +kernel
def fX0_doFix (a0 : Nat) (a1 : Int) (a2 : Int) (G : Hp) : RT := bp (fX6_isIn ((rf a0 1)) a1 G) fun v1 => if v1 = 0 then rz 0 G else (br (rd G ((rf ((rf a0 0)) 4)) 8 a1) fun v2 => if v2 = 3 then rz 0 G else (if a2 < 0 then rz 0 G else (if a2 < 8 then (bp (fX8_fingerPlace ((rf a0 0)) a1 a2 G) fun v3 => bd v3 fun v4 => if v4 = ((-1)) then rz 0 G else (bn (fX1_seek ((rf a0 2)) a1 v4 G) fun v5 G6 => bn (fX6_setFinger ((rf a0 1)) a1 a2 (G6 ((rf a0 2)) 3) G6) fun _ G7 => rz 1 G7)) else rz 0 G)))
set_option maxRecDepth 20000 in
set_option maxHeartbeats 4000000 in
theorem tX0_doFix (l : Launch) (x : WX) (hi : Inj x.2.2) (G : Hp) (a0 : Nat) (a1 : Int) (a2 : Int) (ha0 : kd a0 = 0) : Ct l x yX0_doFix cX0_doFix 4 (some .boolean) 3 129 129 [vR a0, vI a1, vI a2] G (fX0_doFix a0 a1 a2 G) := by
  refine ct_of (plainFor_of_name (by decide)) hi (Nat.le_refl _) (Nat.le_refl _) (Nat.le_of_ble_eq_true rfl) (fun cx F hd hn0 hnE hl hQ => ?_)
  subst hl
  have F : Fx cx x RX0 cX0_doFix 4 (some .boolean) := F
  show Y cx x 4 (some .boolean) 129 0 [(0, vR a0), (1, vI a1), (2, vI a2)] [] G _
  unfold fX0_doFix
  refine x_aload_n F dX0_doFix_0 rfl rfl rfl ?_
  refine x_getR F flX0_15 ha0 rfl dX0_doFix_1 rfl ?_
  refine x_iload_n F dX0_doFix_4 rfl rfl rfl ?_
  refine s_callVP F [vI a1] [] lkX0_77 mX6_isIn rfl (tf0_1 ha0).1 rfl hnE hn0 hd pX6_isIn (tX6_isIn cx.l x hi G ((rf a0 1)) a1 (tf0_1 ha0).1) rfl rfl dX0_doFix_5 rfl rfl (fun v1 => ?_)
  refine x_ifeq (pt := 34) F dX0_doFix_8 rfl rfl ?_ ?_
  · refine x_iconst F dX0_doFix_34 ⟨by decide, by decide⟩ rfl ?_
    exact x_zret F hnE hQ dX0_doFix_35
  · refine x_aload_n F dX0_doFix_11 rfl rfl rfl ?_
    refine x_getR F flX0_9 ha0 rfl dX0_doFix_12 rfl ?_
    refine x_getR F flX0_136 (tf0_0 ha0).1 rfl dX0_doFix_15 rfl ?_
    refine x_iload_n F dX0_doFix_18 rfl rfl rfl ?_
    refine s_iald F (tf8_4 (tf0_0 ha0).1).1 (tf8_4 (tf0_0 ha0).1).2 dX0_doFix_19 rfl (fun v2 => ?_)
    refine x_iconst F dX0_doFix_20 ⟨by decide, by decide⟩ rfl ?_
    refine x_icmpeq (pt := 34) F dX0_doFix_21 rfl rfl ?_ ?_
    · refine x_iconst F dX0_doFix_34 ⟨by decide, by decide⟩ rfl ?_
      exact x_zret F hnE hQ dX0_doFix_35
    · refine x_iload_n F dX0_doFix_24 rfl rfl rfl ?_
      refine x_iflt (pt := 34) F dX0_doFix_25 rfl rfl ?_ ?_
      · refine x_iconst F dX0_doFix_34 ⟨by decide, by decide⟩ rfl ?_
        exact x_zret F hnE hQ dX0_doFix_35
      · refine x_iload_n F dX0_doFix_28 rfl rfl rfl ?_
        refine x_bipush F dX0_doFix_29 ⟨by decide, by decide⟩ (by decide) rfl ?_
        refine x_icmplt (pt := 36) F dX0_doFix_31 rfl rfl ?_ ?_
        · refine x_aload_n F dX0_doFix_36 rfl rfl rfl ?_
          refine x_getR F flX0_9 ha0 rfl dX0_doFix_37 rfl ?_
          refine x_iload_n F dX0_doFix_40 rfl rfl rfl ?_
          refine x_iload_n F dX0_doFix_41 rfl rfl rfl ?_
          refine s_callVP F [vI a1, vI a2] [] lkX0_163 mX8_fingerPlace rfl (tf0_0 ha0).1 rfl hnE hn0 hd pX8_fingerPlace (tX8_fingerPlace cx.l x hi G ((rf a0 0)) a1 a2 (tf0_0 ha0).1) rfl rfl dX0_doFix_42 rfl rfl (fun v3 => ?_)
          refine x_istore_n F dX0_doFix_45 rfl (by decide) rfl rfl (fun v4 => ?_)
          show Y cx x _ _ _ _ [(0, vR a0), (1, vI a1), (2, vI a2), (3, vI v4)] _ _ _
          refine x_iload_n F dX0_doFix_46 rfl rfl rfl ?_
          refine x_iconst F dX0_doFix_47 ⟨by decide, by decide⟩ rfl ?_
          refine x_icmpne (pt := 53) F dX0_doFix_48 rfl rfl ?_ ?_
          · refine x_iconst F dX0_doFix_51 ⟨by decide, by decide⟩ rfl ?_
            exact x_zret F hnE hQ dX0_doFix_52
          · refine x_aload_n F dX0_doFix_53 rfl rfl rfl ?_
            refine x_getR F flX0_19 ha0 rfl dX0_doFix_54 rfl ?_
            refine x_iload_n F dX0_doFix_57 rfl rfl rfl ?_
            refine x_iload_n F dX0_doFix_58 rfl rfl rfl ?_
            refine s_callV F [vI a1, vI v4] [] lkX0_83 mX1_seek rfl (tf0_2 ha0).1 rfl hnE hn0 hd (tX1_seek cx.l x hi G ((rf a0 2)) a1 v4 (tf0_2 ha0).1) rfl rfl dX0_doFix_59 rfl rfl (fun v5 G6 => ?_)
            refine x_pop F dX0_doFix_62 rfl rfl ?_
            refine x_aload_n F dX0_doFix_63 rfl rfl rfl ?_
            refine x_getR F flX0_15 ha0 rfl dX0_doFix_64 rfl ?_
            refine x_iload_n F dX0_doFix_67 rfl rfl rfl ?_
            refine x_iload_n F dX0_doFix_68 rfl rfl rfl ?_
            refine x_aload_n F dX0_doFix_69 rfl rfl rfl ?_
            refine x_getR F flX0_19 ha0 rfl dX0_doFix_70 rfl ?_
            refine s_getI F flX0_88 (tf0_2 ha0).1 rfl dX0_doFix_73 rfl ?_
            refine s_callVv F [vI a1, vI a2, vI (G6 ((rf a0 2)) 3)] [] lkX0_160 mX6_setFinger rfl (tf0_1 ha0).1 rfl hnE hn0 hd (tX6_setFinger cx.l x hi G6 ((rf a0 1)) a1 a2 (G6 ((rf a0 2)) 3) (tf0_1 ha0).1) rfl rfl dX0_doFix_76 rfl rfl (fun _ G7 => ?_)
            refine x_iconst F dX0_doFix_79 ⟨by decide, by decide⟩ rfl ?_
            exact x_zret F hnE hQ dX0_doFix_80
        · refine x_iconst F dX0_doFix_34 ⟨by decide, by decide⟩ rfl ?_
          exact x_zret F hnE hQ dX0_doFix_35
theorem dX0_doPut_0 : decode cX0_doPut 0 = .ok (.aload_n 0, 1) := by decide +kernel
theorem dX0_doPut_1 : decode cX0_doPut 1 = .ok (.getfield 9, 3) := by decide +kernel
theorem dX0_doPut_4 : decode cX0_doPut 4 = .ok (.iload_n 1, 1) := by decide +kernel
theorem dX0_doPut_5 : decode cX0_doPut 5 = .ok (.invokevirtual 166, 3) := by decide +kernel
theorem dX0_doPut_8 : decode cX0_doPut 8 = .ok (.ifCond .eq 23, 3) := by decide +kernel
theorem dX0_doPut_11 : decode cX0_doPut 11 = .ok (.aload_n 0, 1) := by decide +kernel
theorem dX0_doPut_12 : decode cX0_doPut 12 = .ok (.getfield 19, 3) := by decide +kernel
theorem dX0_doPut_15 : decode cX0_doPut 15 = .ok (.iload_n 2, 1) := by decide +kernel
theorem dX0_doPut_16 : decode cX0_doPut 16 = .ok (.aload_n 0, 1) := by decide +kernel
theorem dX0_doPut_17 : decode cX0_doPut 17 = .ok (.getfield 9, 3) := by decide +kernel
theorem dX0_doPut_20 : decode cX0_doPut 20 = .ok (.getfield 148, 3) := by decide +kernel
theorem dX0_doPut_23 : decode cX0_doPut 23 = .ok (.iload_n 1, 1) := by decide +kernel
theorem dX0_doPut_24 : decode cX0_doPut 24 = .ok (.iaload, 1) := by decide +kernel
theorem dX0_doPut_25 : decode cX0_doPut 25 = .ok (.invokevirtual 83, 3) := by decide +kernel
theorem dX0_doPut_28 : decode cX0_doPut 28 = .ok (.ifCond .ne 5, 3) := by decide +kernel
theorem dX0_doPut_31 : decode cX0_doPut 31 = .ok (.iconst (-1), 1) := by decide +kernel
theorem dX0_doPut_32 : decode cX0_doPut 32 = .ok (.ireturn, 1) := by decide +kernel
theorem dX0_doPut_33 : decode cX0_doPut 33 = .ok (.aload_n 0, 1) := by decide +kernel
theorem dX0_doPut_34 : decode cX0_doPut 34 = .ok (.getfield 15, 3) := by decide +kernel
theorem dX0_doPut_37 : decode cX0_doPut 37 = .ok (.iload_n 1, 1) := by decide +kernel
theorem dX0_doPut_38 : decode cX0_doPut 38 = .ok (.aload_n 0, 1) := by decide +kernel
theorem dX0_doPut_39 : decode cX0_doPut 39 = .ok (.getfield 19, 3) := by decide +kernel
theorem dX0_doPut_42 : decode cX0_doPut 42 = .ok (.getfield 88, 3) := by decide +kernel
theorem dX0_doPut_45 : decode cX0_doPut 45 = .ok (.invokevirtual 151, 3) := by decide +kernel
theorem dX0_doPut_48 : decode cX0_doPut 48 = .ok (.aload_n 0, 1) := by decide +kernel
theorem dX0_doPut_49 : decode cX0_doPut 49 = .ok (.getfield 19, 3) := by decide +kernel
theorem dX0_doPut_52 : decode cX0_doPut 52 = .ok (.getfield 88, 3) := by decide +kernel
theorem dX0_doPut_55 : decode cX0_doPut 55 = .ok (.ireturn, 1) := by decide +kernel
def fX0_doPut (a0 : Nat) (a1 : Int) (a2 : Int) (G : Hp) : RT := bp (fX8_isKey ((rf a0 0)) a1 G) fun v1 => if v1 = 0 then (rt ((-1)) G) else (br (rd G ((rf ((rf a0 0)) 8)) 10 a1) fun v2 => bn (fX1_seek ((rf a0 2)) a2 v2 G) fun v3 G4 => if v3 = 0 then (rt ((-1)) G4) else (bn (fX6_setHolder ((rf a0 1)) a1 (G4 ((rf a0 2)) 3) G4) fun _ G5 => rt (G5 ((rf a0 2)) 3) G5))
set_option maxRecDepth 20000 in
set_option maxHeartbeats 4000000 in
theorem tX0_doPut (l : Launch) (x : WX) (hi : Inj x.2.2) (G : Hp) (a0 : Nat) (a1 : Int) (a2 : Int) (ha0 : kd a0 = 0) : Ct l x yX0_doPut cX0_doPut 3 (some .int) 3 129 129 [vR a0, vI a1, vI a2] G (fX0_doPut a0 a1 a2 G) := by
  refine ct_of (plainFor_of_name (by decide)) hi (Nat.le_refl _) (Nat.le_refl _) (Nat.le_of_ble_eq_true rfl) (fun cx F hd hn0 hnE hl hQ => ?_)
  subst hl
  have F : Fx cx x RX0 cX0_doPut 3 (some .int) := F
  show Y cx x 3 (some .int) 129 0 [(0, vR a0), (1, vI a1), (2, vI a2)] [] G _
  unfold fX0_doPut
  refine x_aload_n F dX0_doPut_0 rfl rfl rfl ?_
  refine x_getR F flX0_9 ha0 rfl dX0_doPut_1 rfl ?_
  refine x_iload_n F dX0_doPut_4 rfl rfl rfl ?_
  refine s_callVP F [vI a1] [] lkX0_166 mX8_isKey rfl (tf0_0 ha0).1 rfl hnE hn0 hd pX8_isKey (tX8_isKey cx.l x hi G ((rf a0 0)) a1 (tf0_0 ha0).1) rfl rfl dX0_doPut_5 rfl rfl (fun v1 => ?_)
  refine x_ifeq (pt := 31) F dX0_doPut_8 rfl rfl ?_ ?_
  · refine x_iconst F dX0_doPut_31 ⟨by decide, by decide⟩ rfl ?_
    exact x_iret F hnE hQ dX0_doPut_32
  · refine x_aload_n F dX0_doPut_11 rfl rfl rfl ?_
    refine x_getR F flX0_19 ha0 rfl dX0_doPut_12 rfl ?_
    refine x_iload_n F dX0_doPut_15 rfl rfl rfl ?_
    refine x_aload_n F dX0_doPut_16 rfl rfl rfl ?_
    refine x_getR F flX0_9 ha0 rfl dX0_doPut_17 rfl ?_
    refine x_getR F flX0_148 (tf0_0 ha0).1 rfl dX0_doPut_20 rfl ?_
    refine x_iload_n F dX0_doPut_23 rfl rfl rfl ?_
    refine s_iald F (tf8_8 (tf0_0 ha0).1).1 (tf8_8 (tf0_0 ha0).1).2 dX0_doPut_24 rfl (fun v2 => ?_)
    refine s_callV F [vI a2, vI v2] [] lkX0_83 mX1_seek rfl (tf0_2 ha0).1 rfl hnE hn0 hd (tX1_seek cx.l x hi G ((rf a0 2)) a2 v2 (tf0_2 ha0).1) rfl rfl dX0_doPut_25 rfl rfl (fun v3 G4 => ?_)
    refine x_ifne (pt := 33) F dX0_doPut_28 rfl rfl ?_ ?_
    · refine x_iconst F dX0_doPut_31 ⟨by decide, by decide⟩ rfl ?_
      exact x_iret F hnE hQ dX0_doPut_32
    · refine x_aload_n F dX0_doPut_33 rfl rfl rfl ?_
      refine x_getR F flX0_15 ha0 rfl dX0_doPut_34 rfl ?_
      refine x_iload_n F dX0_doPut_37 rfl rfl rfl ?_
      refine x_aload_n F dX0_doPut_38 rfl rfl rfl ?_
      refine x_getR F flX0_19 ha0 rfl dX0_doPut_39 rfl ?_
      refine s_getI F flX0_88 (tf0_2 ha0).1 rfl dX0_doPut_42 rfl ?_
      refine s_callVv F [vI a1, vI (G4 ((rf a0 2)) 3)] [] lkX0_151 mX6_setHolder rfl (tf0_1 ha0).1 rfl hnE hn0 hd (tX6_setHolder cx.l x hi G4 ((rf a0 1)) a1 (G4 ((rf a0 2)) 3) (tf0_1 ha0).1) rfl rfl dX0_doPut_45 rfl rfl (fun _ G5 => ?_)
      refine x_aload_n F dX0_doPut_48 rfl rfl rfl ?_
      refine x_getR F flX0_19 ha0 rfl dX0_doPut_49 rfl ?_
      refine s_getI F flX0_88 (tf0_2 ha0).1 rfl dX0_doPut_52 rfl ?_
      exact x_iret F hnE hQ dX0_doPut_55
theorem dX0_doHand_0 : decode cX0_doHand 0 = .ok (.aload_n 0, 1) := by decide +kernel
theorem dX0_doHand_1 : decode cX0_doHand 1 = .ok (.getfield 15, 3) := by decide +kernel
theorem dX0_doHand_4 : decode cX0_doHand 4 = .ok (.iload_n 1, 1) := by decide +kernel
theorem dX0_doHand_5 : decode cX0_doHand 5 = .ok (.invokevirtual 77, 3) := by decide +kernel
theorem dX0_doHand_8 : decode cX0_doHand 8 = .ok (.ifCond .ne 5, 3) := by decide +kernel
theorem dX0_doHand_11 : decode cX0_doHand 11 = .ok (.iconst (-1), 1) := by decide +kernel
theorem dX0_doHand_12 : decode cX0_doHand 12 = .ok (.ireturn, 1) := by decide +kernel
theorem dX0_doHand_13 : decode cX0_doHand 13 = .ok (.iconst 0, 1) := by decide +kernel
theorem dX0_doHand_14 : decode cX0_doHand 14 = .ok (.istore_n 2, 1) := by decide +kernel
theorem dX0_doHand_15 : decode cX0_doHand 15 = .ok (.iconst 0, 1) := by decide +kernel
theorem dX0_doHand_16 : decode cX0_doHand 16 = .ok (.istore_n 3, 1) := by decide +kernel
theorem dX0_doHand_17 : decode cX0_doHand 17 = .ok (.iload_n 3, 1) := by decide +kernel
theorem dX0_doHand_18 : decode cX0_doHand 18 = .ok (.aload_n 0, 1) := by decide +kernel
theorem dX0_doHand_19 : decode cX0_doHand 19 = .ok (.getfield 9, 3) := by decide +kernel
theorem dX0_doHand_22 : decode cX0_doHand 22 = .ok (.getfield 142, 3) := by decide +kernel
theorem dX0_doHand_25 : decode cX0_doHand 25 = .ok (.if_icmp .ge 82, 3) := by decide +kernel
theorem dX0_doHand_28 : decode cX0_doHand 28 = .ok (.aload_n 0, 1) := by decide +kernel
theorem dX0_doHand_29 : decode cX0_doHand 29 = .ok (.getfield 15, 3) := by decide +kernel
theorem dX0_doHand_32 : decode cX0_doHand 32 = .ok (.iload_n 3, 1) := by decide +kernel
theorem dX0_doHand_33 : decode cX0_doHand 33 = .ok (.invokevirtual 145, 3) := by decide +kernel
theorem dX0_doHand_36 : decode cX0_doHand 36 = .ok (.iload_n 1, 1) := by decide +kernel
theorem dX0_doHand_37 : decode cX0_doHand 37 = .ok (.if_icmp .ne 27, 3) := by decide +kernel
theorem dX0_doHand_40 : decode cX0_doHand 40 = .ok (.aload_n 0, 1) := by decide +kernel
theorem dX0_doHand_41 : decode cX0_doHand 41 = .ok (.getfield 19, 3) := by decide +kernel
theorem dX0_doHand_44 : decode cX0_doHand 44 = .ok (.iload_n 1, 1) := by decide +kernel
theorem dX0_doHand_45 : decode cX0_doHand 45 = .ok (.aload_n 0, 1) := by decide +kernel
theorem dX0_doHand_46 : decode cX0_doHand 46 = .ok (.getfield 9, 3) := by decide +kernel
theorem dX0_doHand_49 : decode cX0_doHand 49 = .ok (.getfield 148, 3) := by decide +kernel
theorem dX0_doHand_52 : decode cX0_doHand 52 = .ok (.iload_n 3, 1) := by decide +kernel
theorem dX0_doHand_53 : decode cX0_doHand 53 = .ok (.iaload, 1) := by decide +kernel
theorem dX0_doHand_54 : decode cX0_doHand 54 = .ok (.invokevirtual 83, 3) := by decide +kernel
theorem dX0_doHand_57 : decode cX0_doHand 57 = .ok (.ifCond .eq 7, 3) := by decide +kernel
theorem dX0_doHand_60 : decode cX0_doHand 60 = .ok (.iconst 1, 1) := by decide +kernel
theorem dX0_doHand_61 : decode cX0_doHand 61 = .ok (.goto 4, 3) := by decide +kernel
theorem dX0_doHand_64 : decode cX0_doHand 64 = .ok (.iconst 0, 1) := by decide +kernel
theorem dX0_doHand_65 : decode cX0_doHand 65 = .ok (.istore 4, 2) := by decide +kernel
theorem dX0_doHand_67 : decode cX0_doHand 67 = .ok (.iload 4, 2) := by decide +kernel
theorem dX0_doHand_69 : decode cX0_doHand 69 = .ok (.ifCond .eq 32, 3) := by decide +kernel
theorem dX0_doHand_72 : decode cX0_doHand 72 = .ok (.aload_n 0, 1) := by decide +kernel
theorem dX0_doHand_73 : decode cX0_doHand 73 = .ok (.getfield 19, 3) := by decide +kernel
theorem dX0_doHand_76 : decode cX0_doHand 76 = .ok (.getfield 88, 3) := by decide +kernel
theorem dX0_doHand_79 : decode cX0_doHand 79 = .ok (.iload_n 1, 1) := by decide +kernel
theorem dX0_doHand_80 : decode cX0_doHand 80 = .ok (.if_icmp .eq 21, 3) := by decide +kernel
theorem dX0_doHand_83 : decode cX0_doHand 83 = .ok (.aload_n 0, 1) := by decide +kernel
theorem dX0_doHand_84 : decode cX0_doHand 84 = .ok (.getfield 15, 3) := by decide +kernel
theorem dX0_doHand_87 : decode cX0_doHand 87 = .ok (.iload_n 3, 1) := by decide +kernel
theorem dX0_doHand_88 : decode cX0_doHand 88 = .ok (.aload_n 0, 1) := by decide +kernel
theorem dX0_doHand_89 : decode cX0_doHand 89 = .ok (.getfield 19, 3) := by decide +kernel
theorem dX0_doHand_92 : decode cX0_doHand 92 = .ok (.getfield 88, 3) := by decide +kernel
theorem dX0_doHand_95 : decode cX0_doHand 95 = .ok (.invokevirtual 151, 3) := by decide +kernel
theorem dX0_doHand_98 : decode cX0_doHand 98 = .ok (.iinc 2 1, 3) := by decide +kernel
theorem dX0_doHand_101 : decode cX0_doHand 101 = .ok (.iinc 3 1, 3) := by decide +kernel
theorem dX0_doHand_104 : decode cX0_doHand 104 = .ok (.goto (-87), 3) := by decide +kernel
theorem dX0_doHand_107 : decode cX0_doHand 107 = .ok (.iload_n 2, 1) := by decide +kernel
theorem dX0_doHand_108 : decode cX0_doHand 108 = .ok (.ireturn, 1) := by decide +kernel
def fX0_doHand (a0 : Nat) (a1 : Int) (G : Hp) : RT := bp (fX6_isIn ((rf a0 1)) a1 G) fun v1 => if v1 = 0 then (rt ((-1)) G) else (bd 0 fun v2 => bd 0 fun v3 => (lp (fun (_ : Int) (_ : Int) (_ : Hp) => (none : RT)) 5000 (fun (rc7 : Int → Int → Hp → RT) (v4 : Int) (v5 : Int) (G6 : Hp) => if v5 < (G6 ((rf a0 0)) 3) then (bp (fX6_holderOf ((rf a0 1)) v5 G6) fun v8 => jn (fun (v9 : Int) (G10 : Hp) => bd v9 fun v12 => jn (fun (v13 : Int) (G14 : Hp) => bd (iadd v5 1) fun v16 => rc7 v13 v16 G14) fun (K15 : Int → Hp → RT) => if v12 = 0 then K15 v4 G10 else (if (G10 ((rf a0 2)) 3) = a1 then K15 v4 G10 else (bn (fX6_setHolder ((rf a0 1)) v5 (G10 ((rf a0 2)) 3) G10) fun _ G17 => bd (iadd v4 1) fun v18 => K15 v18 G17))) fun (K11 : Int → Hp → RT) => jn (fun (G20 : Hp) => K11 0 G20) fun (K21 : Hp → RT) => if v8 = a1 then (br (rd G6 ((rf ((rf a0 0)) 8)) 10 v5) fun v22 => bn (fX1_seek ((rf a0 2)) a1 v22 G6) fun v23 G24 => if v23 = 0 then K21 G24 else K11 1 G24) else K21 G6) else rt v4 G6)) v2 v3 G)
set_option maxRecDepth 20000 in
set_option maxHeartbeats 4000000 in
theorem tX0_doHand (l : Launch) (x : WX) (hi : Inj x.2.2) (G : Hp) (a0 : Nat) (a1 : Int) (ha0 : kd a0 = 0) : Ct l x yX0_doHand cX0_doHand 5 (some .int) 3 129 129 [vR a0, vI a1] G (fX0_doHand a0 a1 G) := by
  refine ct_of (plainFor_of_name (by decide)) hi (Nat.le_refl _) (Nat.le_refl _) (Nat.le_of_ble_eq_true rfl) (fun cx F hd hn0 hnE hl hQ => ?_)
  subst hl
  have F : Fx cx x RX0 cX0_doHand 5 (some .int) := F
  show Y cx x 5 (some .int) 129 0 [(0, vR a0), (1, vI a1)] [] G _
  unfold fX0_doHand
  refine x_aload_n F dX0_doHand_0 rfl rfl rfl ?_
  refine x_getR F flX0_15 ha0 rfl dX0_doHand_1 rfl ?_
  refine x_iload_n F dX0_doHand_4 rfl rfl rfl ?_
  refine s_callVP F [vI a1] [] lkX0_77 mX6_isIn rfl (tf0_1 ha0).1 rfl hnE hn0 hd pX6_isIn (tX6_isIn cx.l x hi G ((rf a0 1)) a1 (tf0_1 ha0).1) rfl rfl dX0_doHand_5 rfl rfl (fun v1 => ?_)
  refine x_ifne (pt := 13) F dX0_doHand_8 rfl rfl ?_ ?_
  · refine x_iconst F dX0_doHand_11 ⟨by decide, by decide⟩ rfl ?_
    exact x_iret F hnE hQ dX0_doHand_12
  · refine x_iconst F dX0_doHand_13 ⟨by decide, by decide⟩ rfl ?_
    refine x_istore_n F dX0_doHand_14 rfl (by decide) rfl rfl (fun v2 => ?_)
    show Y cx x _ _ _ _ [(0, vR a0), (1, vI a1), (2, vI v2)] _ _ _
    refine x_iconst F dX0_doHand_15 ⟨by decide, by decide⟩ rfl ?_
    refine x_istore_n F dX0_doHand_16 rfl (by decide) rfl rfl (fun v3 => ?_)
    show Y cx x _ _ _ _ [(0, vR a0), (1, vI a1), (2, vI v2), (3, vI v3)] _ _ _
    refine x_lp (fun (rc7 : Int → Int → Hp → RT) => ∀ (v4 : Int) (v5 : Int) (G6 : Hp), Y cx x 5 (some .int) 129 17 [(0, vR a0), (1, vI a1), (2, vI v4), (3, vI v5)] [] G6 (rc7 v4 v5 G6)) (fun _ _ _ => Y_none) (fun rc7 hrc7 v4 v5 G6 => ?_) 5000 v2 v3 G
    refine x_iload_n F dX0_doHand_17 rfl rfl rfl ?_
    refine x_aload_n F dX0_doHand_18 rfl rfl rfl ?_
    refine x_getR F flX0_9 ha0 rfl dX0_doHand_19 rfl ?_
    refine s_getI F flX0_142 (tf0_0 ha0).1 rfl dX0_doHand_22 rfl ?_
    refine x_icmpge (pt := 107) F dX0_doHand_25 rfl rfl ?_ ?_
    · refine x_aload_n F dX0_doHand_28 rfl rfl rfl ?_
      refine x_getR F flX0_15 ha0 rfl dX0_doHand_29 rfl ?_
      refine x_iload_n F dX0_doHand_32 rfl rfl rfl ?_
      refine s_callVP F [vI v5] [] lkX0_145 mX6_holderOf rfl (tf0_1 ha0).1 rfl hnE hn0 hd pX6_holderOf (tX6_holderOf cx.l x hi G6 ((rf a0 1)) v5 (tf0_1 ha0).1) rfl rfl dX0_doHand_33 rfl rfl (fun v8 => ?_)
      refine x_iload_n F dX0_doHand_36 rfl rfl rfl ?_
      refine x_jn (fun (K11 : Int → Hp → RT) => ∀ (v9 : Int) (G10 : Hp), Y cx x 5 (some .int) 129 65 [(0, vR a0), (1, vI a1), (2, vI v4), (3, vI v5)] [vI v9] G10 (K11 v9 G10)) ?_ (fun K11 hK11 => ?_)
      · intro v9 G10
        refine x_istore F dX0_doHand_65 (by decide) rfl rfl (fun v12 => ?_)
        show Y cx x _ _ _ _ [(0, vR a0), (1, vI a1), (2, vI v4), (3, vI v5), (4, vI v12)] _ _ _
        refine x_iload F dX0_doHand_67 rfl rfl ?_
        refine x_jn (fun (K15 : Int → Hp → RT) => ∀ (v13 : Int) (G14 : Hp), Y cx x 5 (some .int) 129 101 [(0, vR a0), (1, vI a1), (2, vI v13), (3, vI v5)] [] G14 (K15 v13 G14)) ?_ (fun K15 hK15 => ?_)
        · intro v13 G14
          refine x_iinc F dX0_doHand_101 rfl (by decide) rfl rfl (fun v16 => ?_)
          show Y cx x _ _ _ _ [(0, vR a0), (1, vI a1), (2, vI v13), (3, vI v16)] _ _ _
          refine x_goto (pc' := 17) F dX0_doHand_104 rfl ?_
          exact hrc7 v13 v16 G14
        · refine x_ifeq (pt := 101) F dX0_doHand_69 rfl rfl ?_ ?_
          · refine x_dp (L' := [(0, vR a0), (1, vI a1), (2, vI v4), (3, vI v5)]) [0, 1, 2, 3] rfl ?_
            exact hK15 v4 G10
          · refine x_aload_n F dX0_doHand_72 rfl rfl rfl ?_
            refine x_getR F flX0_19 ha0 rfl dX0_doHand_73 rfl ?_
            refine s_getI F flX0_88 (tf0_2 ha0).1 rfl dX0_doHand_76 rfl ?_
            refine x_iload_n F dX0_doHand_79 rfl rfl rfl ?_
            refine x_icmpeq (pt := 101) F dX0_doHand_80 rfl rfl ?_ ?_
            · refine x_dp (L' := [(0, vR a0), (1, vI a1), (2, vI v4), (3, vI v5)]) [0, 1, 2, 3] rfl ?_
              exact hK15 v4 G10
            · refine x_aload_n F dX0_doHand_83 rfl rfl rfl ?_
              refine x_getR F flX0_15 ha0 rfl dX0_doHand_84 rfl ?_
              refine x_iload_n F dX0_doHand_87 rfl rfl rfl ?_
              refine x_aload_n F dX0_doHand_88 rfl rfl rfl ?_
              refine x_getR F flX0_19 ha0 rfl dX0_doHand_89 rfl ?_
              refine s_getI F flX0_88 (tf0_2 ha0).1 rfl dX0_doHand_92 rfl ?_
              refine s_callVv F [vI v5, vI (G10 ((rf a0 2)) 3)] [] lkX0_151 mX6_setHolder rfl (tf0_1 ha0).1 rfl hnE hn0 hd (tX6_setHolder cx.l x hi G10 ((rf a0 1)) v5 (G10 ((rf a0 2)) 3) (tf0_1 ha0).1) rfl rfl dX0_doHand_95 rfl rfl (fun _ G17 => ?_)
              refine x_iinc F dX0_doHand_98 rfl (by decide) rfl rfl (fun v18 => ?_)
              show Y cx x _ _ _ _ [(0, vR a0), (1, vI a1), (2, vI v18), (3, vI v5), (4, vI v12)] _ _ _
              refine x_dp (L' := [(0, vR a0), (1, vI a1), (2, vI v18), (3, vI v5)]) [0, 1, 2, 3] rfl ?_
              exact hK15 v18 G17
      · refine x_jn (fun (K21 : Hp → RT) => ∀ (G20 : Hp), Y cx x 5 (some .int) 129 64 [(0, vR a0), (1, vI a1), (2, vI v4), (3, vI v5)] [] G20 (K21 G20)) ?_ (fun K21 hK21 => ?_)
        · intro G20
          refine x_iconst F dX0_doHand_64 ⟨by decide, by decide⟩ rfl ?_
          exact hK11 0 G20
        · refine x_icmpne (pt := 64) F dX0_doHand_37 rfl rfl ?_ ?_
          · refine x_aload_n F dX0_doHand_40 rfl rfl rfl ?_
            refine x_getR F flX0_19 ha0 rfl dX0_doHand_41 rfl ?_
            refine x_iload_n F dX0_doHand_44 rfl rfl rfl ?_
            refine x_aload_n F dX0_doHand_45 rfl rfl rfl ?_
            refine x_getR F flX0_9 ha0 rfl dX0_doHand_46 rfl ?_
            refine x_getR F flX0_148 (tf0_0 ha0).1 rfl dX0_doHand_49 rfl ?_
            refine x_iload_n F dX0_doHand_52 rfl rfl rfl ?_
            refine s_iald F (tf8_8 (tf0_0 ha0).1).1 (tf8_8 (tf0_0 ha0).1).2 dX0_doHand_53 rfl (fun v22 => ?_)
            refine s_callV F [vI a1, vI v22] [] lkX0_83 mX1_seek rfl (tf0_2 ha0).1 rfl hnE hn0 hd (tX1_seek cx.l x hi G6 ((rf a0 2)) a1 v22 (tf0_2 ha0).1) rfl rfl dX0_doHand_54 rfl rfl (fun v23 G24 => ?_)
            refine x_ifeq (pt := 64) F dX0_doHand_57 rfl rfl ?_ ?_
            · exact hK21 G24
            · refine x_iconst F dX0_doHand_60 ⟨by decide, by decide⟩ rfl ?_
              refine x_goto (pc' := 65) F dX0_doHand_61 rfl ?_
              exact hK11 1 G24
          · exact hK21 G6
    · refine x_iload_n F dX0_doHand_107 rfl rfl rfl ?_
      exact x_iret F hnE hQ dX0_doHand_108
theorem dX0_doDeed_0 : decode cX0_doDeed 0 = .ok (.iload_n 1, 1) := by decide +kernel
theorem dX0_doDeed_1 : decode cX0_doDeed 1 = .ok (.tableswitch 153 6 14 #[51, 57, 64, 70, 85, 100, 115, 122, 138], 51) := by decide +kernel
theorem dX0_doDeed_52 : decode cX0_doDeed 52 = .ok (.aload_n 0, 1) := by decide +kernel
theorem dX0_doDeed_53 : decode cX0_doDeed 53 = .ok (.iload_n 2, 1) := by decide +kernel
theorem dX0_doDeed_54 : decode cX0_doDeed 54 = .ok (.invokevirtual 27, 3) := by decide +kernel
theorem dX0_doDeed_57 : decode cX0_doDeed 57 = .ok (.ireturn, 1) := by decide +kernel
theorem dX0_doDeed_58 : decode cX0_doDeed 58 = .ok (.aload_n 0, 1) := by decide +kernel
theorem dX0_doDeed_59 : decode cX0_doDeed 59 = .ok (.iload_n 2, 1) := by decide +kernel
theorem dX0_doDeed_60 : decode cX0_doDeed 60 = .ok (.iload_n 3, 1) := by decide +kernel
theorem dX0_doDeed_61 : decode cX0_doDeed 61 = .ok (.invokevirtual 31, 3) := by decide +kernel
theorem dX0_doDeed_64 : decode cX0_doDeed 64 = .ok (.ireturn, 1) := by decide +kernel
theorem dX0_doDeed_65 : decode cX0_doDeed 65 = .ok (.aload_n 0, 1) := by decide +kernel
theorem dX0_doDeed_66 : decode cX0_doDeed 66 = .ok (.iload_n 2, 1) := by decide +kernel
theorem dX0_doDeed_67 : decode cX0_doDeed 67 = .ok (.invokevirtual 35, 3) := by decide +kernel
theorem dX0_doDeed_70 : decode cX0_doDeed 70 = .ok (.ireturn, 1) := by decide +kernel
theorem dX0_doDeed_71 : decode cX0_doDeed 71 = .ok (.aload_n 0, 1) := by decide +kernel
theorem dX0_doDeed_72 : decode cX0_doDeed 72 = .ok (.iload_n 2, 1) := by decide +kernel
theorem dX0_doDeed_73 : decode cX0_doDeed 73 = .ok (.invokevirtual 38, 3) := by decide +kernel
theorem dX0_doDeed_76 : decode cX0_doDeed 76 = .ok (.iconst (-1), 1) := by decide +kernel
theorem dX0_doDeed_77 : decode cX0_doDeed 77 = .ok (.if_icmp .eq 7, 3) := by decide +kernel
theorem dX0_doDeed_80 : decode cX0_doDeed 80 = .ok (.iconst 1, 1) := by decide +kernel
theorem dX0_doDeed_81 : decode cX0_doDeed 81 = .ok (.goto 4, 3) := by decide +kernel
theorem dX0_doDeed_84 : decode cX0_doDeed 84 = .ok (.iconst 0, 1) := by decide +kernel
theorem dX0_doDeed_85 : decode cX0_doDeed 85 = .ok (.ireturn, 1) := by decide +kernel
theorem dX0_doDeed_86 : decode cX0_doDeed 86 = .ok (.aload_n 0, 1) := by decide +kernel
theorem dX0_doDeed_87 : decode cX0_doDeed 87 = .ok (.iload_n 2, 1) := by decide +kernel
theorem dX0_doDeed_88 : decode cX0_doDeed 88 = .ok (.invokevirtual 42, 3) := by decide +kernel
theorem dX0_doDeed_91 : decode cX0_doDeed 91 = .ok (.iconst (-1), 1) := by decide +kernel
theorem dX0_doDeed_92 : decode cX0_doDeed 92 = .ok (.if_icmp .eq 7, 3) := by decide +kernel
theorem dX0_doDeed_95 : decode cX0_doDeed 95 = .ok (.iconst 1, 1) := by decide +kernel
theorem dX0_doDeed_96 : decode cX0_doDeed 96 = .ok (.goto 4, 3) := by decide +kernel
theorem dX0_doDeed_99 : decode cX0_doDeed 99 = .ok (.iconst 0, 1) := by decide +kernel
theorem dX0_doDeed_100 : decode cX0_doDeed 100 = .ok (.ireturn, 1) := by decide +kernel
theorem dX0_doDeed_101 : decode cX0_doDeed 101 = .ok (.aload_n 0, 1) := by decide +kernel
theorem dX0_doDeed_102 : decode cX0_doDeed 102 = .ok (.iload_n 2, 1) := by decide +kernel
theorem dX0_doDeed_103 : decode cX0_doDeed 103 = .ok (.invokevirtual 45, 3) := by decide +kernel
theorem dX0_doDeed_106 : decode cX0_doDeed 106 = .ok (.iconst (-1), 1) := by decide +kernel
theorem dX0_doDeed_107 : decode cX0_doDeed 107 = .ok (.if_icmp .eq 7, 3) := by decide +kernel
theorem dX0_doDeed_110 : decode cX0_doDeed 110 = .ok (.iconst 1, 1) := by decide +kernel
theorem dX0_doDeed_111 : decode cX0_doDeed 111 = .ok (.goto 4, 3) := by decide +kernel
theorem dX0_doDeed_114 : decode cX0_doDeed 114 = .ok (.iconst 0, 1) := by decide +kernel
theorem dX0_doDeed_115 : decode cX0_doDeed 115 = .ok (.ireturn, 1) := by decide +kernel
theorem dX0_doDeed_116 : decode cX0_doDeed 116 = .ok (.aload_n 0, 1) := by decide +kernel
theorem dX0_doDeed_117 : decode cX0_doDeed 117 = .ok (.iload_n 2, 1) := by decide +kernel
theorem dX0_doDeed_118 : decode cX0_doDeed 118 = .ok (.iload_n 3, 1) := by decide +kernel
theorem dX0_doDeed_119 : decode cX0_doDeed 119 = .ok (.invokevirtual 48, 3) := by decide +kernel
theorem dX0_doDeed_122 : decode cX0_doDeed 122 = .ok (.ireturn, 1) := by decide +kernel
theorem dX0_doDeed_123 : decode cX0_doDeed 123 = .ok (.aload_n 0, 1) := by decide +kernel
theorem dX0_doDeed_124 : decode cX0_doDeed 124 = .ok (.iload_n 2, 1) := by decide +kernel
theorem dX0_doDeed_125 : decode cX0_doDeed 125 = .ok (.iload_n 3, 1) := by decide +kernel
theorem dX0_doDeed_126 : decode cX0_doDeed 126 = .ok (.invokevirtual 51, 3) := by decide +kernel
theorem dX0_doDeed_129 : decode cX0_doDeed 129 = .ok (.iconst (-1), 1) := by decide +kernel
theorem dX0_doDeed_130 : decode cX0_doDeed 130 = .ok (.if_icmp .eq 7, 3) := by decide +kernel
theorem dX0_doDeed_133 : decode cX0_doDeed 133 = .ok (.iconst 1, 1) := by decide +kernel
theorem dX0_doDeed_134 : decode cX0_doDeed 134 = .ok (.goto 4, 3) := by decide +kernel
theorem dX0_doDeed_137 : decode cX0_doDeed 137 = .ok (.iconst 0, 1) := by decide +kernel
theorem dX0_doDeed_138 : decode cX0_doDeed 138 = .ok (.ireturn, 1) := by decide +kernel
theorem dX0_doDeed_139 : decode cX0_doDeed 139 = .ok (.aload_n 0, 1) := by decide +kernel
theorem dX0_doDeed_140 : decode cX0_doDeed 140 = .ok (.iload_n 2, 1) := by decide +kernel
theorem dX0_doDeed_141 : decode cX0_doDeed 141 = .ok (.invokevirtual 55, 3) := by decide +kernel
theorem dX0_doDeed_144 : decode cX0_doDeed 144 = .ok (.iconst (-1), 1) := by decide +kernel
theorem dX0_doDeed_145 : decode cX0_doDeed 145 = .ok (.if_icmp .eq 7, 3) := by decide +kernel
theorem dX0_doDeed_148 : decode cX0_doDeed 148 = .ok (.iconst 1, 1) := by decide +kernel
theorem dX0_doDeed_149 : decode cX0_doDeed 149 = .ok (.goto 4, 3) := by decide +kernel
theorem dX0_doDeed_152 : decode cX0_doDeed 152 = .ok (.iconst 0, 1) := by decide +kernel
theorem dX0_doDeed_153 : decode cX0_doDeed 153 = .ok (.ireturn, 1) := by decide +kernel
theorem dX0_doDeed_154 : decode cX0_doDeed 154 = .ok (.iconst 0, 1) := by decide +kernel
theorem dX0_doDeed_155 : decode cX0_doDeed 155 = .ok (.ireturn, 1) := by decide +kernel
def fX0_doDeed (a0 : Nat) (a1 : Int) (a2 : Int) (a3 : Int) (G : Hp) : RT := if a1 = 6 then (bn (fX0_doBegin a0 a2 G) fun v2 G3 => rz v2 G3) else (if a1 = 7 then (bn (fX0_doJoin a0 a2 a3 G) fun v5 G6 => rz v5 G6) else (if a1 = 8 then (bn (fX0_doLeave a0 a2 G) fun v8 G9 => rz v8 G9) else (if a1 = 9 then (bn (fX0_doFail a0 a2 G) fun v11 G12 => if v11 = ((-1)) then rz 0 G12 else rz 1 G12) else (if a1 = 10 then (bn (fX0_doTidy a0 a2 G) fun v14 G15 => if v14 = ((-1)) then rz 0 G15 else rz 1 G15) else (if a1 = 11 then (bn (fX0_doFlush a0 a2 G) fun v17 G18 => if v17 = ((-1)) then rz 0 G18 else rz 1 G18) else (if a1 = 12 then (bn (fX0_doFix a0 a2 a3 G) fun v20 G21 => rz v20 G21) else (if a1 = 13 then (bn (fX0_doPut a0 a2 a3 G) fun v23 G24 => if v23 = ((-1)) then rz 0 G24 else rz 1 G24) else (if a1 = 14 then (bn (fX0_doHand a0 a2 G) fun v26 G27 => if v26 = ((-1)) then rz 0 G27 else rz 1 G27) else rz 0 G))))))))
set_option maxRecDepth 20000 in
set_option maxHeartbeats 4000000 in
theorem tX0_doDeed (l : Launch) (x : WX) (hi : Inj x.2.2) (G : Hp) (a0 : Nat) (a1 : Int) (a2 : Int) (a3 : Int) (ha0 : kd a0 = 0) : Ct l x yX0_doDeed cX0_doDeed 4 (some .boolean) 4 129 129 [vR a0, vI a1, vI a2, vI a3] G (fX0_doDeed a0 a1 a2 a3 G) := by
  refine ct_of (plainFor_of_name (by decide)) hi (Nat.le_refl _) (Nat.le_refl _) (Nat.le_of_ble_eq_true rfl) (fun cx F hd hn0 hnE hl hQ => ?_)
  subst hl
  have F : Fx cx x RX0 cX0_doDeed 4 (some .boolean) := F
  show Y cx x 4 (some .boolean) 129 0 [(0, vR a0), (1, vI a1), (2, vI a2), (3, vI a3)] [] G _
  unfold fX0_doDeed
  refine x_iload_n F dX0_doDeed_0 rfl rfl rfl ?_
  refine x_ite (fun h1 => ?_) (fun h1 => ?_)
  · refine x_tabIn (off := 51) (pc' := 52) F dX0_doDeed_1 (by omega) (by omega) (by rw [h1]; rfl) rfl ?_
    refine x_aload_n F dX0_doDeed_52 rfl rfl rfl ?_
    refine x_iload_n F dX0_doDeed_53 rfl rfl rfl ?_
    refine s_callV F [vI a2] [] lkX0_27 mX0_doBegin rfl ha0 rfl hnE hn0 hd (tX0_doBegin cx.l x hi G a0 a2 ha0) rfl rfl dX0_doDeed_54 rfl rfl (fun v2 G3 => ?_)
    exact x_zret F hnE hQ dX0_doDeed_57
  · refine x_ite (fun h4 => ?_) (fun h4 => ?_)
    · refine x_tabIn (off := 57) (pc' := 58) F dX0_doDeed_1 (by omega) (by omega) (by rw [h4]; rfl) rfl ?_
      refine x_aload_n F dX0_doDeed_58 rfl rfl rfl ?_
      refine x_iload_n F dX0_doDeed_59 rfl rfl rfl ?_
      refine x_iload_n F dX0_doDeed_60 rfl rfl rfl ?_
      refine s_callV F [vI a2, vI a3] [] lkX0_31 mX0_doJoin rfl ha0 rfl hnE hn0 hd (tX0_doJoin cx.l x hi G a0 a2 a3 ha0) rfl rfl dX0_doDeed_61 rfl rfl (fun v5 G6 => ?_)
      exact x_zret F hnE hQ dX0_doDeed_64
    · refine x_ite (fun h7 => ?_) (fun h7 => ?_)
      · refine x_tabIn (off := 64) (pc' := 65) F dX0_doDeed_1 (by omega) (by omega) (by rw [h7]; rfl) rfl ?_
        refine x_aload_n F dX0_doDeed_65 rfl rfl rfl ?_
        refine x_iload_n F dX0_doDeed_66 rfl rfl rfl ?_
        refine s_callV F [vI a2] [] lkX0_35 mX0_doLeave rfl ha0 rfl hnE hn0 hd (tX0_doLeave cx.l x hi G a0 a2 ha0) rfl rfl dX0_doDeed_67 rfl rfl (fun v8 G9 => ?_)
        exact x_zret F hnE hQ dX0_doDeed_70
      · refine x_ite (fun h10 => ?_) (fun h10 => ?_)
        · refine x_tabIn (off := 70) (pc' := 71) F dX0_doDeed_1 (by omega) (by omega) (by rw [h10]; rfl) rfl ?_
          refine x_aload_n F dX0_doDeed_71 rfl rfl rfl ?_
          refine x_iload_n F dX0_doDeed_72 rfl rfl rfl ?_
          refine s_callV F [vI a2] [] lkX0_38 mX0_doFail rfl ha0 rfl hnE hn0 hd (tX0_doFail cx.l x hi G a0 a2 ha0) rfl rfl dX0_doDeed_73 rfl rfl (fun v11 G12 => ?_)
          refine x_iconst F dX0_doDeed_76 ⟨by decide, by decide⟩ rfl ?_
          refine x_icmpeq (pt := 84) F dX0_doDeed_77 rfl rfl ?_ ?_
          · refine x_iconst F dX0_doDeed_84 ⟨by decide, by decide⟩ rfl ?_
            exact x_zret F hnE hQ dX0_doDeed_85
          · refine x_iconst F dX0_doDeed_80 ⟨by decide, by decide⟩ rfl ?_
            refine x_goto (pc' := 85) F dX0_doDeed_81 rfl ?_
            exact x_zret F hnE hQ dX0_doDeed_85
        · refine x_ite (fun h13 => ?_) (fun h13 => ?_)
          · refine x_tabIn (off := 85) (pc' := 86) F dX0_doDeed_1 (by omega) (by omega) (by rw [h13]; rfl) rfl ?_
            refine x_aload_n F dX0_doDeed_86 rfl rfl rfl ?_
            refine x_iload_n F dX0_doDeed_87 rfl rfl rfl ?_
            refine s_callV F [vI a2] [] lkX0_42 mX0_doTidy rfl ha0 rfl hnE hn0 hd (tX0_doTidy cx.l x hi G a0 a2 ha0) rfl rfl dX0_doDeed_88 rfl rfl (fun v14 G15 => ?_)
            refine x_iconst F dX0_doDeed_91 ⟨by decide, by decide⟩ rfl ?_
            refine x_icmpeq (pt := 99) F dX0_doDeed_92 rfl rfl ?_ ?_
            · refine x_iconst F dX0_doDeed_99 ⟨by decide, by decide⟩ rfl ?_
              exact x_zret F hnE hQ dX0_doDeed_100
            · refine x_iconst F dX0_doDeed_95 ⟨by decide, by decide⟩ rfl ?_
              refine x_goto (pc' := 100) F dX0_doDeed_96 rfl ?_
              exact x_zret F hnE hQ dX0_doDeed_100
          · refine x_ite (fun h16 => ?_) (fun h16 => ?_)
            · refine x_tabIn (off := 100) (pc' := 101) F dX0_doDeed_1 (by omega) (by omega) (by rw [h16]; rfl) rfl ?_
              refine x_aload_n F dX0_doDeed_101 rfl rfl rfl ?_
              refine x_iload_n F dX0_doDeed_102 rfl rfl rfl ?_
              refine s_callV F [vI a2] [] lkX0_45 mX0_doFlush rfl ha0 rfl hnE hn0 hd (tX0_doFlush cx.l x hi G a0 a2 ha0) rfl rfl dX0_doDeed_103 rfl rfl (fun v17 G18 => ?_)
              refine x_iconst F dX0_doDeed_106 ⟨by decide, by decide⟩ rfl ?_
              refine x_icmpeq (pt := 114) F dX0_doDeed_107 rfl rfl ?_ ?_
              · refine x_iconst F dX0_doDeed_114 ⟨by decide, by decide⟩ rfl ?_
                exact x_zret F hnE hQ dX0_doDeed_115
              · refine x_iconst F dX0_doDeed_110 ⟨by decide, by decide⟩ rfl ?_
                refine x_goto (pc' := 115) F dX0_doDeed_111 rfl ?_
                exact x_zret F hnE hQ dX0_doDeed_115
            · refine x_ite (fun h19 => ?_) (fun h19 => ?_)
              · refine x_tabIn (off := 115) (pc' := 116) F dX0_doDeed_1 (by omega) (by omega) (by rw [h19]; rfl) rfl ?_
                refine x_aload_n F dX0_doDeed_116 rfl rfl rfl ?_
                refine x_iload_n F dX0_doDeed_117 rfl rfl rfl ?_
                refine x_iload_n F dX0_doDeed_118 rfl rfl rfl ?_
                refine s_callV F [vI a2, vI a3] [] lkX0_48 mX0_doFix rfl ha0 rfl hnE hn0 hd (tX0_doFix cx.l x hi G a0 a2 a3 ha0) rfl rfl dX0_doDeed_119 rfl rfl (fun v20 G21 => ?_)
                exact x_zret F hnE hQ dX0_doDeed_122
              · refine x_ite (fun h22 => ?_) (fun h22 => ?_)
                · refine x_tabIn (off := 122) (pc' := 123) F dX0_doDeed_1 (by omega) (by omega) (by rw [h22]; rfl) rfl ?_
                  refine x_aload_n F dX0_doDeed_123 rfl rfl rfl ?_
                  refine x_iload_n F dX0_doDeed_124 rfl rfl rfl ?_
                  refine x_iload_n F dX0_doDeed_125 rfl rfl rfl ?_
                  refine s_callV F [vI a2, vI a3] [] lkX0_51 mX0_doPut rfl ha0 rfl hnE hn0 hd (tX0_doPut cx.l x hi G a0 a2 a3 ha0) rfl rfl dX0_doDeed_126 rfl rfl (fun v23 G24 => ?_)
                  refine x_iconst F dX0_doDeed_129 ⟨by decide, by decide⟩ rfl ?_
                  refine x_icmpeq (pt := 137) F dX0_doDeed_130 rfl rfl ?_ ?_
                  · refine x_iconst F dX0_doDeed_137 ⟨by decide, by decide⟩ rfl ?_
                    exact x_zret F hnE hQ dX0_doDeed_138
                  · refine x_iconst F dX0_doDeed_133 ⟨by decide, by decide⟩ rfl ?_
                    refine x_goto (pc' := 138) F dX0_doDeed_134 rfl ?_
                    exact x_zret F hnE hQ dX0_doDeed_138
                · refine x_ite (fun h25 => ?_) (fun h25 => ?_)
                  · refine x_tabIn (off := 138) (pc' := 139) F dX0_doDeed_1 (by omega) (by omega) (by rw [h25]; rfl) rfl ?_
                    refine x_aload_n F dX0_doDeed_139 rfl rfl rfl ?_
                    refine x_iload_n F dX0_doDeed_140 rfl rfl rfl ?_
                    refine s_callV F [vI a2] [] lkX0_55 mX0_doHand rfl ha0 rfl hnE hn0 hd (tX0_doHand cx.l x hi G a0 a2 ha0) rfl rfl dX0_doDeed_141 rfl rfl (fun v26 G27 => ?_)
                    refine x_iconst F dX0_doDeed_144 ⟨by decide, by decide⟩ rfl ?_
                    refine x_icmpeq (pt := 152) F dX0_doDeed_145 rfl rfl ?_ ?_
                    · refine x_iconst F dX0_doDeed_152 ⟨by decide, by decide⟩ rfl ?_
                      exact x_zret F hnE hQ dX0_doDeed_153
                    · refine x_iconst F dX0_doDeed_148 ⟨by decide, by decide⟩ rfl ?_
                      refine x_goto (pc' := 153) F dX0_doDeed_149 rfl ?_
                      exact x_zret F hnE hQ dX0_doDeed_153
                  · refine x_tabOut (pc' := 154) F dX0_doDeed_1 (by omega) rfl ?_
                    refine x_iconst F dX0_doDeed_154 ⟨by decide, by decide⟩ rfl ?_
                    exact x_zret F hnE hQ dX0_doDeed_155
theorem dX0_doMend_0 : decode cX0_doMend 0 = .ok (.aload_n 0, 1) := by decide +kernel
theorem dX0_doMend_1 : decode cX0_doMend 1 = .ok (.getfield 15, 3) := by decide +kernel
theorem dX0_doMend_4 : decode cX0_doMend 4 = .ok (.iload_n 1, 1) := by decide +kernel
theorem dX0_doMend_5 : decode cX0_doMend 5 = .ok (.invokevirtual 77, 3) := by decide +kernel
theorem dX0_doMend_8 : decode cX0_doMend 8 = .ok (.ifCond .eq 16, 3) := by decide +kernel
theorem dX0_doMend_11 : decode cX0_doMend 11 = .ok (.aload_n 0, 1) := by decide +kernel
theorem dX0_doMend_12 : decode cX0_doMend 12 = .ok (.getfield 9, 3) := by decide +kernel
theorem dX0_doMend_15 : decode cX0_doMend 15 = .ok (.getfield 136, 3) := by decide +kernel
theorem dX0_doMend_18 : decode cX0_doMend 18 = .ok (.iload_n 1, 1) := by decide +kernel
theorem dX0_doMend_19 : decode cX0_doMend 19 = .ok (.iaload, 1) := by decide +kernel
theorem dX0_doMend_20 : decode cX0_doMend 20 = .ok (.iconst 3, 1) := by decide +kernel
theorem dX0_doMend_21 : decode cX0_doMend 21 = .ok (.if_icmp .ne 5, 3) := by decide +kernel
theorem dX0_doMend_24 : decode cX0_doMend 24 = .ok (.iconst (-1), 1) := by decide +kernel
theorem dX0_doMend_25 : decode cX0_doMend 25 = .ok (.ireturn, 1) := by decide +kernel
theorem dX0_doMend_26 : decode cX0_doMend 26 = .ok (.iconst 0, 1) := by decide +kernel
theorem dX0_doMend_27 : decode cX0_doMend 27 = .ok (.istore_n 2, 1) := by decide +kernel
theorem dX0_doMend_28 : decode cX0_doMend 28 = .ok (.iconst 0, 1) := by decide +kernel
theorem dX0_doMend_29 : decode cX0_doMend 29 = .ok (.istore_n 3, 1) := by decide +kernel
theorem dX0_doMend_30 : decode cX0_doMend 30 = .ok (.iload_n 3, 1) := by decide +kernel
theorem dX0_doMend_31 : decode cX0_doMend 31 = .ok (.bipush 8, 2) := by decide +kernel
theorem dX0_doMend_33 : decode cX0_doMend 33 = .ok (.if_icmp .ge 44, 3) := by decide +kernel
theorem dX0_doMend_36 : decode cX0_doMend 36 = .ok (.aload_n 0, 1) := by decide +kernel
theorem dX0_doMend_37 : decode cX0_doMend 37 = .ok (.getfield 15, 3) := by decide +kernel
theorem dX0_doMend_40 : decode cX0_doMend 40 = .ok (.iload_n 1, 1) := by decide +kernel
theorem dX0_doMend_41 : decode cX0_doMend 41 = .ok (.iload_n 3, 1) := by decide +kernel
theorem dX0_doMend_42 : decode cX0_doMend 42 = .ok (.invokevirtual 157, 3) := by decide +kernel
theorem dX0_doMend_45 : decode cX0_doMend 45 = .ok (.istore 4, 2) := by decide +kernel
theorem dX0_doMend_47 : decode cX0_doMend 47 = .ok (.aload_n 0, 1) := by decide +kernel
theorem dX0_doMend_48 : decode cX0_doMend 48 = .ok (.iload_n 1, 1) := by decide +kernel
theorem dX0_doMend_49 : decode cX0_doMend 49 = .ok (.iload_n 3, 1) := by decide +kernel
theorem dX0_doMend_50 : decode cX0_doMend 50 = .ok (.invokevirtual 48, 3) := by decide +kernel
theorem dX0_doMend_53 : decode cX0_doMend 53 = .ok (.pop, 1) := by decide +kernel
theorem dX0_doMend_54 : decode cX0_doMend 54 = .ok (.aload_n 0, 1) := by decide +kernel
theorem dX0_doMend_55 : decode cX0_doMend 55 = .ok (.getfield 15, 3) := by decide +kernel
theorem dX0_doMend_58 : decode cX0_doMend 58 = .ok (.iload_n 1, 1) := by decide +kernel
theorem dX0_doMend_59 : decode cX0_doMend 59 = .ok (.iload_n 3, 1) := by decide +kernel
theorem dX0_doMend_60 : decode cX0_doMend 60 = .ok (.invokevirtual 157, 3) := by decide +kernel
theorem dX0_doMend_63 : decode cX0_doMend 63 = .ok (.iload 4, 2) := by decide +kernel
theorem dX0_doMend_65 : decode cX0_doMend 65 = .ok (.if_icmp .eq 6, 3) := by decide +kernel
theorem dX0_doMend_68 : decode cX0_doMend 68 = .ok (.iinc 2 1, 3) := by decide +kernel
theorem dX0_doMend_71 : decode cX0_doMend 71 = .ok (.iinc 3 1, 3) := by decide +kernel
theorem dX0_doMend_74 : decode cX0_doMend 74 = .ok (.goto (-44), 3) := by decide +kernel
theorem dX0_doMend_77 : decode cX0_doMend 77 = .ok (.iload_n 2, 1) := by decide +kernel
theorem dX0_doMend_78 : decode cX0_doMend 78 = .ok (.ireturn, 1) := by decide +kernel
def fX0_doMend (a0 : Nat) (a1 : Int) (G : Hp) : RT := bp (fX6_isIn ((rf a0 1)) a1 G) fun v1 => if v1 = 0 then (rt ((-1)) G) else (br (rd G ((rf ((rf a0 0)) 4)) 8 a1) fun v2 => if v2 = 3 then (rt ((-1)) G) else (bd 0 fun v3 => bd 0 fun v4 => (lp (fun (_ : Int) (_ : Int) (_ : Hp) => (none : RT)) 5000 (fun (rc8 : Int → Int → Hp → RT) (v5 : Int) (v6 : Int) (G7 : Hp) => if v6 < 8 then (bp (fX6_fingerAt ((rf a0 1)) a1 v6 G7) fun v9 => bd v9 fun v10 => bn (fX0_doFix a0 a1 v6 G7) fun v11 G12 => bp (fX6_fingerAt ((rf a0 1)) a1 v6 G12) fun v13 => jn (fun (v14 : Int) => bd (iadd v6 1) fun v16 => rc8 v14 v16 G12) fun (K15 : Int → RT) => if v13 = v10 then K15 v5 else (bd (iadd v5 1) fun v17 => K15 v17)) else rt v5 G7)) v3 v4 G))
set_option maxRecDepth 20000 in
set_option maxHeartbeats 4000000 in
theorem tX0_doMend (l : Launch) (x : WX) (hi : Inj x.2.2) (G : Hp) (a0 : Nat) (a1 : Int) (ha0 : kd a0 = 0) : Ct l x yX0_doMend cX0_doMend 5 (some .int) 4 129 129 [vR a0, vI a1] G (fX0_doMend a0 a1 G) := by
  refine ct_of (plainFor_of_name (by decide)) hi (Nat.le_refl _) (Nat.le_refl _) (Nat.le_of_ble_eq_true rfl) (fun cx F hd hn0 hnE hl hQ => ?_)
  subst hl
  have F : Fx cx x RX0 cX0_doMend 5 (some .int) := F
  show Y cx x 5 (some .int) 129 0 [(0, vR a0), (1, vI a1)] [] G _
  unfold fX0_doMend
  refine x_aload_n F dX0_doMend_0 rfl rfl rfl ?_
  refine x_getR F flX0_15 ha0 rfl dX0_doMend_1 rfl ?_
  refine x_iload_n F dX0_doMend_4 rfl rfl rfl ?_
  refine s_callVP F [vI a1] [] lkX0_77 mX6_isIn rfl (tf0_1 ha0).1 rfl hnE hn0 hd pX6_isIn (tX6_isIn cx.l x hi G ((rf a0 1)) a1 (tf0_1 ha0).1) rfl rfl dX0_doMend_5 rfl rfl (fun v1 => ?_)
  refine x_ifeq (pt := 24) F dX0_doMend_8 rfl rfl ?_ ?_
  · refine x_iconst F dX0_doMend_24 ⟨by decide, by decide⟩ rfl ?_
    exact x_iret F hnE hQ dX0_doMend_25
  · refine x_aload_n F dX0_doMend_11 rfl rfl rfl ?_
    refine x_getR F flX0_9 ha0 rfl dX0_doMend_12 rfl ?_
    refine x_getR F flX0_136 (tf0_0 ha0).1 rfl dX0_doMend_15 rfl ?_
    refine x_iload_n F dX0_doMend_18 rfl rfl rfl ?_
    refine s_iald F (tf8_4 (tf0_0 ha0).1).1 (tf8_4 (tf0_0 ha0).1).2 dX0_doMend_19 rfl (fun v2 => ?_)
    refine x_iconst F dX0_doMend_20 ⟨by decide, by decide⟩ rfl ?_
    refine x_icmpne (pt := 26) F dX0_doMend_21 rfl rfl ?_ ?_
    · refine x_iconst F dX0_doMend_24 ⟨by decide, by decide⟩ rfl ?_
      exact x_iret F hnE hQ dX0_doMend_25
    · refine x_iconst F dX0_doMend_26 ⟨by decide, by decide⟩ rfl ?_
      refine x_istore_n F dX0_doMend_27 rfl (by decide) rfl rfl (fun v3 => ?_)
      show Y cx x _ _ _ _ [(0, vR a0), (1, vI a1), (2, vI v3)] _ _ _
      refine x_iconst F dX0_doMend_28 ⟨by decide, by decide⟩ rfl ?_
      refine x_istore_n F dX0_doMend_29 rfl (by decide) rfl rfl (fun v4 => ?_)
      show Y cx x _ _ _ _ [(0, vR a0), (1, vI a1), (2, vI v3), (3, vI v4)] _ _ _
      refine x_lp (fun (rc8 : Int → Int → Hp → RT) => ∀ (v5 : Int) (v6 : Int) (G7 : Hp), Y cx x 5 (some .int) 129 30 [(0, vR a0), (1, vI a1), (2, vI v5), (3, vI v6)] [] G7 (rc8 v5 v6 G7)) (fun _ _ _ => Y_none) (fun rc8 hrc8 v5 v6 G7 => ?_) 5000 v3 v4 G
      refine x_iload_n F dX0_doMend_30 rfl rfl rfl ?_
      refine x_bipush F dX0_doMend_31 ⟨by decide, by decide⟩ (by decide) rfl ?_
      refine x_icmpge (pt := 77) F dX0_doMend_33 rfl rfl ?_ ?_
      · refine x_aload_n F dX0_doMend_36 rfl rfl rfl ?_
        refine x_getR F flX0_15 ha0 rfl dX0_doMend_37 rfl ?_
        refine x_iload_n F dX0_doMend_40 rfl rfl rfl ?_
        refine x_iload_n F dX0_doMend_41 rfl rfl rfl ?_
        refine s_callVP F [vI a1, vI v6] [] lkX0_157 mX6_fingerAt rfl (tf0_1 ha0).1 rfl hnE hn0 hd pX6_fingerAt (tX6_fingerAt cx.l x hi G7 ((rf a0 1)) a1 v6 (tf0_1 ha0).1) rfl rfl dX0_doMend_42 rfl rfl (fun v9 => ?_)
        refine x_istore F dX0_doMend_45 (by decide) rfl rfl (fun v10 => ?_)
        show Y cx x _ _ _ _ [(0, vR a0), (1, vI a1), (2, vI v5), (3, vI v6), (4, vI v10)] _ _ _
        refine x_aload_n F dX0_doMend_47 rfl rfl rfl ?_
        refine x_iload_n F dX0_doMend_48 rfl rfl rfl ?_
        refine x_iload_n F dX0_doMend_49 rfl rfl rfl ?_
        refine s_callV F [vI a1, vI v6] [] lkX0_48 mX0_doFix rfl ha0 rfl hnE hn0 hd (tX0_doFix cx.l x hi G7 a0 a1 v6 ha0) rfl rfl dX0_doMend_50 rfl rfl (fun v11 G12 => ?_)
        refine x_pop F dX0_doMend_53 rfl rfl ?_
        refine x_aload_n F dX0_doMend_54 rfl rfl rfl ?_
        refine x_getR F flX0_15 ha0 rfl dX0_doMend_55 rfl ?_
        refine x_iload_n F dX0_doMend_58 rfl rfl rfl ?_
        refine x_iload_n F dX0_doMend_59 rfl rfl rfl ?_
        refine s_callVP F [vI a1, vI v6] [] lkX0_157 mX6_fingerAt rfl (tf0_1 ha0).1 rfl hnE hn0 hd pX6_fingerAt (tX6_fingerAt cx.l x hi G12 ((rf a0 1)) a1 v6 (tf0_1 ha0).1) rfl rfl dX0_doMend_60 rfl rfl (fun v13 => ?_)
        refine x_iload F dX0_doMend_63 rfl rfl ?_
        refine x_jn (fun (K15 : Int → RT) => ∀ (v14 : Int), Y cx x 5 (some .int) 129 71 [(0, vR a0), (1, vI a1), (2, vI v14), (3, vI v6)] [] G12 (K15 v14)) ?_ (fun K15 hK15 => ?_)
        · intro v14
          refine x_iinc F dX0_doMend_71 rfl (by decide) rfl rfl (fun v16 => ?_)
          show Y cx x _ _ _ _ [(0, vR a0), (1, vI a1), (2, vI v14), (3, vI v16)] _ _ _
          refine x_goto (pc' := 30) F dX0_doMend_74 rfl ?_
          exact hrc8 v14 v16 G12
        · refine x_icmpeq (pt := 71) F dX0_doMend_65 rfl rfl ?_ ?_
          · refine x_dp (L' := [(0, vR a0), (1, vI a1), (2, vI v5), (3, vI v6)]) [0, 1, 2, 3] rfl ?_
            exact hK15 v5
          · refine x_iinc F dX0_doMend_68 rfl (by decide) rfl rfl (fun v17 => ?_)
            show Y cx x _ _ _ _ [(0, vR a0), (1, vI a1), (2, vI v17), (3, vI v6), (4, vI v10)] _ _ _
            refine x_dp (L' := [(0, vR a0), (1, vI a1), (2, vI v17), (3, vI v6)]) [0, 1, 2, 3] rfl ?_
            exact hK15 v17
      · refine x_iload_n F dX0_doMend_77 rfl rfl rfl ?_
        exact x_iret F hnE hQ dX0_doMend_78
theorem dX0_doRound_0 : decode cX0_doRound 0 = .ok (.iconst 0, 1) := by decide +kernel
theorem dX0_doRound_1 : decode cX0_doRound 1 = .ok (.istore_n 1, 1) := by decide +kernel
theorem dX0_doRound_2 : decode cX0_doRound 2 = .ok (.iload_n 1, 1) := by decide +kernel
theorem dX0_doRound_3 : decode cX0_doRound 3 = .ok (.aload_n 0, 1) := by decide +kernel
theorem dX0_doRound_4 : decode cX0_doRound 4 = .ok (.getfield 9, 3) := by decide +kernel
theorem dX0_doRound_7 : decode cX0_doRound 7 = .ok (.getfield 169, 3) := by decide +kernel
theorem dX0_doRound_10 : decode cX0_doRound 10 = .ok (.if_icmp .ge 32, 3) := by decide +kernel
theorem dX0_doRound_13 : decode cX0_doRound 13 = .ok (.aload_n 0, 1) := by decide +kernel
theorem dX0_doRound_14 : decode cX0_doRound 14 = .ok (.getfield 15, 3) := by decide +kernel
theorem dX0_doRound_17 : decode cX0_doRound 17 = .ok (.iload_n 1, 1) := by decide +kernel
theorem dX0_doRound_18 : decode cX0_doRound 18 = .ok (.invokevirtual 77, 3) := by decide +kernel
theorem dX0_doRound_21 : decode cX0_doRound 21 = .ok (.ifCond .eq 15, 3) := by decide +kernel
theorem dX0_doRound_24 : decode cX0_doRound 24 = .ok (.aload_n 0, 1) := by decide +kernel
theorem dX0_doRound_25 : decode cX0_doRound 25 = .ok (.iload_n 1, 1) := by decide +kernel
theorem dX0_doRound_26 : decode cX0_doRound 26 = .ok (.invokevirtual 45, 3) := by decide +kernel
theorem dX0_doRound_29 : decode cX0_doRound 29 = .ok (.pop, 1) := by decide +kernel
theorem dX0_doRound_30 : decode cX0_doRound 30 = .ok (.aload_n 0, 1) := by decide +kernel
theorem dX0_doRound_31 : decode cX0_doRound 31 = .ok (.iload_n 1, 1) := by decide +kernel
theorem dX0_doRound_32 : decode cX0_doRound 32 = .ok (.invokevirtual 42, 3) := by decide +kernel
theorem dX0_doRound_35 : decode cX0_doRound 35 = .ok (.pop, 1) := by decide +kernel
theorem dX0_doRound_36 : decode cX0_doRound 36 = .ok (.iinc 1 1, 3) := by decide +kernel
theorem dX0_doRound_39 : decode cX0_doRound 39 = .ok (.goto (-37), 3) := by decide +kernel
theorem dX0_doRound_42 : decode cX0_doRound 42 = .ok (.return_, 1) := by decide +kernel
def fX0_doRound (a0 : Nat) (G : Hp) : RT := bd 0 fun v1 => (lp (fun (_ : Int) (_ : Hp) => (none : RT)) 5000 (fun (rc4 : Int → Hp → RT) (v2 : Int) (G3 : Hp) => if v2 < (G3 ((rf a0 0)) 2) then (bp (fX6_isIn ((rf a0 1)) v2 G3) fun v5 => jn (fun (G6 : Hp) => bd (iadd v2 1) fun v8 => rc4 v8 G6) fun (K7 : Hp → RT) => if v5 = 0 then K7 G3 else (bn (fX0_doFlush a0 v2 G3) fun v9 G10 => bn (fX0_doTidy a0 v2 G10) fun v11 G12 => K7 G12)) else rt 0 G3)) v1 G
set_option maxRecDepth 20000 in
set_option maxHeartbeats 4000000 in
theorem tX0_doRound (l : Launch) (x : WX) (hi : Inj x.2.2) (G : Hp) (a0 : Nat) (ha0 : kd a0 = 0) : Ct l x yX0_doRound cX0_doRound 2 none 4 129 129 [vR a0] G (fX0_doRound a0 G) := by
  refine ct_of (plainFor_of_name (by decide)) hi (Nat.le_refl _) (Nat.le_refl _) (Nat.le_of_ble_eq_true rfl) (fun cx F hd hn0 hnE hl hQ => ?_)
  subst hl
  have F : Fx cx x RX0 cX0_doRound 2 none := F
  show Y cx x 2 none 129 0 [(0, vR a0)] [] G _
  unfold fX0_doRound
  refine x_iconst F dX0_doRound_0 ⟨by decide, by decide⟩ rfl ?_
  refine x_istore_n F dX0_doRound_1 rfl (by decide) rfl rfl (fun v1 => ?_)
  show Y cx x _ _ _ _ [(0, vR a0), (1, vI v1)] _ _ _
  refine x_lp (fun (rc4 : Int → Hp → RT) => ∀ (v2 : Int) (G3 : Hp), Y cx x 2 none 129 2 [(0, vR a0), (1, vI v2)] [] G3 (rc4 v2 G3)) (fun _ _ => Y_none) (fun rc4 hrc4 v2 G3 => ?_) 5000 v1 G
  refine x_iload_n F dX0_doRound_2 rfl rfl rfl ?_
  refine x_aload_n F dX0_doRound_3 rfl rfl rfl ?_
  refine x_getR F flX0_9 ha0 rfl dX0_doRound_4 rfl ?_
  refine s_getI F flX0_169 (tf0_0 ha0).1 rfl dX0_doRound_7 rfl ?_
  refine x_icmpge (pt := 42) F dX0_doRound_10 rfl rfl ?_ ?_
  · refine x_aload_n F dX0_doRound_13 rfl rfl rfl ?_
    refine x_getR F flX0_15 ha0 rfl dX0_doRound_14 rfl ?_
    refine x_iload_n F dX0_doRound_17 rfl rfl rfl ?_
    refine s_callVP F [vI v2] [] lkX0_77 mX6_isIn rfl (tf0_1 ha0).1 rfl hnE hn0 hd pX6_isIn (tX6_isIn cx.l x hi G3 ((rf a0 1)) v2 (tf0_1 ha0).1) rfl rfl dX0_doRound_18 rfl rfl (fun v5 => ?_)
    refine x_jn (fun (K7 : Hp → RT) => ∀ (G6 : Hp), Y cx x 2 none 129 36 [(0, vR a0), (1, vI v2)] [] G6 (K7 G6)) ?_ (fun K7 hK7 => ?_)
    · intro G6
      refine x_iinc F dX0_doRound_36 rfl (by decide) rfl rfl (fun v8 => ?_)
      show Y cx x _ _ _ _ [(0, vR a0), (1, vI v8)] _ _ _
      refine x_goto (pc' := 2) F dX0_doRound_39 rfl ?_
      exact hrc4 v8 G6
    · refine x_ifeq (pt := 36) F dX0_doRound_21 rfl rfl ?_ ?_
      · exact hK7 G3
      · refine x_aload_n F dX0_doRound_24 rfl rfl rfl ?_
        refine x_iload_n F dX0_doRound_25 rfl rfl rfl ?_
        refine s_callV F [vI v2] [] lkX0_45 mX0_doFlush rfl ha0 rfl hnE hn0 hd (tX0_doFlush cx.l x hi G3 a0 v2 ha0) rfl rfl dX0_doRound_26 rfl rfl (fun v9 G10 => ?_)
        refine x_pop F dX0_doRound_29 rfl rfl ?_
        refine x_aload_n F dX0_doRound_30 rfl rfl rfl ?_
        refine x_iload_n F dX0_doRound_31 rfl rfl rfl ?_
        refine s_callV F [vI v2] [] lkX0_42 mX0_doTidy rfl ha0 rfl hnE hn0 hd (tX0_doTidy cx.l x hi G10 a0 v2 ha0) rfl rfl dX0_doRound_32 rfl rfl (fun v11 G12 => ?_)
        refine x_pop F dX0_doRound_35 rfl rfl ?_
        exact hK7 G12
  · exact x_vret F hnE hQ dX0_doRound_42
