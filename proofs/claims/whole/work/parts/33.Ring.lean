theorem dX4_readLaw_0 : decode cX4_readLaw 0 = .ok (.aload_n 0, 1) := by decide +kernel
theorem dX4_readLaw_1 : decode cX4_readLaw 1 = .ok (.getfield 29, 3) := by decide +kernel
theorem dX4_readLaw_4 : decode cX4_readLaw 4 = .ok (.iconst (-1), 1) := by decide +kernel
theorem dX4_readLaw_5 : decode cX4_readLaw 5 = .ok (.if_icmp .eq 12, 3) := by decide +kernel
theorem dX4_readLaw_8 : decode cX4_readLaw 8 = .ok (.aload_n 0, 1) := by decide +kernel
theorem dX4_readLaw_9 : decode cX4_readLaw 9 = .ok (.getfield 9, 3) := by decide +kernel
theorem dX4_readLaw_12 : decode cX4_readLaw 12 = .ok (.iconst 3, 1) := by decide +kernel
theorem dX4_readLaw_13 : decode cX4_readLaw 13 = .ok (.invokevirtual 58, 3) := by decide +kernel
theorem dX4_readLaw_16 : decode cX4_readLaw 16 = .ok (.ireturn, 1) := by decide +kernel
theorem dX4_readLaw_17 : decode cX4_readLaw 17 = .ok (.aload_n 0, 1) := by decide +kernel
theorem dX4_readLaw_18 : decode cX4_readLaw 18 = .ok (.getfield 9, 3) := by decide +kernel
theorem dX4_readLaw_21 : decode cX4_readLaw 21 = .ok (.invokevirtual 87, 3) := by decide +kernel
theorem dX4_readLaw_24 : decode cX4_readLaw 24 = .ok (.aload_n 0, 1) := by decide +kernel
theorem dX4_readLaw_25 : decode cX4_readLaw 25 = .ok (.aload_n 0, 1) := by decide +kernel
theorem dX4_readLaw_26 : decode cX4_readLaw 26 = .ok (.getfield 9, 3) := by decide +kernel
theorem dX4_readLaw_29 : decode cX4_readLaw 29 = .ok (.getfield 144, 3) := by decide +kernel
theorem dX4_readLaw_32 : decode cX4_readLaw 32 = .ok (.putfield 29, 3) := by decide +kernel
theorem dX4_readLaw_35 : decode cX4_readLaw 35 = .ok (.aload_n 0, 1) := by decide +kernel
theorem dX4_readLaw_36 : decode cX4_readLaw 36 = .ok (.iconst 0, 1) := by decide +kernel
theorem dX4_readLaw_37 : decode cX4_readLaw 37 = .ok (.iconst 0, 1) := by decide +kernel
theorem dX4_readLaw_38 : decode cX4_readLaw 38 = .ok (.invokevirtual 147, 3) := by decide +kernel
theorem dX4_readLaw_41 : decode cX4_readLaw 41 = .ok (.pop, 1) := by decide +kernel
theorem dX4_readLaw_42 : decode cX4_readLaw 42 = .ok (.aload_n 0, 1) := by decide +kernel
theorem dX4_readLaw_43 : decode cX4_readLaw 43 = .ok (.getfield 9, 3) := by decide +kernel
theorem dX4_readLaw_46 : decode cX4_readLaw 46 = .ok (.getfield 51, 3) := by decide +kernel
theorem dX4_readLaw_49 : decode cX4_readLaw 49 = .ok (.ifCond .ne 7, 3) := by decide +kernel
theorem dX4_readLaw_52 : decode cX4_readLaw 52 = .ok (.iconst 1, 1) := by decide +kernel
theorem dX4_readLaw_53 : decode cX4_readLaw 53 = .ok (.goto 4, 3) := by decide +kernel
theorem dX4_readLaw_56 : decode cX4_readLaw 56 = .ok (.iconst 0, 1) := by decide +kernel
theorem dX4_readLaw_57 : decode cX4_readLaw 57 = .ok (.ireturn, 1) := by decide +kernel
def fX4_readLaw (a0 : Nat) (G : Hp) : RT := if (G a0 3) = ((-1)) then (bn (fX7_step ((rf a0 0)) G) fun _ G1 => bh (up G1 a0 3 (G1 ((rf a0 0)) 5)) fun G2 => bn (fX4_valueOf a0 0 0 G2) fun v3 G4 => if (G4 ((rf a0 0)) 8) = 0 then rz 1 G4 else rz 0 G4) else (bn (fX7_wrong ((rf a0 0)) 3 G) fun v6 G7 => rz v6 G7)
set_option maxRecDepth 20000 in
set_option maxHeartbeats 4000000 in
theorem tX4_readLaw (l : Launch) (x : WX) (hi : Inj x.2.2) (G : Hp) (a0 : Nat) (ha0 : kd a0 = 4) : Ct l x yX4_readLaw cX4_readLaw 1 (some .boolean) 66 129 129 [vR a0] G (fX4_readLaw a0 G) := by
  refine ct_of (plainFor_of_name (by decide)) hi (Nat.le_refl _) (Nat.le_refl _) (Nat.le_of_ble_eq_true rfl) (fun cx F hd hn0 hnE hl hQ => ?_)
  subst hl
  have F : Fx cx x RX4 cX4_readLaw 1 (some .boolean) := F
  show Y cx x 1 (some .boolean) 129 0 [(0, vR a0)] [] G _
  unfold fX4_readLaw
  refine x_aload_n F dX4_readLaw_0 rfl rfl rfl ?_
  refine s_getI F flX4_29 ha0 rfl dX4_readLaw_1 rfl ?_
  refine x_iconst F dX4_readLaw_4 ⟨by decide, by decide⟩ rfl ?_
  refine x_icmpeq (pt := 17) F dX4_readLaw_5 rfl rfl ?_ ?_
  · refine x_aload_n F dX4_readLaw_17 rfl rfl rfl ?_
    refine x_getR F flX4_9 ha0 rfl dX4_readLaw_18 rfl ?_
    refine s_callVv F [] [] lkX4_87 mX7_step rfl (tf4_0 ha0).1 rfl hnE hn0 hd (tX7_step cx.l x hi G ((rf a0 0)) (tf4_0 ha0).1) rfl rfl dX4_readLaw_21 rfl rfl (fun _ G1 => ?_)
    refine x_aload_n F dX4_readLaw_24 rfl rfl rfl ?_
    refine x_aload_n F dX4_readLaw_25 rfl rfl rfl ?_
    refine x_getR F flX4_9 ha0 rfl dX4_readLaw_26 rfl ?_
    refine s_getI F flX4_144 (tf4_0 ha0).1 rfl dX4_readLaw_29 rfl ?_
    refine s_putI F fpX4_29 ha0 rfl dX4_readLaw_32 rfl (fun G2 => ?_)
    refine x_aload_n F dX4_readLaw_35 rfl rfl rfl ?_
    refine x_iconst F dX4_readLaw_36 ⟨by decide, by decide⟩ rfl ?_
    refine x_iconst F dX4_readLaw_37 ⟨by decide, by decide⟩ rfl ?_
    refine s_callV F [vI 0, vI 0] [] lkX4_147 mX4_valueOf rfl ha0 rfl hnE hn0 hd (tX4_valueOf cx.l x hi G2 a0 0 0 ha0) rfl rfl dX4_readLaw_38 rfl rfl (fun v3 G4 => ?_)
    refine x_pop F dX4_readLaw_41 rfl rfl ?_
    refine x_aload_n F dX4_readLaw_42 rfl rfl rfl ?_
    refine x_getR F flX4_9 ha0 rfl dX4_readLaw_43 rfl ?_
    refine s_getI F flX4_51 (tf4_0 ha0).1 rfl dX4_readLaw_46 rfl ?_
    refine x_ifne (pt := 56) F dX4_readLaw_49 rfl rfl ?_ ?_
    · refine x_iconst F dX4_readLaw_52 ⟨by decide, by decide⟩ rfl ?_
      refine x_goto (pc' := 57) F dX4_readLaw_53 rfl ?_
      exact x_zret F hnE hQ dX4_readLaw_57
    · refine x_iconst F dX4_readLaw_56 ⟨by decide, by decide⟩ rfl ?_
      exact x_zret F hnE hQ dX4_readLaw_57
  · refine x_aload_n F dX4_readLaw_8 rfl rfl rfl ?_
    refine x_getR F flX4_9 ha0 rfl dX4_readLaw_9 rfl ?_
    refine x_iconst F dX4_readLaw_12 ⟨by decide, by decide⟩ rfl ?_
    refine s_callV F [vI 3] [] lkX4_58 mX7_wrong rfl (tf4_0 ha0).1 rfl hnE hn0 hd (tX7_wrong cx.l x hi G ((rf a0 0)) 3 (tf4_0 ha0).1) rfl rfl dX4_readLaw_13 rfl rfl (fun v6 G7 => ?_)
    exact x_zret F hnE hQ dX4_readLaw_16
theorem dX4_layKeys_0 : decode cX4_layKeys 0 = .ok (.iconst 0, 1) := by decide +kernel
theorem dX4_layKeys_1 : decode cX4_layKeys 1 = .ok (.istore_n 1, 1) := by decide +kernel
theorem dX4_layKeys_2 : decode cX4_layKeys 2 = .ok (.iload_n 1, 1) := by decide +kernel
theorem dX4_layKeys_3 : decode cX4_layKeys 3 = .ok (.aload_n 0, 1) := by decide +kernel
theorem dX4_layKeys_4 : decode cX4_layKeys 4 = .ok (.getfield 18, 3) := by decide +kernel
theorem dX4_layKeys_7 : decode cX4_layKeys 7 = .ok (.getfield 125, 3) := by decide +kernel
theorem dX4_layKeys_10 : decode cX4_layKeys 10 = .ok (.if_icmp .ge 84, 3) := by decide +kernel
theorem dX4_layKeys_13 : decode cX4_layKeys 13 = .ok (.aload_n 0, 1) := by decide +kernel
theorem dX4_layKeys_14 : decode cX4_layKeys 14 = .ok (.iload_n 1, 1) := by decide +kernel
theorem dX4_layKeys_15 : decode cX4_layKeys 15 = .ok (.putfield 33, 3) := by decide +kernel
theorem dX4_layKeys_18 : decode cX4_layKeys 18 = .ok (.aload_n 0, 1) := by decide +kernel
theorem dX4_layKeys_19 : decode cX4_layKeys 19 = .ok (.getfield 18, 3) := by decide +kernel
theorem dX4_layKeys_22 : decode cX4_layKeys 22 = .ok (.getfield 131, 3) := by decide +kernel
theorem dX4_layKeys_25 : decode cX4_layKeys 25 = .ok (.iload_n 1, 1) := by decide +kernel
theorem dX4_layKeys_26 : decode cX4_layKeys 26 = .ok (.iaload, 1) := by decide +kernel
theorem dX4_layKeys_27 : decode cX4_layKeys 27 = .ok (.istore_n 2, 1) := by decide +kernel
theorem dX4_layKeys_28 : decode cX4_layKeys 28 = .ok (.aload_n 0, 1) := by decide +kernel
theorem dX4_layKeys_29 : decode cX4_layKeys 29 = .ok (.getfield 29, 3) := by decide +kernel
theorem dX4_layKeys_32 : decode cX4_layKeys 32 = .ok (.iconst (-1), 1) := by decide +kernel
theorem dX4_layKeys_33 : decode cX4_layKeys 33 = .ok (.if_icmp .eq 21, 3) := by decide +kernel
theorem dX4_layKeys_36 : decode cX4_layKeys 36 = .ok (.aload_n 0, 1) := by decide +kernel
theorem dX4_layKeys_37 : decode cX4_layKeys 37 = .ok (.getfield 9, 3) := by decide +kernel
theorem dX4_layKeys_40 : decode cX4_layKeys 40 = .ok (.aload_n 0, 1) := by decide +kernel
theorem dX4_layKeys_41 : decode cX4_layKeys 41 = .ok (.getfield 29, 3) := by decide +kernel
theorem dX4_layKeys_44 : decode cX4_layKeys 44 = .ok (.invokevirtual 150, 3) := by decide +kernel
theorem dX4_layKeys_47 : decode cX4_layKeys 47 = .ok (.aload_n 0, 1) := by decide +kernel
theorem dX4_layKeys_48 : decode cX4_layKeys 48 = .ok (.iconst 0, 1) := by decide +kernel
theorem dX4_layKeys_49 : decode cX4_layKeys 49 = .ok (.iconst 0, 1) := by decide +kernel
theorem dX4_layKeys_50 : decode cX4_layKeys 50 = .ok (.invokevirtual 147, 3) := by decide +kernel
theorem dX4_layKeys_53 : decode cX4_layKeys 53 = .ok (.istore_n 2, 1) := by decide +kernel
theorem dX4_layKeys_54 : decode cX4_layKeys 54 = .ok (.aload_n 0, 1) := by decide +kernel
theorem dX4_layKeys_55 : decode cX4_layKeys 55 = .ok (.getfield 18, 3) := by decide +kernel
theorem dX4_layKeys_58 : decode cX4_layKeys 58 = .ok (.getfield 154, 3) := by decide +kernel
theorem dX4_layKeys_61 : decode cX4_layKeys 61 = .ok (.iload_n 1, 1) := by decide +kernel
theorem dX4_layKeys_62 : decode cX4_layKeys 62 = .ok (.aload_n 0, 1) := by decide +kernel
theorem dX4_layKeys_63 : decode cX4_layKeys 63 = .ok (.getfield 18, 3) := by decide +kernel
theorem dX4_layKeys_66 : decode cX4_layKeys 66 = .ok (.getfield 84, 3) := by decide +kernel
theorem dX4_layKeys_69 : decode cX4_layKeys 69 = .ok (.ifCond .le 17, 3) := by decide +kernel
theorem dX4_layKeys_72 : decode cX4_layKeys 72 = .ok (.iload_n 2, 1) := by decide +kernel
theorem dX4_layKeys_73 : decode cX4_layKeys 73 = .ok (.aload_n 0, 1) := by decide +kernel
theorem dX4_layKeys_74 : decode cX4_layKeys 74 = .ok (.getfield 18, 3) := by decide +kernel
theorem dX4_layKeys_77 : decode cX4_layKeys 77 = .ok (.getfield 84, 3) := by decide +kernel
theorem dX4_layKeys_80 : decode cX4_layKeys 80 = .ok (.invokestatic 157, 3) := by decide +kernel
theorem dX4_layKeys_83 : decode cX4_layKeys 83 = .ok (.goto 4, 3) := by decide +kernel
theorem dX4_layKeys_86 : decode cX4_layKeys 86 = .ok (.iconst 0, 1) := by decide +kernel
theorem dX4_layKeys_87 : decode cX4_layKeys 87 = .ok (.iastore, 1) := by decide +kernel
theorem dX4_layKeys_88 : decode cX4_layKeys 88 = .ok (.iinc 1 1, 3) := by decide +kernel
theorem dX4_layKeys_91 : decode cX4_layKeys 91 = .ok (.goto (-89), 3) := by decide +kernel
theorem dX4_layKeys_94 : decode cX4_layKeys 94 = .ok (.return_, 1) := by decide +kernel
def fX4_layKeys (a0 : Nat) (G : Hp) : RT := bd 0 fun v1 => (lp (fun (_ : Int) (_ : Hp) => (none : RT)) 5000 (fun (rc4 : Int → Hp → RT) (v2 : Int) (G3 : Hp) => if v2 < (G3 ((rf a0 1)) 3) then (bh (up G3 a0 4 v2) fun G5 => br (rd G5 ((rf ((rf a0 1)) 7)) 10 v2) fun v6 => bd v6 fun v7 => jn (fun (v8 : Int) (G9 : Hp) => jn (fun (v11 : Int) => bs (wr G9 ((rf ((rf a0 1)) 8)) 10 v2 v11) fun G13 => bd (iadd v2 1) fun v14 => rc4 v14 G13) fun (K12 : Int → RT) => if 0 < (G9 ((rf a0 1)) 0) then (bp (fJ9_floorMod_7cf53 v8 (G9 ((rf a0 1)) 0) G9) fun v15 => K12 v15) else K12 0) fun (K10 : Int → Hp → RT) => if (G5 a0 3) = ((-1)) then K10 v7 G5 else (bn (fX7_goTo ((rf a0 0)) (G5 a0 3) G5) fun _ G16 => bn (fX4_valueOf a0 0 0 G16) fun v17 G18 => bd v17 fun v19 => K10 v19 G18)) else rt 0 G3)) v1 G
set_option maxRecDepth 20000 in
set_option maxHeartbeats 4000000 in
theorem tX4_layKeys (l : Launch) (x : WX) (hi : Inj x.2.2) (G : Hp) (a0 : Nat) (ha0 : kd a0 = 4) : Ct l x yX4_layKeys cX4_layKeys 3 none 66 129 129 [vR a0] G (fX4_layKeys a0 G) := by
  refine ct_of (plainFor_of_name (by decide)) hi (Nat.le_refl _) (Nat.le_refl _) (Nat.le_of_ble_eq_true rfl) (fun cx F hd hn0 hnE hl hQ => ?_)
  subst hl
  have F : Fx cx x RX4 cX4_layKeys 3 none := F
  show Y cx x 3 none 129 0 [(0, vR a0)] [] G _
  unfold fX4_layKeys
  refine x_iconst F dX4_layKeys_0 ⟨by decide, by decide⟩ rfl ?_
  refine x_istore_n F dX4_layKeys_1 rfl (by decide) rfl rfl (fun v1 => ?_)
  show Y cx x _ _ _ _ [(0, vR a0), (1, vI v1)] _ _ _
  refine x_lp (fun (rc4 : Int → Hp → RT) => ∀ (v2 : Int) (G3 : Hp), Y cx x 3 none 129 2 [(0, vR a0), (1, vI v2)] [] G3 (rc4 v2 G3)) (fun _ _ => Y_none) (fun rc4 hrc4 v2 G3 => ?_) 5000 v1 G
  refine x_iload_n F dX4_layKeys_2 rfl rfl rfl ?_
  refine x_aload_n F dX4_layKeys_3 rfl rfl rfl ?_
  refine x_getR F flX4_18 ha0 rfl dX4_layKeys_4 rfl ?_
  refine s_getI F flX4_125 (tf4_1 ha0).1 rfl dX4_layKeys_7 rfl ?_
  refine x_icmpge (pt := 94) F dX4_layKeys_10 rfl rfl ?_ ?_
  · refine x_aload_n F dX4_layKeys_13 rfl rfl rfl ?_
    refine x_iload_n F dX4_layKeys_14 rfl rfl rfl ?_
    refine s_putI F fpX4_33 ha0 rfl dX4_layKeys_15 rfl (fun G5 => ?_)
    refine x_aload_n F dX4_layKeys_18 rfl rfl rfl ?_
    refine x_getR F flX4_18 ha0 rfl dX4_layKeys_19 rfl ?_
    refine x_getR F flX4_131 (tf4_1 ha0).1 rfl dX4_layKeys_22 rfl ?_
    refine x_iload_n F dX4_layKeys_25 rfl rfl rfl ?_
    refine s_iald F (tf8_7 (tf4_1 ha0).1).1 (tf8_7 (tf4_1 ha0).1).2 dX4_layKeys_26 rfl (fun v6 => ?_)
    refine x_istore_n F dX4_layKeys_27 rfl (by decide) rfl rfl (fun v7 => ?_)
    show Y cx x _ _ _ _ [(0, vR a0), (1, vI v2), (2, vI v7)] _ _ _
    refine x_aload_n F dX4_layKeys_28 rfl rfl rfl ?_
    refine s_getI F flX4_29 ha0 rfl dX4_layKeys_29 rfl ?_
    refine x_iconst F dX4_layKeys_32 ⟨by decide, by decide⟩ rfl ?_
    refine x_jn (fun (K10 : Int → Hp → RT) => ∀ (v8 : Int) (G9 : Hp), Y cx x 3 none 129 54 [(0, vR a0), (1, vI v2), (2, vI v8)] [] G9 (K10 v8 G9)) ?_ (fun K10 hK10 => ?_)
    · intro v8 G9
      refine x_aload_n F dX4_layKeys_54 rfl rfl rfl ?_
      refine x_getR F flX4_18 ha0 rfl dX4_layKeys_55 rfl ?_
      refine x_getR F flX4_154 (tf4_1 ha0).1 rfl dX4_layKeys_58 rfl ?_
      refine x_iload_n F dX4_layKeys_61 rfl rfl rfl ?_
      refine x_aload_n F dX4_layKeys_62 rfl rfl rfl ?_
      refine x_getR F flX4_18 ha0 rfl dX4_layKeys_63 rfl ?_
      refine s_getI F flX4_84 (tf4_1 ha0).1 rfl dX4_layKeys_66 rfl ?_
      refine x_jn (fun (K12 : Int → RT) => ∀ (v11 : Int), Y cx x 3 none 129 87 [(0, vR a0), (1, vI v2)] [vI v11, vI v2, vR ((rf ((rf a0 1)) 8))] G9 (K12 v11)) ?_ (fun K12 hK12 => ?_)
      · intro v11
        refine s_iast F (tf8_8 (tf4_1 ha0).1).1 (tf8_8 (tf4_1 ha0).1).2 dX4_layKeys_87 rfl (fun G13 => ?_)
        refine x_iinc F dX4_layKeys_88 rfl (by decide) rfl rfl (fun v14 => ?_)
        show Y cx x _ _ _ _ [(0, vR a0), (1, vI v14)] _ _ _
        refine x_goto (pc' := 2) F dX4_layKeys_91 rfl ?_
        exact hrc4 v14 G13
      · refine x_ifle (pt := 86) F dX4_layKeys_69 rfl rfl ?_ ?_
        · refine x_iload_n F dX4_layKeys_72 rfl rfl rfl ?_
          refine x_aload_n F dX4_layKeys_73 rfl rfl rfl ?_
          refine x_getR F flX4_18 ha0 rfl dX4_layKeys_74 rfl ?_
          refine s_getI F flX4_84 (tf4_1 ha0).1 rfl dX4_layKeys_77 rfl ?_
          refine s_callSP F [vI v8, vI (G9 ((rf a0 1)) 0)] [vI v2, vR ((rf ((rf a0 1)) 8))] lkX4_157 mJ9_floorMod_7cf53 hnE hn0 hd pJ9_floorMod_7cf53 (tJ9_floorMod_7cf53 cx.l x hi G9 v8 (G9 ((rf a0 1)) 0)) rfl rfl dX4_layKeys_80 rfl rfl (fun v15 => ?_)
          refine x_goto (pc' := 87) F dX4_layKeys_83 rfl ?_
          refine x_dp (L' := [(0, vR a0), (1, vI v2)]) [0, 1] rfl ?_
          exact hK12 v15
        · refine x_iconst F dX4_layKeys_86 ⟨by decide, by decide⟩ rfl ?_
          refine x_dp (L' := [(0, vR a0), (1, vI v2)]) [0, 1] rfl ?_
          exact hK12 0
    · refine x_icmpeq (pt := 54) F dX4_layKeys_33 rfl rfl ?_ ?_
      · exact hK10 v7 G5
      · refine x_aload_n F dX4_layKeys_36 rfl rfl rfl ?_
        refine x_getR F flX4_9 ha0 rfl dX4_layKeys_37 rfl ?_
        refine x_aload_n F dX4_layKeys_40 rfl rfl rfl ?_
        refine s_getI F flX4_29 ha0 rfl dX4_layKeys_41 rfl ?_
        refine s_callVv F [vI (G5 a0 3)] [] lkX4_150 mX7_goTo rfl (tf4_0 ha0).1 rfl hnE hn0 hd (tX7_goTo cx.l x hi G5 ((rf a0 0)) (G5 a0 3) (tf4_0 ha0).1) rfl rfl dX4_layKeys_44 rfl rfl (fun _ G16 => ?_)
        refine x_aload_n F dX4_layKeys_47 rfl rfl rfl ?_
        refine x_iconst F dX4_layKeys_48 ⟨by decide, by decide⟩ rfl ?_
        refine x_iconst F dX4_layKeys_49 ⟨by decide, by decide⟩ rfl ?_
        refine s_callV F [vI 0, vI 0] [] lkX4_147 mX4_valueOf rfl ha0 rfl hnE hn0 hd (tX4_valueOf cx.l x hi G16 a0 0 0 ha0) rfl rfl dX4_layKeys_50 rfl rfl (fun v17 G18 => ?_)
        refine x_istore_n F dX4_layKeys_53 rfl (by decide) rfl rfl (fun v19 => ?_)
        show Y cx x _ _ _ _ [(0, vR a0), (1, vI v2), (2, vI v19)] _ _ _
        exact hK10 v19 G18
  · exact x_vret F hnE hQ dX4_layKeys_94
theorem dX4_readLine_0 : decode cX4_readLine 0 = .ok (.aload_n 0, 1) := by decide +kernel
theorem dX4_readLine_1 : decode cX4_readLine 1 = .ok (.getfield 9, 3) := by decide +kernel
theorem dX4_readLine_4 : decode cX4_readLine 4 = .ok (.iconst 0, 1) := by decide +kernel
theorem dX4_readLine_5 : decode cX4_readLine 5 = .ok (.iconst 5, 1) := by decide +kernel
theorem dX4_readLine_6 : decode cX4_readLine 6 = .ok (.invokevirtual 54, 3) := by decide +kernel
theorem dX4_readLine_9 : decode cX4_readLine 9 = .ok (.ifCond .ne 12, 3) := by decide +kernel
theorem dX4_readLine_12 : decode cX4_readLine 12 = .ok (.aload_n 0, 1) := by decide +kernel
theorem dX4_readLine_13 : decode cX4_readLine 13 = .ok (.getfield 9, 3) := by decide +kernel
theorem dX4_readLine_16 : decode cX4_readLine 16 = .ok (.iconst 1, 1) := by decide +kernel
theorem dX4_readLine_17 : decode cX4_readLine 17 = .ok (.invokevirtual 58, 3) := by decide +kernel
theorem dX4_readLine_20 : decode cX4_readLine 20 = .ok (.ireturn, 1) := by decide +kernel
theorem dX4_readLine_21 : decode cX4_readLine 21 = .ok (.aload_n 0, 1) := by decide +kernel
theorem dX4_readLine_22 : decode cX4_readLine 22 = .ok (.getfield 9, 3) := by decide +kernel
theorem dX4_readLine_25 : decode cX4_readLine 25 = .ok (.getfield 62, 3) := by decide +kernel
theorem dX4_readLine_28 : decode cX4_readLine 28 = .ok (.tableswitch 80 0 5 #[40, 48, 56, 64, 80, 72], 40) := by decide +kernel
theorem dX4_readLine_68 : decode cX4_readLine 68 = .ok (.aload_n 0, 1) := by decide +kernel
theorem dX4_readLine_69 : decode cX4_readLine 69 = .ok (.invokevirtual 65, 3) := by decide +kernel
theorem dX4_readLine_72 : decode cX4_readLine 72 = .ok (.istore_n 1, 1) := by decide +kernel
theorem dX4_readLine_73 : decode cX4_readLine 73 = .ok (.goto 44, 3) := by decide +kernel
theorem dX4_readLine_76 : decode cX4_readLine 76 = .ok (.aload_n 0, 1) := by decide +kernel
theorem dX4_readLine_77 : decode cX4_readLine 77 = .ok (.invokevirtual 68, 3) := by decide +kernel
theorem dX4_readLine_80 : decode cX4_readLine 80 = .ok (.istore_n 1, 1) := by decide +kernel
theorem dX4_readLine_81 : decode cX4_readLine 81 = .ok (.goto 36, 3) := by decide +kernel
theorem dX4_readLine_84 : decode cX4_readLine 84 = .ok (.aload_n 0, 1) := by decide +kernel
theorem dX4_readLine_85 : decode cX4_readLine 85 = .ok (.invokevirtual 71, 3) := by decide +kernel
theorem dX4_readLine_88 : decode cX4_readLine 88 = .ok (.istore_n 1, 1) := by decide +kernel
theorem dX4_readLine_89 : decode cX4_readLine 89 = .ok (.goto 28, 3) := by decide +kernel
theorem dX4_readLine_92 : decode cX4_readLine 92 = .ok (.aload_n 0, 1) := by decide +kernel
theorem dX4_readLine_93 : decode cX4_readLine 93 = .ok (.invokevirtual 74, 3) := by decide +kernel
theorem dX4_readLine_96 : decode cX4_readLine 96 = .ok (.istore_n 1, 1) := by decide +kernel
theorem dX4_readLine_97 : decode cX4_readLine 97 = .ok (.goto 20, 3) := by decide +kernel
theorem dX4_readLine_100 : decode cX4_readLine 100 = .ok (.aload_n 0, 1) := by decide +kernel
theorem dX4_readLine_101 : decode cX4_readLine 101 = .ok (.invokevirtual 77, 3) := by decide +kernel
theorem dX4_readLine_104 : decode cX4_readLine 104 = .ok (.istore_n 1, 1) := by decide +kernel
theorem dX4_readLine_105 : decode cX4_readLine 105 = .ok (.goto 12, 3) := by decide +kernel
theorem dX4_readLine_108 : decode cX4_readLine 108 = .ok (.aload_n 0, 1) := by decide +kernel
theorem dX4_readLine_109 : decode cX4_readLine 109 = .ok (.getfield 9, 3) := by decide +kernel
theorem dX4_readLine_112 : decode cX4_readLine 112 = .ok (.iconst 1, 1) := by decide +kernel
theorem dX4_readLine_113 : decode cX4_readLine 113 = .ok (.invokevirtual 58, 3) := by decide +kernel
theorem dX4_readLine_116 : decode cX4_readLine 116 = .ok (.istore_n 1, 1) := by decide +kernel
theorem dX4_readLine_117 : decode cX4_readLine 117 = .ok (.iload_n 1, 1) := by decide +kernel
theorem dX4_readLine_118 : decode cX4_readLine 118 = .ok (.ifCond .eq 19, 3) := by decide +kernel
theorem dX4_readLine_121 : decode cX4_readLine 121 = .ok (.aload_n 0, 1) := by decide +kernel
theorem dX4_readLine_122 : decode cX4_readLine 122 = .ok (.getfield 9, 3) := by decide +kernel
theorem dX4_readLine_125 : decode cX4_readLine 125 = .ok (.bipush 59, 2) := by decide +kernel
theorem dX4_readLine_127 : decode cX4_readLine 127 = .ok (.invokevirtual 80, 3) := by decide +kernel
theorem dX4_readLine_130 : decode cX4_readLine 130 = .ok (.ifCond .eq 7, 3) := by decide +kernel
theorem dX4_readLine_133 : decode cX4_readLine 133 = .ok (.iconst 1, 1) := by decide +kernel
theorem dX4_readLine_134 : decode cX4_readLine 134 = .ok (.goto 4, 3) := by decide +kernel
theorem dX4_readLine_137 : decode cX4_readLine 137 = .ok (.iconst 0, 1) := by decide +kernel
theorem dX4_readLine_138 : decode cX4_readLine 138 = .ok (.ireturn, 1) := by decide +kernel
def fX4_readLine (a0 : Nat) (G : Hp) : RT := bp (fX7_isWord ((rf a0 0)) 0 5 G) fun v1 => if v1 = 0 then (bn (fX7_wrong ((rf a0 0)) 1 G) fun v34 G35 => rz v34 G35) else (jn (fun (v2 : Int) (G3 : Hp) => if v2 = 0 then rz 0 G3 else (bn (fX7_takeSign ((rf a0 0)) 59 G3) fun v5 G6 => if v5 = 0 then rz 0 G6 else rz 1 G6)) fun (K4 : Int → Hp → RT) => if (G ((rf a0 0)) 6) = 0 then (bn (fX4_readCircle a0 G) fun v8 G9 => bd v8 fun v10 => K4 v10 G9) else (if (G ((rf a0 0)) 6) = 1 then (bn (fX4_readList a0 G) fun v12 G13 => bd v12 fun v14 => K4 v14 G13) else (if (G ((rf a0 0)) 6) = 2 then (bn (fX4_readNode a0 G) fun v16 G17 => bd v16 fun v18 => K4 v18 G17) else (if (G ((rf a0 0)) 6) = 3 then (bn (fX4_readKey a0 G) fun v20 G21 => bd v20 fun v22 => K4 v22 G21) else (if (G ((rf a0 0)) 6) = 4 then (bn (fX7_wrong ((rf a0 0)) 1 G) fun v24 G25 => bd v24 fun v26 => K4 v26 G25) else (if (G ((rf a0 0)) 6) = 5 then (bn (fX4_readLaw a0 G) fun v28 G29 => bd v28 fun v30 => K4 v30 G29) else (bn (fX7_wrong ((rf a0 0)) 1 G) fun v31 G32 => bd v31 fun v33 => K4 v33 G32)))))))
set_option maxRecDepth 20000 in
set_option maxHeartbeats 4000000 in
theorem tX4_readLine (l : Launch) (x : WX) (hi : Inj x.2.2) (G : Hp) (a0 : Nat) (ha0 : kd a0 = 4) : Ct l x yX4_readLine cX4_readLine 2 (some .boolean) 67 129 129 [vR a0] G (fX4_readLine a0 G) := by
  refine ct_of (plainFor_of_name (by decide)) hi (Nat.le_refl _) (Nat.le_refl _) (Nat.le_of_ble_eq_true rfl) (fun cx F hd hn0 hnE hl hQ => ?_)
  subst hl
  have F : Fx cx x RX4 cX4_readLine 2 (some .boolean) := F
  show Y cx x 2 (some .boolean) 129 0 [(0, vR a0)] [] G _
  unfold fX4_readLine
  refine x_aload_n F dX4_readLine_0 rfl rfl rfl ?_
  refine x_getR F flX4_9 ha0 rfl dX4_readLine_1 rfl ?_
  refine x_iconst F dX4_readLine_4 ⟨by decide, by decide⟩ rfl ?_
  refine x_iconst F dX4_readLine_5 ⟨by decide, by decide⟩ rfl ?_
  refine s_callVP F [vI 0, vI 5] [] lkX4_54 mX7_isWord rfl (tf4_0 ha0).1 rfl hnE hn0 hd pX7_isWord (tX7_isWord cx.l x hi G ((rf a0 0)) 0 5 (tf4_0 ha0).1) rfl rfl dX4_readLine_6 rfl rfl (fun v1 => ?_)
  refine x_ifne (pt := 21) F dX4_readLine_9 rfl rfl ?_ ?_
  · refine x_aload_n F dX4_readLine_12 rfl rfl rfl ?_
    refine x_getR F flX4_9 ha0 rfl dX4_readLine_13 rfl ?_
    refine x_iconst F dX4_readLine_16 ⟨by decide, by decide⟩ rfl ?_
    refine s_callV F [vI 1] [] lkX4_58 mX7_wrong rfl (tf4_0 ha0).1 rfl hnE hn0 hd (tX7_wrong cx.l x hi G ((rf a0 0)) 1 (tf4_0 ha0).1) rfl rfl dX4_readLine_17 rfl rfl (fun v34 G35 => ?_)
    exact x_zret F hnE hQ dX4_readLine_20
  · refine x_aload_n F dX4_readLine_21 rfl rfl rfl ?_
    refine x_getR F flX4_9 ha0 rfl dX4_readLine_22 rfl ?_
    refine s_getI F flX4_62 (tf4_0 ha0).1 rfl dX4_readLine_25 rfl ?_
    refine x_jn (fun (K4 : Int → Hp → RT) => ∀ (v2 : Int) (G3 : Hp), Y cx x 2 (some .boolean) 129 117 [(0, vR a0), (1, vI v2)] [] G3 (K4 v2 G3)) ?_ (fun K4 hK4 => ?_)
    · intro v2 G3
      refine x_iload_n F dX4_readLine_117 rfl rfl rfl ?_
      refine x_ifeq (pt := 137) F dX4_readLine_118 rfl rfl ?_ ?_
      · refine x_iconst F dX4_readLine_137 ⟨by decide, by decide⟩ rfl ?_
        exact x_zret F hnE hQ dX4_readLine_138
      · refine x_aload_n F dX4_readLine_121 rfl rfl rfl ?_
        refine x_getR F flX4_9 ha0 rfl dX4_readLine_122 rfl ?_
        refine x_bipush F dX4_readLine_125 ⟨by decide, by decide⟩ (by decide) rfl ?_
        refine s_callV F [vI 59] [] lkX4_80 mX7_takeSign rfl (tf4_0 ha0).1 rfl hnE hn0 hd (tX7_takeSign cx.l x hi G3 ((rf a0 0)) 59 (tf4_0 ha0).1) rfl rfl dX4_readLine_127 rfl rfl (fun v5 G6 => ?_)
        refine x_ifeq (pt := 137) F dX4_readLine_130 rfl rfl ?_ ?_
        · refine x_iconst F dX4_readLine_137 ⟨by decide, by decide⟩ rfl ?_
          exact x_zret F hnE hQ dX4_readLine_138
        · refine x_iconst F dX4_readLine_133 ⟨by decide, by decide⟩ rfl ?_
          refine x_goto (pc' := 138) F dX4_readLine_134 rfl ?_
          exact x_zret F hnE hQ dX4_readLine_138
    · refine x_ite (fun h7 => ?_) (fun h7 => ?_)
      · refine x_tabIn (off := 40) (pc' := 68) F dX4_readLine_28 (by omega) (by omega) (by rw [h7]; rfl) rfl ?_
        refine x_aload_n F dX4_readLine_68 rfl rfl rfl ?_
        refine s_callV F [] [] lkX4_65 mX4_readCircle rfl ha0 rfl hnE hn0 hd (tX4_readCircle cx.l x hi G a0 ha0) rfl rfl dX4_readLine_69 rfl rfl (fun v8 G9 => ?_)
        refine x_istore_n F dX4_readLine_72 rfl (by decide) rfl rfl (fun v10 => ?_)
        show Y cx x _ _ _ _ [(0, vR a0), (1, vI v10)] _ _ _
        refine x_goto (pc' := 117) F dX4_readLine_73 rfl ?_
        exact hK4 v10 G9
      · refine x_ite (fun h11 => ?_) (fun h11 => ?_)
        · refine x_tabIn (off := 48) (pc' := 76) F dX4_readLine_28 (by omega) (by omega) (by rw [h11]; rfl) rfl ?_
          refine x_aload_n F dX4_readLine_76 rfl rfl rfl ?_
          refine s_callV F [] [] lkX4_68 mX4_readList rfl ha0 rfl hnE hn0 hd (tX4_readList cx.l x hi G a0 ha0) rfl rfl dX4_readLine_77 rfl rfl (fun v12 G13 => ?_)
          refine x_istore_n F dX4_readLine_80 rfl (by decide) rfl rfl (fun v14 => ?_)
          show Y cx x _ _ _ _ [(0, vR a0), (1, vI v14)] _ _ _
          refine x_goto (pc' := 117) F dX4_readLine_81 rfl ?_
          exact hK4 v14 G13
        · refine x_ite (fun h15 => ?_) (fun h15 => ?_)
          · refine x_tabIn (off := 56) (pc' := 84) F dX4_readLine_28 (by omega) (by omega) (by rw [h15]; rfl) rfl ?_
            refine x_aload_n F dX4_readLine_84 rfl rfl rfl ?_
            refine s_callV F [] [] lkX4_71 mX4_readNode rfl ha0 rfl hnE hn0 hd (tX4_readNode cx.l x hi G a0 ha0) rfl rfl dX4_readLine_85 rfl rfl (fun v16 G17 => ?_)
            refine x_istore_n F dX4_readLine_88 rfl (by decide) rfl rfl (fun v18 => ?_)
            show Y cx x _ _ _ _ [(0, vR a0), (1, vI v18)] _ _ _
            refine x_goto (pc' := 117) F dX4_readLine_89 rfl ?_
            exact hK4 v18 G17
          · refine x_ite (fun h19 => ?_) (fun h19 => ?_)
            · refine x_tabIn (off := 64) (pc' := 92) F dX4_readLine_28 (by omega) (by omega) (by rw [h19]; rfl) rfl ?_
              refine x_aload_n F dX4_readLine_92 rfl rfl rfl ?_
              refine s_callV F [] [] lkX4_74 mX4_readKey rfl ha0 rfl hnE hn0 hd (tX4_readKey cx.l x hi G a0 ha0) rfl rfl dX4_readLine_93 rfl rfl (fun v20 G21 => ?_)
              refine x_istore_n F dX4_readLine_96 rfl (by decide) rfl rfl (fun v22 => ?_)
              show Y cx x _ _ _ _ [(0, vR a0), (1, vI v22)] _ _ _
              refine x_goto (pc' := 117) F dX4_readLine_97 rfl ?_
              exact hK4 v22 G21
            · refine x_ite (fun h23 => ?_) (fun h23 => ?_)
              · refine x_tabIn (off := 80) (pc' := 108) F dX4_readLine_28 (by omega) (by omega) (by rw [h23]; rfl) rfl ?_
                refine x_aload_n F dX4_readLine_108 rfl rfl rfl ?_
                refine x_getR F flX4_9 ha0 rfl dX4_readLine_109 rfl ?_
                refine x_iconst F dX4_readLine_112 ⟨by decide, by decide⟩ rfl ?_
                refine s_callV F [vI 1] [] lkX4_58 mX7_wrong rfl (tf4_0 ha0).1 rfl hnE hn0 hd (tX7_wrong cx.l x hi G ((rf a0 0)) 1 (tf4_0 ha0).1) rfl rfl dX4_readLine_113 rfl rfl (fun v24 G25 => ?_)
                refine x_istore_n F dX4_readLine_116 rfl (by decide) rfl rfl (fun v26 => ?_)
                show Y cx x _ _ _ _ [(0, vR a0), (1, vI v26)] _ _ _
                exact hK4 v26 G25
              · refine x_ite (fun h27 => ?_) (fun h27 => ?_)
                · refine x_tabIn (off := 72) (pc' := 100) F dX4_readLine_28 (by omega) (by omega) (by rw [h27]; rfl) rfl ?_
                  refine x_aload_n F dX4_readLine_100 rfl rfl rfl ?_
                  refine s_callV F [] [] lkX4_77 mX4_readLaw rfl ha0 rfl hnE hn0 hd (tX4_readLaw cx.l x hi G a0 ha0) rfl rfl dX4_readLine_101 rfl rfl (fun v28 G29 => ?_)
                  refine x_istore_n F dX4_readLine_104 rfl (by decide) rfl rfl (fun v30 => ?_)
                  show Y cx x _ _ _ _ [(0, vR a0), (1, vI v30)] _ _ _
                  refine x_goto (pc' := 117) F dX4_readLine_105 rfl ?_
                  exact hK4 v30 G29
                · refine x_tabOut (pc' := 108) F dX4_readLine_28 (by omega) rfl ?_
                  refine x_aload_n F dX4_readLine_108 rfl rfl rfl ?_
                  refine x_getR F flX4_9 ha0 rfl dX4_readLine_109 rfl ?_
                  refine x_iconst F dX4_readLine_112 ⟨by decide, by decide⟩ rfl ?_
                  refine s_callV F [vI 1] [] lkX4_58 mX7_wrong rfl (tf4_0 ha0).1 rfl hnE hn0 hd (tX7_wrong cx.l x hi G ((rf a0 0)) 1 (tf4_0 ha0).1) rfl rfl dX4_readLine_113 rfl rfl (fun v31 G32 => ?_)
                  refine x_istore_n F dX4_readLine_116 rfl (by decide) rfl rfl (fun v33 => ?_)
                  show Y cx x _ _ _ _ [(0, vR a0), (1, vI v33)] _ _ _
                  exact hK4 v33 G32
theorem dX4_readRing_0 : decode cX4_readRing 0 = .ok (.aload_n 0, 1) := by decide +kernel
theorem dX4_readRing_1 : decode cX4_readRing 1 = .ok (.getfield 18, 3) := by decide +kernel
theorem dX4_readRing_4 : decode cX4_readRing 4 = .ok (.invokevirtual 22, 3) := by decide +kernel
theorem dX4_readRing_7 : decode cX4_readRing 7 = .ok (.aload_n 0, 1) := by decide +kernel
theorem dX4_readRing_8 : decode cX4_readRing 8 = .ok (.iconst 0, 1) := by decide +kernel
theorem dX4_readRing_9 : decode cX4_readRing 9 = .ok (.putfield 25, 3) := by decide +kernel
theorem dX4_readRing_12 : decode cX4_readRing 12 = .ok (.aload_n 0, 1) := by decide +kernel
theorem dX4_readRing_13 : decode cX4_readRing 13 = .ok (.iconst (-1), 1) := by decide +kernel
theorem dX4_readRing_14 : decode cX4_readRing 14 = .ok (.putfield 29, 3) := by decide +kernel
theorem dX4_readRing_17 : decode cX4_readRing 17 = .ok (.aload_n 0, 1) := by decide +kernel
theorem dX4_readRing_18 : decode cX4_readRing 18 = .ok (.iconst 0, 1) := by decide +kernel
theorem dX4_readRing_19 : decode cX4_readRing 19 = .ok (.putfield 33, 3) := by decide +kernel
theorem dX4_readRing_22 : decode cX4_readRing 22 = .ok (.aload_n 0, 1) := by decide +kernel
theorem dX4_readRing_23 : decode cX4_readRing 23 = .ok (.getfield 9, 3) := by decide +kernel
theorem dX4_readRing_26 : decode cX4_readRing 26 = .ok (.invokevirtual 36, 3) := by decide +kernel
theorem dX4_readRing_29 : decode cX4_readRing 29 = .ok (.iconst 1, 1) := by decide +kernel
theorem dX4_readRing_30 : decode cX4_readRing 30 = .ok (.istore_n 1, 1) := by decide +kernel
theorem dX4_readRing_31 : decode cX4_readRing 31 = .ok (.iconst 0, 1) := by decide +kernel
theorem dX4_readRing_32 : decode cX4_readRing 32 = .ok (.istore_n 2, 1) := by decide +kernel
theorem dX4_readRing_33 : decode cX4_readRing 33 = .ok (.iload_n 2, 1) := by decide +kernel
theorem dX4_readRing_34 : decode cX4_readRing 34 = .ok (.sipush 1000, 3) := by decide +kernel
theorem dX4_readRing_37 : decode cX4_readRing 37 = .ok (.if_icmp .ge 28, 3) := by decide +kernel
theorem dX4_readRing_40 : decode cX4_readRing 40 = .ok (.iload_n 1, 1) := by decide +kernel
theorem dX4_readRing_41 : decode cX4_readRing 41 = .ok (.ifCond .eq 24, 3) := by decide +kernel
theorem dX4_readRing_44 : decode cX4_readRing 44 = .ok (.aload_n 0, 1) := by decide +kernel
theorem dX4_readRing_45 : decode cX4_readRing 45 = .ok (.getfield 9, 3) := by decide +kernel
theorem dX4_readRing_48 : decode cX4_readRing 48 = .ok (.getfield 41, 3) := by decide +kernel
theorem dX4_readRing_51 : decode cX4_readRing 51 = .ok (.ifCond .eq 14, 3) := by decide +kernel
theorem dX4_readRing_54 : decode cX4_readRing 54 = .ok (.aload_n 0, 1) := by decide +kernel
theorem dX4_readRing_55 : decode cX4_readRing 55 = .ok (.invokevirtual 44, 3) := by decide +kernel
theorem dX4_readRing_58 : decode cX4_readRing 58 = .ok (.istore_n 1, 1) := by decide +kernel
theorem dX4_readRing_59 : decode cX4_readRing 59 = .ok (.iinc 2 1, 3) := by decide +kernel
theorem dX4_readRing_62 : decode cX4_readRing 62 = .ok (.goto (-29), 3) := by decide +kernel
theorem dX4_readRing_65 : decode cX4_readRing 65 = .ok (.iload_n 1, 1) := by decide +kernel
theorem dX4_readRing_66 : decode cX4_readRing 66 = .ok (.ifCond .eq 7, 3) := by decide +kernel
theorem dX4_readRing_69 : decode cX4_readRing 69 = .ok (.aload_n 0, 1) := by decide +kernel
theorem dX4_readRing_70 : decode cX4_readRing 70 = .ok (.invokevirtual 48, 3) := by decide +kernel
theorem dX4_readRing_73 : decode cX4_readRing 73 = .ok (.aload_n 0, 1) := by decide +kernel
theorem dX4_readRing_74 : decode cX4_readRing 74 = .ok (.getfield 9, 3) := by decide +kernel
theorem dX4_readRing_77 : decode cX4_readRing 77 = .ok (.getfield 51, 3) := by decide +kernel
theorem dX4_readRing_80 : decode cX4_readRing 80 = .ok (.ireturn, 1) := by decide +kernel
def fX4_readRing (a0 : Nat) (G : Hp) : RT := bn (fX8_clear ((rf a0 1)) G) fun _ G1 => pz 0 (bh (up G1 a0 2 0) fun G2 => bh (up G2 a0 3 ((-1))) fun G3 => bh (up G3 a0 4 0) fun G4 => bn (fX7_restart ((rf a0 0)) G4) fun _ G5 => bd 1 fun v6 => bd 0 fun v7 => (lp (fun (_ : Int) (_ : Int) (_ : Hp) => (none : RT)) 5000 (fun (rc11 : Int → Int → Hp → RT) (v8 : Int) (v9 : Int) (G10 : Hp) => jn (jn (fun (G13 : Hp) => rt (G13 ((rf a0 0)) 8) G13) fun (K14 : Hp → RT) => if v8 = 0 then K14 G10 else (bn (fX4_layKeys a0 G10) fun _ G15 => K14 G15)) fun (K12 : RT) => if v9 < 1000 then (if v8 = 0 then K12 else (if (G10 ((rf a0 0)) 4) = 0 then K12 else (bn (fX4_readLine a0 G10) fun v17 G18 => bd v17 fun v19 => bd (iadd v9 1) fun v20 => rc11 v19 v20 G18))) else K12)) v6 v7 G5)
set_option maxRecDepth 20000 in
set_option maxHeartbeats 4000000 in
theorem tX4_readRing (l : Launch) (x : WX) (hi : Inj x.2.2) (G : Hp) (a0 : Nat) (ha0 : kd a0 = 4) : Ct l x yX4_readRing cX4_readRing 3 (some .int) 68 129 129 [vR a0] G (fX4_readRing a0 G) := by
  refine ct_of (plainFor_of_name (by decide)) hi (Nat.le_refl _) (Nat.le_refl _) (Nat.le_of_ble_eq_true rfl) (fun cx F hd hn0 hnE hl hQ => ?_)
  subst hl
  have F : Fx cx x RX4 cX4_readRing 3 (some .int) := F
  show Y cx x 3 (some .int) 129 0 [(0, vR a0)] [] G _
  unfold fX4_readRing
  refine x_aload_n F dX4_readRing_0 rfl rfl rfl ?_
  refine x_getR F flX4_18 ha0 rfl dX4_readRing_1 rfl ?_
  refine s_callVv F [] [] lkX4_22 mX8_clear rfl (tf4_1 ha0).1 rfl hnE hn0 hd (tX8_clear cx.l x hi G ((rf a0 1)) (tf4_1 ha0).1) rfl rfl dX4_readRing_4 rfl rfl (fun _ G1 => ?_)
  refine x_aload_n F dX4_readRing_7 rfl rfl rfl ?_
  refine x_iconst F dX4_readRing_8 ⟨by decide, by decide⟩ rfl ?_
  refine s_putZ F fpX4_25 ha0 rfl dX4_readRing_9 rfl (fun G2 => ?_)
  refine x_aload_n F dX4_readRing_12 rfl rfl rfl ?_
  refine x_iconst F dX4_readRing_13 ⟨by decide, by decide⟩ rfl ?_
  refine s_putI F fpX4_29 ha0 rfl dX4_readRing_14 rfl (fun G3 => ?_)
  refine x_aload_n F dX4_readRing_17 rfl rfl rfl ?_
  refine x_iconst F dX4_readRing_18 ⟨by decide, by decide⟩ rfl ?_
  refine s_putI F fpX4_33 ha0 rfl dX4_readRing_19 rfl (fun G4 => ?_)
  refine x_aload_n F dX4_readRing_22 rfl rfl rfl ?_
  refine x_getR F flX4_9 ha0 rfl dX4_readRing_23 rfl ?_
  refine s_callVv F [] [] lkX4_36 mX7_restart rfl (tf4_0 ha0).1 rfl hnE hn0 hd (tX7_restart cx.l x hi G4 ((rf a0 0)) (tf4_0 ha0).1) rfl rfl dX4_readRing_26 rfl rfl (fun _ G5 => ?_)
  refine x_iconst F dX4_readRing_29 ⟨by decide, by decide⟩ rfl ?_
  refine x_istore_n F dX4_readRing_30 rfl (by decide) rfl rfl (fun v6 => ?_)
  show Y cx x _ _ _ _ [(0, vR a0), (1, vI v6)] _ _ _
  refine x_iconst F dX4_readRing_31 ⟨by decide, by decide⟩ rfl ?_
  refine x_istore_n F dX4_readRing_32 rfl (by decide) rfl rfl (fun v7 => ?_)
  show Y cx x _ _ _ _ [(0, vR a0), (1, vI v6), (2, vI v7)] _ _ _
  refine x_lp (fun (rc11 : Int → Int → Hp → RT) => ∀ (v8 : Int) (v9 : Int) (G10 : Hp), Y cx x 3 (some .int) 129 33 [(0, vR a0), (1, vI v8), (2, vI v9)] [] G10 (rc11 v8 v9 G10)) (fun _ _ _ => Y_none) (fun rc11 hrc11 v8 v9 G10 => ?_) 5000 v6 v7 G5
  refine x_iload_n F dX4_readRing_33 rfl rfl rfl ?_
  refine x_sipush F dX4_readRing_34 ⟨by decide, by decide⟩ (by decide) rfl ?_
  refine x_jn (fun (K12 : RT) => Y cx x 3 (some .int) 129 65 [(0, vR a0), (1, vI v8)] [] G10 K12) ?_ (fun K12 hK12 => ?_)
  · refine x_iload_n F dX4_readRing_65 rfl rfl rfl ?_
    refine x_jn (fun (K14 : Hp → RT) => ∀ (G13 : Hp), Y cx x 3 (some .int) 129 73 [(0, vR a0)] [] G13 (K14 G13)) ?_ (fun K14 hK14 => ?_)
    · intro G13
      refine x_aload_n F dX4_readRing_73 rfl rfl rfl ?_
      refine x_getR F flX4_9 ha0 rfl dX4_readRing_74 rfl ?_
      refine s_getI F flX4_51 (tf4_0 ha0).1 rfl dX4_readRing_77 rfl ?_
      exact x_iret F hnE hQ dX4_readRing_80
    · refine x_ifeq (pt := 73) F dX4_readRing_66 rfl rfl ?_ ?_
      · refine x_dp (L' := [(0, vR a0)]) [0] rfl ?_
        exact hK14 G10
      · refine x_aload_n F dX4_readRing_69 rfl rfl rfl ?_
        refine s_callVv F [] [] lkX4_48 mX4_layKeys rfl ha0 rfl hnE hn0 hd (tX4_layKeys cx.l x hi G10 a0 ha0) rfl rfl dX4_readRing_70 rfl rfl (fun _ G15 => ?_)
        refine x_dp (L' := [(0, vR a0)]) [0] rfl ?_
        exact hK14 G15
  · refine x_icmpge (pt := 65) F dX4_readRing_37 rfl rfl ?_ ?_
    · refine x_iload_n F dX4_readRing_40 rfl rfl rfl ?_
      refine x_ifeq (pt := 65) F dX4_readRing_41 rfl rfl ?_ ?_
      · refine x_dp (L' := [(0, vR a0), (1, vI v8)]) [0, 1] rfl ?_
        exact hK12
      · refine x_aload_n F dX4_readRing_44 rfl rfl rfl ?_
        refine x_getR F flX4_9 ha0 rfl dX4_readRing_45 rfl ?_
        refine s_getI F flX4_41 (tf4_0 ha0).1 rfl dX4_readRing_48 rfl ?_
        refine x_ifeq (pt := 65) F dX4_readRing_51 rfl rfl ?_ ?_
        · refine x_dp (L' := [(0, vR a0), (1, vI v8)]) [0, 1] rfl ?_
          exact hK12
        · refine x_aload_n F dX4_readRing_54 rfl rfl rfl ?_
          refine s_callV F [] [] lkX4_44 mX4_readLine rfl ha0 rfl hnE hn0 hd (tX4_readLine cx.l x hi G10 a0 ha0) rfl rfl dX4_readRing_55 rfl rfl (fun v17 G18 => ?_)
          refine x_istore_n F dX4_readRing_58 rfl (by decide) rfl rfl (fun v19 => ?_)
          show Y cx x _ _ _ _ [(0, vR a0), (1, vI v19), (2, vI v9)] _ _ _
          refine x_iinc F dX4_readRing_59 rfl (by decide) rfl rfl (fun v20 => ?_)
          show Y cx x _ _ _ _ [(0, vR a0), (1, vI v19), (2, vI v20)] _ _ _
          refine x_goto (pc' := 33) F dX4_readRing_62 rfl ?_
          exact hrc11 v19 v20 G18
    · refine x_dp (L' := [(0, vR a0), (1, vI v8)]) [0, 1] rfl ?_
      exact hK12
theorem dX11_ring_0 : decode cX11_ring 0 = .ok (.aload_n 0, 1) := by decide +kernel
theorem dX11_ring_1 : decode cX11_ring 1 = .ok (.getfield 28, 3) := by decide +kernel
theorem dX11_ring_4 : decode cX11_ring 4 = .ok (.invokevirtual 105, 3) := by decide +kernel
theorem dX11_ring_7 : decode cX11_ring 7 = .ok (.istore_n 1, 1) := by decide +kernel
theorem dX11_ring_8 : decode cX11_ring 8 = .ok (.aload_n 0, 1) := by decide +kernel
theorem dX11_ring_9 : decode cX11_ring 9 = .ok (.getfield 10, 3) := by decide +kernel
theorem dX11_ring_12 : decode cX11_ring 12 = .ok (.invokevirtual 109, 3) := by decide +kernel
theorem dX11_ring_15 : decode cX11_ring 15 = .ok (.iload_n 1, 1) := by decide +kernel
theorem dX11_ring_16 : decode cX11_ring 16 = .ok (.ifCond .ne 45, 3) := by decide +kernel
theorem dX11_ring_19 : decode cX11_ring 19 = .ok (.aload_n 0, 1) := by decide +kernel
theorem dX11_ring_20 : decode cX11_ring 20 = .ok (.getfield 19, 3) := by decide +kernel
theorem dX11_ring_23 : decode cX11_ring 23 = .ok (.aload_n 0, 1) := by decide +kernel
theorem dX11_ring_24 : decode cX11_ring 24 = .ok (.getfield 28, 3) := by decide +kernel
theorem dX11_ring_27 : decode cX11_ring 27 = .ok (.getfield 112, 3) := by decide +kernel
theorem dX11_ring_30 : decode cX11_ring 30 = .ok (.invokevirtual 114, 3) := by decide +kernel
theorem dX11_ring_33 : decode cX11_ring 33 = .ok (.aload_n 0, 1) := by decide +kernel
theorem dX11_ring_34 : decode cX11_ring 34 = .ok (.getfield 45, 3) := by decide +kernel
theorem dX11_ring_37 : decode cX11_ring 37 = .ok (.invokevirtual 118, 3) := by decide +kernel
theorem dX11_ring_40 : decode cX11_ring 40 = .ok (.aload_n 0, 1) := by decide +kernel
theorem dX11_ring_41 : decode cX11_ring 41 = .ok (.getfield 35, 3) := by decide +kernel
theorem dX11_ring_44 : decode cX11_ring 44 = .ok (.invokevirtual 119, 3) := by decide +kernel
theorem dX11_ring_47 : decode cX11_ring 47 = .ok (.aload_n 0, 1) := by decide +kernel
theorem dX11_ring_48 : decode cX11_ring 48 = .ok (.getfield 86, 3) := by decide +kernel
theorem dX11_ring_51 : decode cX11_ring 51 = .ok (.invokevirtual 120, 3) := by decide +kernel
theorem dX11_ring_54 : decode cX11_ring 54 = .ok (.aload_n 0, 1) := by decide +kernel
theorem dX11_ring_55 : decode cX11_ring 55 = .ok (.getfield 93, 3) := by decide +kernel
theorem dX11_ring_58 : decode cX11_ring 58 = .ok (.invokevirtual 121, 3) := by decide +kernel
theorem dX11_ring_61 : decode cX11_ring 61 = .ok (.iload_n 1, 1) := by decide +kernel
theorem dX11_ring_62 : decode cX11_ring 62 = .ok (.ireturn, 1) := by decide +kernel
def fX11_ring (a0 : Nat) (G : Hp) : RT := bn (fX4_readRing ((rf a0 2)) G) fun v1 G2 => bd v1 fun v3 => bn (fX7_clear ((rf a0 0)) G2) fun _ G4 => if v3 = 0 then (bn (fX8_copyFrom ((rf a0 1)) ((rf ((rf a0 2)) 1)) G4) fun _ G5 => bn (fX6_clear ((rf a0 5)) G5) fun _ G6 => bn (fX10_clear ((rf a0 3)) G6) fun _ G7 => bn (fX5_clear ((rf a0 10)) G7) fun _ G8 => bn (fX3_clear ((rf a0 11)) G8) fun _ G9 => rt v3 G9) else rt v3 G4
set_option maxRecDepth 20000 in
set_option maxHeartbeats 4000000 in
theorem tX11_ring (l : Launch) (x : WX) (hi : Inj x.2.2) (G : Hp) (a0 : Nat) (ha0 : kd a0 = 11) : Ct l x yX11_ring cX11_ring 2 (some .int) 69 129 129 [vR a0] G (fX11_ring a0 G) := by
  refine ct_of (plainFor_of_name (by decide)) hi (Nat.le_refl _) (Nat.le_refl _) (Nat.le_of_ble_eq_true rfl) (fun cx F hd hn0 hnE hl hQ => ?_)
  subst hl
  have F : Fx cx x RX11 cX11_ring 2 (some .int) := F
  show Y cx x 2 (some .int) 129 0 [(0, vR a0)] [] G _
  unfold fX11_ring
  refine x_aload_n F dX11_ring_0 rfl rfl rfl ?_
  refine x_getR F flX11_28 ha0 rfl dX11_ring_1 rfl ?_
  refine s_callV F [] [] lkX11_105 mX4_readRing rfl (tf11_2 ha0).1 rfl hnE hn0 hd (tX4_readRing cx.l x hi G ((rf a0 2)) (tf11_2 ha0).1) rfl rfl dX11_ring_4 rfl rfl (fun v1 G2 => ?_)
  refine x_istore_n F dX11_ring_7 rfl (by decide) rfl rfl (fun v3 => ?_)
  show Y cx x _ _ _ _ [(0, vR a0), (1, vI v3)] _ _ _
  refine x_aload_n F dX11_ring_8 rfl rfl rfl ?_
  refine x_getR F flX11_10 ha0 rfl dX11_ring_9 rfl ?_
  refine s_callVv F [] [] lkX11_109 mX7_clear rfl (tf11_0 ha0).1 rfl hnE hn0 hd (tX7_clear cx.l x hi G2 ((rf a0 0)) (tf11_0 ha0).1) rfl rfl dX11_ring_12 rfl rfl (fun _ G4 => ?_)
  refine x_iload_n F dX11_ring_15 rfl rfl rfl ?_
  refine x_ifne (pt := 61) F dX11_ring_16 rfl rfl ?_ ?_
  · refine x_aload_n F dX11_ring_19 rfl rfl rfl ?_
    refine x_getR F flX11_19 ha0 rfl dX11_ring_20 rfl ?_
    refine x_aload_n F dX11_ring_23 rfl rfl rfl ?_
    refine x_getR F flX11_28 ha0 rfl dX11_ring_24 rfl ?_
    refine x_getR F flX11_112 (tf11_2 ha0).1 rfl dX11_ring_27 rfl ?_
    refine s_callVv F [vR ((rf ((rf a0 2)) 1))] [] lkX11_114 mX8_copyFrom rfl (tf11_1 ha0).1 rfl hnE hn0 hd (tX8_copyFrom cx.l x hi G4 ((rf a0 1)) ((rf ((rf a0 2)) 1)) (tf11_1 ha0).1 (tf4_1 (tf11_2 ha0).1).1) rfl rfl dX11_ring_30 rfl rfl (fun _ G5 => ?_)
    refine x_aload_n F dX11_ring_33 rfl rfl rfl ?_
    refine x_getR F flX11_45 ha0 rfl dX11_ring_34 rfl ?_
    refine s_callVv F [] [] lkX11_118 mX6_clear rfl (tf11_5 ha0).1 rfl hnE hn0 hd (tX6_clear cx.l x hi G5 ((rf a0 5)) (tf11_5 ha0).1) rfl rfl dX11_ring_37 rfl rfl (fun _ G6 => ?_)
    refine x_aload_n F dX11_ring_40 rfl rfl rfl ?_
    refine x_getR F flX11_35 ha0 rfl dX11_ring_41 rfl ?_
    refine s_callVv F [] [] lkX11_119 mX10_clear rfl (tf11_3 ha0).1 rfl hnE hn0 hd (tX10_clear cx.l x hi G6 ((rf a0 3)) (tf11_3 ha0).1) rfl rfl dX11_ring_44 rfl rfl (fun _ G7 => ?_)
    refine x_aload_n F dX11_ring_47 rfl rfl rfl ?_
    refine x_getR F flX11_86 ha0 rfl dX11_ring_48 rfl ?_
    refine s_callVv F [] [] lkX11_120 mX5_clear rfl (tf11_10 ha0).1 rfl hnE hn0 hd (tX5_clear cx.l x hi G7 ((rf a0 10)) (tf11_10 ha0).1) rfl rfl dX11_ring_51 rfl rfl (fun _ G8 => ?_)
    refine x_aload_n F dX11_ring_54 rfl rfl rfl ?_
    refine x_getR F flX11_93 ha0 rfl dX11_ring_55 rfl ?_
    refine s_callVv F [] [] lkX11_121 mX3_clear rfl (tf11_11 ha0).1 rfl hnE hn0 hd (tX3_clear cx.l x hi G8 ((rf a0 11)) (tf11_11 ha0).1) rfl rfl dX11_ring_58 rfl rfl (fun _ G9 => ?_)
    refine x_iload_n F dX11_ring_61 rfl rfl rfl ?_
    exact x_iret F hnE hQ dX11_ring_62
  · refine x_iload_n F dX11_ring_61 rfl rfl rfl ?_
    exact x_iret F hnE hQ dX11_ring_62
