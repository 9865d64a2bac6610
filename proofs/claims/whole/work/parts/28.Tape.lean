theorem dX7_addBytes_0 : decode cX7_addBytes 0 = .ok (.bipush 56, 2) := by decide +kernel
theorem dX7_addBytes_2 : decode cX7_addBytes 2 = .ok (.istore_n 3, 1) := by decide +kernel
theorem dX7_addBytes_3 : decode cX7_addBytes 3 = .ok (.iload_n 3, 1) := by decide +kernel
theorem dX7_addBytes_4 : decode cX7_addBytes 4 = .ok (.ifCond .lt 84, 3) := by decide +kernel
theorem dX7_addBytes_7 : decode cX7_addBytes 7 = .ok (.lload_n 1, 1) := by decide +kernel
theorem dX7_addBytes_8 : decode cX7_addBytes 8 = .ok (.iload_n 3, 1) := by decide +kernel
theorem dX7_addBytes_9 : decode cX7_addBytes 9 = .ok (.lushr, 1) := by decide +kernel
theorem dX7_addBytes_10 : decode cX7_addBytes 10 = .ok (.l2i, 1) := by decide +kernel
theorem dX7_addBytes_11 : decode cX7_addBytes 11 = .ok (.sipush 255, 3) := by decide +kernel
theorem dX7_addBytes_14 : decode cX7_addBytes 14 = .ok (.iand, 1) := by decide +kernel
theorem dX7_addBytes_15 : decode cX7_addBytes 15 = .ok (.istore 4, 2) := by decide +kernel
theorem dX7_addBytes_17 : decode cX7_addBytes 17 = .ok (.iload 4, 2) := by decide +kernel
theorem dX7_addBytes_19 : decode cX7_addBytes 19 = .ok (.bipush 10, 2) := by decide +kernel
theorem dX7_addBytes_21 : decode cX7_addBytes 21 = .ok (.if_icmp .eq 17, 3) := by decide +kernel
theorem dX7_addBytes_24 : decode cX7_addBytes 24 = .ok (.iload 4, 2) := by decide +kernel
theorem dX7_addBytes_26 : decode cX7_addBytes 26 = .ok (.bipush 32, 2) := by decide +kernel
theorem dX7_addBytes_28 : decode cX7_addBytes 28 = .ok (.if_icmp .lt 14, 3) := by decide +kernel
theorem dX7_addBytes_31 : decode cX7_addBytes 31 = .ok (.iload 4, 2) := by decide +kernel
theorem dX7_addBytes_33 : decode cX7_addBytes 33 = .ok (.bipush 126, 2) := by decide +kernel
theorem dX7_addBytes_35 : decode cX7_addBytes 35 = .ok (.if_icmp .gt 7, 3) := by decide +kernel
theorem dX7_addBytes_38 : decode cX7_addBytes 38 = .ok (.iconst 1, 1) := by decide +kernel
theorem dX7_addBytes_39 : decode cX7_addBytes 39 = .ok (.goto 4, 3) := by decide +kernel
theorem dX7_addBytes_42 : decode cX7_addBytes 42 = .ok (.iconst 0, 1) := by decide +kernel
theorem dX7_addBytes_43 : decode cX7_addBytes 43 = .ok (.istore 5, 2) := by decide +kernel
theorem dX7_addBytes_45 : decode cX7_addBytes 45 = .ok (.iload 5, 2) := by decide +kernel
theorem dX7_addBytes_47 : decode cX7_addBytes 47 = .ok (.ifCond .eq 35, 3) := by decide +kernel
theorem dX7_addBytes_50 : decode cX7_addBytes 50 = .ok (.aload_n 0, 1) := by decide +kernel
theorem dX7_addBytes_51 : decode cX7_addBytes 51 = .ok (.getfield 33, 3) := by decide +kernel
theorem dX7_addBytes_54 : decode cX7_addBytes 54 = .ok (.sipush 1000, 3) := by decide +kernel
theorem dX7_addBytes_57 : decode cX7_addBytes 57 = .ok (.if_icmp .ge 25, 3) := by decide +kernel
theorem dX7_addBytes_60 : decode cX7_addBytes 60 = .ok (.aload_n 0, 1) := by decide +kernel
theorem dX7_addBytes_61 : decode cX7_addBytes 61 = .ok (.getfield 9, 3) := by decide +kernel
theorem dX7_addBytes_64 : decode cX7_addBytes 64 = .ok (.aload_n 0, 1) := by decide +kernel
theorem dX7_addBytes_65 : decode cX7_addBytes 65 = .ok (.getfield 33, 3) := by decide +kernel
theorem dX7_addBytes_68 : decode cX7_addBytes 68 = .ok (.iload 4, 2) := by decide +kernel
theorem dX7_addBytes_70 : decode cX7_addBytes 70 = .ok (.i2c, 1) := by decide +kernel
theorem dX7_addBytes_71 : decode cX7_addBytes 71 = .ok (.castore, 1) := by decide +kernel
theorem dX7_addBytes_72 : decode cX7_addBytes 72 = .ok (.aload_n 0, 1) := by decide +kernel
theorem dX7_addBytes_73 : decode cX7_addBytes 73 = .ok (.dup, 1) := by decide +kernel
theorem dX7_addBytes_74 : decode cX7_addBytes 74 = .ok (.getfield 33, 3) := by decide +kernel
theorem dX7_addBytes_77 : decode cX7_addBytes 77 = .ok (.iconst 1, 1) := by decide +kernel
theorem dX7_addBytes_78 : decode cX7_addBytes 78 = .ok (.iadd, 1) := by decide +kernel
theorem dX7_addBytes_79 : decode cX7_addBytes 79 = .ok (.putfield 33, 3) := by decide +kernel
theorem dX7_addBytes_82 : decode cX7_addBytes 82 = .ok (.iinc 3 (-8), 3) := by decide +kernel
theorem dX7_addBytes_85 : decode cX7_addBytes 85 = .ok (.goto (-82), 3) := by decide +kernel
theorem dX7_addBytes_88 : decode cX7_addBytes 88 = .ok (.return_, 1) := by decide +kernel
def fX7_addBytes (a0 : Nat) (a1 : Int) (G : Hp) : RT := bd 56 fun v1 => (lp (fun (_ : Int) (_ : Hp) => (none : RT)) 5000 (fun (rc4 : Int → Hp → RT) (v2 : Int) (G3 : Hp) => if v2 < 0 then rt 0 G3 else (bd (iand (l2i (lushr a1 v2)) 255) fun v5 => jn (fun (v6 : Int) => bd v6 fun v8 => jn (fun (G9 : Hp) => bd (iadd v2 (-8)) fun v11 => rc4 v11 G9) fun (K10 : Hp → RT) => if v8 = 0 then K10 G3 else (if (G3 a0 3) < 1000 then (bs (wrC G3 ((rf a0 0)) 1000 (G3 a0 3) (i2c v5)) fun G12 => bh (up G12 a0 3 (iadd (G12 a0 3) 1)) fun G13 => K10 G13) else K10 G3)) fun (K7 : Int → RT) => jn (K7 1) fun (K14 : RT) => if v5 = 10 then K14 else (jn (K7 0) fun (K15 : RT) => if v5 < 32 then K15 else (if 126 < v5 then K15 else K14))))) v1 G
set_option maxRecDepth 20000 in
set_option maxHeartbeats 4000000 in
theorem tX7_addBytes (l : Launch) (x : WX) (hi : Inj x.2.2) (G : Hp) (a0 : Nat) (a1 : Int) (ha0 : kd a0 = 7) : Ct l x yX7_addBytes cX7_addBytes 6 none 0 129 129 [vR a0, vL a1] G (fX7_addBytes a0 a1 G) := by
  refine ct_of (plainFor_of_name (by decide)) hi (Nat.le_refl _) (Nat.le_refl _) (Nat.le_of_ble_eq_true rfl) (fun cx F hd hn0 hnE hl hQ => ?_)
  subst hl
  have F : Fx cx x RX7 cX7_addBytes 6 none := F
  show Y cx x 6 none 129 0 [(0, vR a0), (1, vL a1)] [] G _
  unfold fX7_addBytes
  refine x_bipush F dX7_addBytes_0 ⟨by decide, by decide⟩ (by decide) rfl ?_
  refine x_istore_n F dX7_addBytes_2 rfl (by decide) rfl rfl (fun v1 => ?_)
  show Y cx x _ _ _ _ [(0, vR a0), (1, vL a1), (3, vI v1)] _ _ _
  refine x_lp (fun (rc4 : Int → Hp → RT) => ∀ (v2 : Int) (G3 : Hp), Y cx x 6 none 129 3 [(0, vR a0), (1, vL a1), (3, vI v2)] [] G3 (rc4 v2 G3)) (fun _ _ => Y_none) (fun rc4 hrc4 v2 G3 => ?_) 5000 v1 G
  refine x_iload_n F dX7_addBytes_3 rfl rfl rfl ?_
  refine x_iflt (pt := 88) F dX7_addBytes_4 rfl rfl ?_ ?_
  · exact x_vret F hnE hQ dX7_addBytes_88
  · refine x_lload_n F dX7_addBytes_7 rfl rfl rfl ?_
    refine x_iload_n F dX7_addBytes_8 rfl rfl rfl ?_
    refine x_lushr F dX7_addBytes_9 rfl ?_
    refine x_l2i F dX7_addBytes_10 rfl ?_
    refine x_sipush F dX7_addBytes_11 ⟨by decide, by decide⟩ (by decide) rfl ?_
    refine x_iand F dX7_addBytes_14 rfl ?_
    refine x_istore F dX7_addBytes_15 (by decide) rfl rfl (fun v5 => ?_)
    show Y cx x _ _ _ _ [(0, vR a0), (1, vL a1), (3, vI v2), (4, vI v5)] _ _ _
    refine x_iload F dX7_addBytes_17 rfl rfl ?_
    refine x_bipush F dX7_addBytes_19 ⟨by decide, by decide⟩ (by decide) rfl ?_
    refine x_jn (fun (K7 : Int → RT) => ∀ (v6 : Int), Y cx x 6 none 129 43 [(0, vR a0), (1, vL a1), (3, vI v2), (4, vI v5)] [vI v6] G3 (K7 v6)) ?_ (fun K7 hK7 => ?_)
    · intro v6
      refine x_istore F dX7_addBytes_43 (by decide) rfl rfl (fun v8 => ?_)
      show Y cx x _ _ _ _ [(0, vR a0), (1, vL a1), (3, vI v2), (4, vI v5), (5, vI v8)] _ _ _
      refine x_iload F dX7_addBytes_45 rfl rfl ?_
      refine x_jn (fun (K10 : Hp → RT) => ∀ (G9 : Hp), Y cx x 6 none 129 82 [(0, vR a0), (1, vL a1), (3, vI v2)] [] G9 (K10 G9)) ?_ (fun K10 hK10 => ?_)
      · intro G9
        refine x_iinc F dX7_addBytes_82 rfl (by decide) rfl rfl (fun v11 => ?_)
        show Y cx x _ _ _ _ [(0, vR a0), (1, vL a1), (3, vI v11)] _ _ _
        refine x_goto (pc' := 3) F dX7_addBytes_85 rfl ?_
        exact hrc4 v11 G9
      · refine x_ifeq (pt := 82) F dX7_addBytes_47 rfl rfl ?_ ?_
        · refine x_dp (L' := [(0, vR a0), (1, vL a1), (3, vI v2)]) [0, 1, 2] rfl ?_
          exact hK10 G3
        · refine x_aload_n F dX7_addBytes_50 rfl rfl rfl ?_
          refine s_getI F flX7_33 ha0 rfl dX7_addBytes_51 rfl ?_
          refine x_sipush F dX7_addBytes_54 ⟨by decide, by decide⟩ (by decide) rfl ?_
          refine x_icmpge (pt := 82) F dX7_addBytes_57 rfl rfl ?_ ?_
          · refine x_aload_n F dX7_addBytes_60 rfl rfl rfl ?_
            refine x_getR F flX7_9 ha0 rfl dX7_addBytes_61 rfl ?_
            refine x_aload_n F dX7_addBytes_64 rfl rfl rfl ?_
            refine s_getI F flX7_33 ha0 rfl dX7_addBytes_65 rfl ?_
            refine x_iload F dX7_addBytes_68 rfl rfl ?_
            refine x_i2c F dX7_addBytes_70 rfl ?_
            refine s_cast F (tf7_0 ha0).1 (tf7_0 ha0).2 dX7_addBytes_71 rfl (fun G12 => ?_)
            refine x_aload_n F dX7_addBytes_72 rfl rfl rfl ?_
            refine x_dup F dX7_addBytes_73 rfl rfl ?_
            refine s_getI F flX7_33 ha0 rfl dX7_addBytes_74 rfl ?_
            refine x_iconst F dX7_addBytes_77 ⟨by decide, by decide⟩ rfl ?_
            refine x_iadd F dX7_addBytes_78 rfl ?_
            refine s_putI F fpX7_33 ha0 rfl dX7_addBytes_79 rfl (fun G13 => ?_)
            refine x_dp (L' := [(0, vR a0), (1, vL a1), (3, vI v2)]) [0, 1, 2] rfl ?_
            exact hK10 G13
          · refine x_dp (L' := [(0, vR a0), (1, vL a1), (3, vI v2)]) [0, 1, 2] rfl ?_
            exact hK10 G3
    · refine x_jn (fun (K14 : RT) => Y cx x 6 none 129 38 [(0, vR a0), (1, vL a1), (3, vI v2), (4, vI v5)] [] G3 K14) ?_ (fun K14 hK14 => ?_)
      · refine x_iconst F dX7_addBytes_38 ⟨by decide, by decide⟩ rfl ?_
        refine x_goto (pc' := 43) F dX7_addBytes_39 rfl ?_
        exact hK7 1
      · refine x_icmpeq (pt := 38) F dX7_addBytes_21 rfl rfl ?_ ?_
        · exact hK14
        · refine x_iload F dX7_addBytes_24 rfl rfl ?_
          refine x_bipush F dX7_addBytes_26 ⟨by decide, by decide⟩ (by decide) rfl ?_
          refine x_jn (fun (K15 : RT) => Y cx x 6 none 129 42 [(0, vR a0), (1, vL a1), (3, vI v2), (4, vI v5)] [] G3 K15) ?_ (fun K15 hK15 => ?_)
          · refine x_iconst F dX7_addBytes_42 ⟨by decide, by decide⟩ rfl ?_
            exact hK7 0
          · refine x_icmplt (pt := 42) F dX7_addBytes_28 rfl rfl ?_ ?_
            · exact hK15
            · refine x_iload F dX7_addBytes_31 rfl rfl ?_
              refine x_bipush F dX7_addBytes_33 ⟨by decide, by decide⟩ (by decide) rfl ?_
              refine x_icmpgt (pt := 42) F dX7_addBytes_35 rfl rfl ?_ ?_
              · exact hK15
              · exact hK14
theorem dX7_clear_0 : decode cX7_clear 0 = .ok (.aload_n 0, 1) := by decide +kernel
theorem dX7_clear_1 : decode cX7_clear 1 = .ok (.iconst 0, 1) := by decide +kernel
theorem dX7_clear_2 : decode cX7_clear 2 = .ok (.putfield 33, 3) := by decide +kernel
theorem dX7_clear_5 : decode cX7_clear 5 = .ok (.return_, 1) := by decide +kernel
def fX7_clear (a0 : Nat) (G : Hp) : RT := bh (up G a0 3 0) fun G1 => rt 0 G1
set_option maxRecDepth 20000 in
set_option maxHeartbeats 4000000 in
theorem tX7_clear (l : Launch) (x : WX) (hi : Inj x.2.2) (G : Hp) (a0 : Nat) (ha0 : kd a0 = 7) : Ct l x yX7_clear cX7_clear 1 none 0 129 129 [vR a0] G (fX7_clear a0 G) := by
  refine ct_of (plainFor_of_name (by decide)) hi (Nat.le_refl _) (Nat.le_refl _) (Nat.le_of_ble_eq_true rfl) (fun cx F hd hn0 hnE hl hQ => ?_)
  subst hl
  have F : Fx cx x RX7 cX7_clear 1 none := F
  show Y cx x 1 none 129 0 [(0, vR a0)] [] G _
  unfold fX7_clear
  refine x_aload_n F dX7_clear_0 rfl rfl rfl ?_
  refine x_iconst F dX7_clear_1 ⟨by decide, by decide⟩ rfl ?_
  refine s_putI F fpX7_33 ha0 rfl dX7_clear_2 rfl (fun G1 => ?_)
  exact x_vret F hnE hQ dX7_clear_5
theorem dX7_readWord_0 : decode cX7_readWord 0 = .ok (.aload_n 0, 1) := by decide +kernel
theorem dX7_readWord_1 : decode cX7_readWord 1 = .ok (.lconst 0, 1) := by decide +kernel
theorem dX7_readWord_2 : decode cX7_readWord 2 = .ok (.putfield 70, 3) := by decide +kernel
theorem dX7_readWord_5 : decode cX7_readWord 5 = .ok (.aload_n 0, 1) := by decide +kernel
theorem dX7_readWord_6 : decode cX7_readWord 6 = .ok (.getfield 43, 3) := by decide +kernel
theorem dX7_readWord_9 : decode cX7_readWord 9 = .ok (.aload_n 0, 1) := by decide +kernel
theorem dX7_readWord_10 : decode cX7_readWord 10 = .ok (.getfield 33, 3) := by decide +kernel
theorem dX7_readWord_13 : decode cX7_readWord 13 = .ok (.if_icmp .ge 72, 3) := by decide +kernel
theorem dX7_readWord_16 : decode cX7_readWord 16 = .ok (.aload_n 0, 1) := by decide +kernel
theorem dX7_readWord_17 : decode cX7_readWord 17 = .ok (.getfield 9, 3) := by decide +kernel
theorem dX7_readWord_20 : decode cX7_readWord 20 = .ok (.aload_n 0, 1) := by decide +kernel
theorem dX7_readWord_21 : decode cX7_readWord 21 = .ok (.getfield 43, 3) := by decide +kernel
theorem dX7_readWord_24 : decode cX7_readWord 24 = .ok (.caload, 1) := by decide +kernel
theorem dX7_readWord_25 : decode cX7_readWord 25 = .ok (.bipush 97, 2) := by decide +kernel
theorem dX7_readWord_27 : decode cX7_readWord 27 = .ok (.if_icmp .lt 58, 3) := by decide +kernel
theorem dX7_readWord_30 : decode cX7_readWord 30 = .ok (.aload_n 0, 1) := by decide +kernel
theorem dX7_readWord_31 : decode cX7_readWord 31 = .ok (.getfield 9, 3) := by decide +kernel
theorem dX7_readWord_34 : decode cX7_readWord 34 = .ok (.aload_n 0, 1) := by decide +kernel
theorem dX7_readWord_35 : decode cX7_readWord 35 = .ok (.getfield 43, 3) := by decide +kernel
theorem dX7_readWord_38 : decode cX7_readWord 38 = .ok (.caload, 1) := by decide +kernel
theorem dX7_readWord_39 : decode cX7_readWord 39 = .ok (.bipush 122, 2) := by decide +kernel
theorem dX7_readWord_41 : decode cX7_readWord 41 = .ok (.if_icmp .gt 44, 3) := by decide +kernel
theorem dX7_readWord_44 : decode cX7_readWord 44 = .ok (.aload_n 0, 1) := by decide +kernel
theorem dX7_readWord_45 : decode cX7_readWord 45 = .ok (.aload_n 0, 1) := by decide +kernel
theorem dX7_readWord_46 : decode cX7_readWord 46 = .ok (.getfield 70, 3) := by decide +kernel
theorem dX7_readWord_49 : decode cX7_readWord 49 = .ok (.ldc2_w 31, 3) := by decide +kernel
theorem dX7_readWord_52 : decode cX7_readWord 52 = .ok (.lmul, 1) := by decide +kernel
theorem dX7_readWord_53 : decode cX7_readWord 53 = .ok (.aload_n 0, 1) := by decide +kernel
theorem dX7_readWord_54 : decode cX7_readWord 54 = .ok (.getfield 9, 3) := by decide +kernel
theorem dX7_readWord_57 : decode cX7_readWord 57 = .ok (.aload_n 0, 1) := by decide +kernel
theorem dX7_readWord_58 : decode cX7_readWord 58 = .ok (.getfield 43, 3) := by decide +kernel
theorem dX7_readWord_61 : decode cX7_readWord 61 = .ok (.caload, 1) := by decide +kernel
theorem dX7_readWord_62 : decode cX7_readWord 62 = .ok (.bipush 97, 2) := by decide +kernel
theorem dX7_readWord_64 : decode cX7_readWord 64 = .ok (.isub, 1) := by decide +kernel
theorem dX7_readWord_65 : decode cX7_readWord 65 = .ok (.iconst 1, 1) := by decide +kernel
theorem dX7_readWord_66 : decode cX7_readWord 66 = .ok (.iadd, 1) := by decide +kernel
theorem dX7_readWord_67 : decode cX7_readWord 67 = .ok (.i2l, 1) := by decide +kernel
theorem dX7_readWord_68 : decode cX7_readWord 68 = .ok (.ladd, 1) := by decide +kernel
theorem dX7_readWord_69 : decode cX7_readWord 69 = .ok (.putfield 70, 3) := by decide +kernel
theorem dX7_readWord_72 : decode cX7_readWord 72 = .ok (.aload_n 0, 1) := by decide +kernel
theorem dX7_readWord_73 : decode cX7_readWord 73 = .ok (.dup, 1) := by decide +kernel
theorem dX7_readWord_74 : decode cX7_readWord 74 = .ok (.getfield 43, 3) := by decide +kernel
theorem dX7_readWord_77 : decode cX7_readWord 77 = .ok (.iconst 1, 1) := by decide +kernel
theorem dX7_readWord_78 : decode cX7_readWord 78 = .ok (.iadd, 1) := by decide +kernel
theorem dX7_readWord_79 : decode cX7_readWord 79 = .ok (.putfield 43, 3) := by decide +kernel
theorem dX7_readWord_82 : decode cX7_readWord 82 = .ok (.goto (-77), 3) := by decide +kernel
theorem dX7_readWord_85 : decode cX7_readWord 85 = .ok (.aload_n 0, 1) := by decide +kernel
theorem dX7_readWord_86 : decode cX7_readWord 86 = .ok (.aload_n 0, 1) := by decide +kernel
theorem dX7_readWord_87 : decode cX7_readWord 87 = .ok (.getfield 43, 3) := by decide +kernel
theorem dX7_readWord_90 : decode cX7_readWord 90 = .ok (.aload_n 0, 1) := by decide +kernel
theorem dX7_readWord_91 : decode cX7_readWord 91 = .ok (.getfield 49, 3) := by decide +kernel
theorem dX7_readWord_94 : decode cX7_readWord 94 = .ok (.isub, 1) := by decide +kernel
theorem dX7_readWord_95 : decode cX7_readWord 95 = .ok (.bipush 8, 2) := by decide +kernel
theorem dX7_readWord_97 : decode cX7_readWord 97 = .ok (.if_icmp .gt 7, 3) := by decide +kernel
theorem dX7_readWord_100 : decode cX7_readWord 100 = .ok (.iconst 2, 1) := by decide +kernel
theorem dX7_readWord_101 : decode cX7_readWord 101 = .ok (.goto 4, 3) := by decide +kernel
theorem dX7_readWord_104 : decode cX7_readWord 104 = .ok (.iconst 1, 1) := by decide +kernel
theorem dX7_readWord_105 : decode cX7_readWord 105 = .ok (.putfield 55, 3) := by decide +kernel
theorem dX7_readWord_108 : decode cX7_readWord 108 = .ok (.aload_n 0, 1) := by decide +kernel
theorem dX7_readWord_109 : decode cX7_readWord 109 = .ok (.iconst (-1), 1) := by decide +kernel
theorem dX7_readWord_110 : decode cX7_readWord 110 = .ok (.putfield 52, 3) := by decide +kernel
theorem dX7_readWord_113 : decode cX7_readWord 113 = .ok (.iconst 0, 1) := by decide +kernel
theorem dX7_readWord_114 : decode cX7_readWord 114 = .ok (.istore_n 1, 1) := by decide +kernel
theorem dX7_readWord_115 : decode cX7_readWord 115 = .ok (.iload_n 1, 1) := by decide +kernel
theorem dX7_readWord_116 : decode cX7_readWord 116 = .ok (.bipush 25, 2) := by decide +kernel
theorem dX7_readWord_118 : decode cX7_readWord 118 = .ok (.if_icmp .ge 28, 3) := by decide +kernel
theorem dX7_readWord_121 : decode cX7_readWord 121 = .ok (.aload_n 0, 1) := by decide +kernel
theorem dX7_readWord_122 : decode cX7_readWord 122 = .ok (.getfield 15, 3) := by decide +kernel
theorem dX7_readWord_125 : decode cX7_readWord 125 = .ok (.iload_n 1, 1) := by decide +kernel
theorem dX7_readWord_126 : decode cX7_readWord 126 = .ok (.laload, 1) := by decide +kernel
theorem dX7_readWord_127 : decode cX7_readWord 127 = .ok (.aload_n 0, 1) := by decide +kernel
theorem dX7_readWord_128 : decode cX7_readWord 128 = .ok (.getfield 70, 3) := by decide +kernel
theorem dX7_readWord_131 : decode cX7_readWord 131 = .ok (.lcmp, 1) := by decide +kernel
theorem dX7_readWord_132 : decode cX7_readWord 132 = .ok (.ifCond .ne 8, 3) := by decide +kernel
theorem dX7_readWord_135 : decode cX7_readWord 135 = .ok (.aload_n 0, 1) := by decide +kernel
theorem dX7_readWord_136 : decode cX7_readWord 136 = .ok (.iload_n 1, 1) := by decide +kernel
theorem dX7_readWord_137 : decode cX7_readWord 137 = .ok (.putfield 52, 3) := by decide +kernel
theorem dX7_readWord_140 : decode cX7_readWord 140 = .ok (.iinc 1 1, 3) := by decide +kernel
theorem dX7_readWord_143 : decode cX7_readWord 143 = .ok (.goto (-28), 3) := by decide +kernel
theorem dX7_readWord_146 : decode cX7_readWord 146 = .ok (.return_, 1) := by decide +kernel
def fX7_readWord (a0 : Nat) (G : Hp) : RT := bh (up G a0 7 0) fun G1 => (lp (fun (_ : Hp) => (none : RT)) 5000 (fun (rc3 : Hp → RT) (G2 : Hp) => jn (jn (fun (v5 : Int) => bh (up G2 a0 4 v5) fun G7 => bh (up G7 a0 6 ((-1))) fun G8 => bd 0 fun v9 => (lp (fun (_ : Int) (_ : Hp) => (none : RT)) 5000 (fun (rc12 : Int → Hp → RT) (v10 : Int) (G11 : Hp) => if v10 < 25 then (br (rd G11 ((rf a0 1)) 25 v10) fun v13 => jn (fun (G14 : Hp) => bd (iadd v10 1) fun v16 => rc12 v16 G14) fun (K15 : Hp → RT) => if (lcmp' v13 (G11 a0 7)) = 0 then (bh (up G11 a0 6 v10) fun G17 => K15 G17) else K15 G11) else rt 0 G11)) v9 G8) fun (K6 : Int → RT) => if 8 < (isub (G2 a0 2) (G2 a0 5)) then K6 1 else K6 2) fun (K4 : RT) => if (G2 a0 2) < (G2 a0 3) then (br (rd G2 ((rf a0 0)) 1000 (G2 a0 2)) fun v18 => if v18 < 97 then K4 else (br (rd G2 ((rf a0 0)) 1000 (G2 a0 2)) fun v19 => if 122 < v19 then K4 else (br (rd G2 ((rf a0 0)) 1000 (G2 a0 2)) fun v20 => bh (up G2 a0 7 (ladd (lmul (G2 a0 7) 32) (iadd (isub v20 97) 1))) fun G21 => bh (up G21 a0 2 (iadd (G21 a0 2) 1)) fun G22 => rc3 G22))) else K4)) G1
set_option maxRecDepth 20000 in
set_option maxHeartbeats 4000000 in
theorem tX7_readWord (l : Launch) (x : WX) (hi : Inj x.2.2) (G : Hp) (a0 : Nat) (ha0 : kd a0 = 7) : Ct l x yX7_readWord cX7_readWord 2 none 0 129 129 [vR a0] G (fX7_readWord a0 G) := by
  refine ct_of (plainFor_of_name (by decide)) hi (Nat.le_refl _) (Nat.le_refl _) (Nat.le_of_ble_eq_true rfl) (fun cx F hd hn0 hnE hl hQ => ?_)
  subst hl
  have F : Fx cx x RX7 cX7_readWord 2 none := F
  show Y cx x 2 none 129 0 [(0, vR a0)] [] G _
  unfold fX7_readWord
  refine x_aload_n F dX7_readWord_0 rfl rfl rfl ?_
  refine x_lconst (v := 0) F dX7_readWord_1 ⟨by decide, by decide⟩ (by decide) rfl ?_
  refine s_putJ F fpX7_70 ha0 rfl rfl dX7_readWord_2 rfl (fun G1 => ?_)
  refine x_lp (fun (rc3 : Hp → RT) => ∀ (G2 : Hp), Y cx x 2 none 129 5 [(0, vR a0)] [] G2 (rc3 G2)) (fun _ => Y_none) (fun rc3 hrc3 G2 => ?_) 5000 G1
  refine x_aload_n F dX7_readWord_5 rfl rfl rfl ?_
  refine s_getI F flX7_43 ha0 rfl dX7_readWord_6 rfl ?_
  refine x_aload_n F dX7_readWord_9 rfl rfl rfl ?_
  refine s_getI F flX7_33 ha0 rfl dX7_readWord_10 rfl ?_
  refine x_jn (fun (K4 : RT) => Y cx x 2 none 129 85 [(0, vR a0)] [] G2 K4) ?_ (fun K4 hK4 => ?_)
  · refine x_aload_n F dX7_readWord_85 rfl rfl rfl ?_
    refine x_aload_n F dX7_readWord_86 rfl rfl rfl ?_
    refine s_getI F flX7_43 ha0 rfl dX7_readWord_87 rfl ?_
    refine x_aload_n F dX7_readWord_90 rfl rfl rfl ?_
    refine s_getI F flX7_49 ha0 rfl dX7_readWord_91 rfl ?_
    refine x_isub F dX7_readWord_94 rfl ?_
    refine x_bipush F dX7_readWord_95 ⟨by decide, by decide⟩ (by decide) rfl ?_
    refine x_jn (fun (K6 : Int → RT) => ∀ (v5 : Int), Y cx x 2 none 129 105 [(0, vR a0)] [vI v5, vR a0] G2 (K6 v5)) ?_ (fun K6 hK6 => ?_)
    · intro v5
      refine s_putI F fpX7_55 ha0 rfl dX7_readWord_105 rfl (fun G7 => ?_)
      refine x_aload_n F dX7_readWord_108 rfl rfl rfl ?_
      refine x_iconst F dX7_readWord_109 ⟨by decide, by decide⟩ rfl ?_
      refine s_putI F fpX7_52 ha0 rfl dX7_readWord_110 rfl (fun G8 => ?_)
      refine x_iconst F dX7_readWord_113 ⟨by decide, by decide⟩ rfl ?_
      refine x_istore_n F dX7_readWord_114 rfl (by decide) rfl rfl (fun v9 => ?_)
      show Y cx x _ _ _ _ [(0, vR a0), (1, vI v9)] _ _ _
      refine x_lp (fun (rc12 : Int → Hp → RT) => ∀ (v10 : Int) (G11 : Hp), Y cx x 2 none 129 115 [(0, vR a0), (1, vI v10)] [] G11 (rc12 v10 G11)) (fun _ _ => Y_none) (fun rc12 hrc12 v10 G11 => ?_) 5000 v9 G8
      refine x_iload_n F dX7_readWord_115 rfl rfl rfl ?_
      refine x_bipush F dX7_readWord_116 ⟨by decide, by decide⟩ (by decide) rfl ?_
      refine x_icmpge (pt := 146) F dX7_readWord_118 rfl rfl ?_ ?_
      · refine x_aload_n F dX7_readWord_121 rfl rfl rfl ?_
        refine x_getR F flX7_15 ha0 rfl dX7_readWord_122 rfl ?_
        refine x_iload_n F dX7_readWord_125 rfl rfl rfl ?_
        refine s_lald F (tf7_1 ha0).1 (tf7_1 ha0).2 dX7_readWord_126 rfl (fun v13 => ?_)
        refine x_aload_n F dX7_readWord_127 rfl rfl rfl ?_
        refine s_getJ F flX7_70 ha0 rfl rfl dX7_readWord_128 rfl ?_
        refine x_lcmp F dX7_readWord_131 rfl ?_
        refine x_jn (fun (K15 : Hp → RT) => ∀ (G14 : Hp), Y cx x 2 none 129 140 [(0, vR a0), (1, vI v10)] [] G14 (K15 G14)) ?_ (fun K15 hK15 => ?_)
        · intro G14
          refine x_iinc F dX7_readWord_140 rfl (by decide) rfl rfl (fun v16 => ?_)
          show Y cx x _ _ _ _ [(0, vR a0), (1, vI v16)] _ _ _
          refine x_goto (pc' := 115) F dX7_readWord_143 rfl ?_
          exact hrc12 v16 G14
        · refine x_ifne (pt := 140) F dX7_readWord_132 rfl rfl ?_ ?_
          · refine x_aload_n F dX7_readWord_135 rfl rfl rfl ?_
            refine x_iload_n F dX7_readWord_136 rfl rfl rfl ?_
            refine s_putI F fpX7_52 ha0 rfl dX7_readWord_137 rfl (fun G17 => ?_)
            exact hK15 G17
          · exact hK15 G11
      · exact x_vret F hnE hQ dX7_readWord_146
    · refine x_icmpgt (pt := 104) F dX7_readWord_97 rfl rfl ?_ ?_
      · refine x_iconst F dX7_readWord_104 ⟨by decide, by decide⟩ rfl ?_
        exact hK6 1
      · refine x_iconst F dX7_readWord_100 ⟨by decide, by decide⟩ rfl ?_
        refine x_goto (pc' := 105) F dX7_readWord_101 rfl ?_
        exact hK6 2
  · refine x_icmpge (pt := 85) F dX7_readWord_13 rfl rfl ?_ ?_
    · refine x_aload_n F dX7_readWord_16 rfl rfl rfl ?_
      refine x_getR F flX7_9 ha0 rfl dX7_readWord_17 rfl ?_
      refine x_aload_n F dX7_readWord_20 rfl rfl rfl ?_
      refine s_getI F flX7_43 ha0 rfl dX7_readWord_21 rfl ?_
      refine s_cald F (tf7_0 ha0).1 (tf7_0 ha0).2 dX7_readWord_24 rfl (fun v18 => ?_)
      refine x_bipush F dX7_readWord_25 ⟨by decide, by decide⟩ (by decide) rfl ?_
      refine x_icmplt (pt := 85) F dX7_readWord_27 rfl rfl ?_ ?_
      · exact hK4
      · refine x_aload_n F dX7_readWord_30 rfl rfl rfl ?_
        refine x_getR F flX7_9 ha0 rfl dX7_readWord_31 rfl ?_
        refine x_aload_n F dX7_readWord_34 rfl rfl rfl ?_
        refine s_getI F flX7_43 ha0 rfl dX7_readWord_35 rfl ?_
        refine s_cald F (tf7_0 ha0).1 (tf7_0 ha0).2 dX7_readWord_38 rfl (fun v19 => ?_)
        refine x_bipush F dX7_readWord_39 ⟨by decide, by decide⟩ (by decide) rfl ?_
        refine x_icmpgt (pt := 85) F dX7_readWord_41 rfl rfl ?_ ?_
        · exact hK4
        · refine x_aload_n F dX7_readWord_44 rfl rfl rfl ?_
          refine x_aload_n F dX7_readWord_45 rfl rfl rfl ?_
          refine s_getJ F flX7_70 ha0 rfl rfl dX7_readWord_46 rfl ?_
          refine x_ldc2 (v := 32) F kjX7_31 dX7_readWord_49 ⟨by decide, by decide⟩ (by decide) rfl ?_
          refine x_lmul F dX7_readWord_52 rfl ?_
          refine x_aload_n F dX7_readWord_53 rfl rfl rfl ?_
          refine x_getR F flX7_9 ha0 rfl dX7_readWord_54 rfl ?_
          refine x_aload_n F dX7_readWord_57 rfl rfl rfl ?_
          refine s_getI F flX7_43 ha0 rfl dX7_readWord_58 rfl ?_
          refine s_cald F (tf7_0 ha0).1 (tf7_0 ha0).2 dX7_readWord_61 rfl (fun v20 => ?_)
          refine x_bipush F dX7_readWord_62 ⟨by decide, by decide⟩ (by decide) rfl ?_
          refine x_isub F dX7_readWord_64 rfl ?_
          refine x_iconst F dX7_readWord_65 ⟨by decide, by decide⟩ rfl ?_
          refine x_iadd F dX7_readWord_66 rfl ?_
          refine x_i2l F dX7_readWord_67 rfl ?_
          refine x_ladd F dX7_readWord_68 rfl ?_
          refine s_putJ F fpX7_70 ha0 rfl rfl dX7_readWord_69 rfl (fun G21 => ?_)
          refine x_aload_n F dX7_readWord_72 rfl rfl rfl ?_
          refine x_dup F dX7_readWord_73 rfl rfl ?_
          refine s_getI F flX7_43 ha0 rfl dX7_readWord_74 rfl ?_
          refine x_iconst F dX7_readWord_77 ⟨by decide, by decide⟩ rfl ?_
          refine x_iadd F dX7_readWord_78 rfl ?_
          refine s_putI F fpX7_43 ha0 rfl dX7_readWord_79 rfl (fun G22 => ?_)
          refine x_goto (pc' := 5) F dX7_readWord_82 rfl ?_
          exact hrc3 G22
    · exact hK4
theorem dX7_readNumber_0 : decode cX7_readNumber 0 = .ok (.aload_n 0, 1) := by decide +kernel
theorem dX7_readNumber_1 : decode cX7_readNumber 1 = .ok (.getfield 43, 3) := by decide +kernel
theorem dX7_readNumber_4 : decode cX7_readNumber 4 = .ok (.aload_n 0, 1) := by decide +kernel
theorem dX7_readNumber_5 : decode cX7_readNumber 5 = .ok (.getfield 33, 3) := by decide +kernel
theorem dX7_readNumber_8 : decode cX7_readNumber 8 = .ok (.if_icmp .ge 68, 3) := by decide +kernel
theorem dX7_readNumber_11 : decode cX7_readNumber 11 = .ok (.aload_n 0, 1) := by decide +kernel
theorem dX7_readNumber_12 : decode cX7_readNumber 12 = .ok (.getfield 9, 3) := by decide +kernel
theorem dX7_readNumber_15 : decode cX7_readNumber 15 = .ok (.aload_n 0, 1) := by decide +kernel
theorem dX7_readNumber_16 : decode cX7_readNumber 16 = .ok (.getfield 43, 3) := by decide +kernel
theorem dX7_readNumber_19 : decode cX7_readNumber 19 = .ok (.caload, 1) := by decide +kernel
theorem dX7_readNumber_20 : decode cX7_readNumber 20 = .ok (.bipush 48, 2) := by decide +kernel
theorem dX7_readNumber_22 : decode cX7_readNumber 22 = .ok (.if_icmp .lt 54, 3) := by decide +kernel
theorem dX7_readNumber_25 : decode cX7_readNumber 25 = .ok (.aload_n 0, 1) := by decide +kernel
theorem dX7_readNumber_26 : decode cX7_readNumber 26 = .ok (.getfield 9, 3) := by decide +kernel
theorem dX7_readNumber_29 : decode cX7_readNumber 29 = .ok (.aload_n 0, 1) := by decide +kernel
theorem dX7_readNumber_30 : decode cX7_readNumber 30 = .ok (.getfield 43, 3) := by decide +kernel
theorem dX7_readNumber_33 : decode cX7_readNumber 33 = .ok (.caload, 1) := by decide +kernel
theorem dX7_readNumber_34 : decode cX7_readNumber 34 = .ok (.bipush 57, 2) := by decide +kernel
theorem dX7_readNumber_36 : decode cX7_readNumber 36 = .ok (.if_icmp .gt 40, 3) := by decide +kernel
theorem dX7_readNumber_39 : decode cX7_readNumber 39 = .ok (.aload_n 0, 1) := by decide +kernel
theorem dX7_readNumber_40 : decode cX7_readNumber 40 = .ok (.aload_n 0, 1) := by decide +kernel
theorem dX7_readNumber_41 : decode cX7_readNumber 41 = .ok (.getfield 52, 3) := by decide +kernel
theorem dX7_readNumber_44 : decode cX7_readNumber 44 = .ok (.bipush 10, 2) := by decide +kernel
theorem dX7_readNumber_46 : decode cX7_readNumber 46 = .ok (.imul, 1) := by decide +kernel
theorem dX7_readNumber_47 : decode cX7_readNumber 47 = .ok (.aload_n 0, 1) := by decide +kernel
theorem dX7_readNumber_48 : decode cX7_readNumber 48 = .ok (.getfield 9, 3) := by decide +kernel
theorem dX7_readNumber_51 : decode cX7_readNumber 51 = .ok (.aload_n 0, 1) := by decide +kernel
theorem dX7_readNumber_52 : decode cX7_readNumber 52 = .ok (.getfield 43, 3) := by decide +kernel
theorem dX7_readNumber_55 : decode cX7_readNumber 55 = .ok (.caload, 1) := by decide +kernel
theorem dX7_readNumber_56 : decode cX7_readNumber 56 = .ok (.bipush 48, 2) := by decide +kernel
theorem dX7_readNumber_58 : decode cX7_readNumber 58 = .ok (.isub, 1) := by decide +kernel
theorem dX7_readNumber_59 : decode cX7_readNumber 59 = .ok (.iadd, 1) := by decide +kernel
theorem dX7_readNumber_60 : decode cX7_readNumber 60 = .ok (.putfield 52, 3) := by decide +kernel
theorem dX7_readNumber_63 : decode cX7_readNumber 63 = .ok (.aload_n 0, 1) := by decide +kernel
theorem dX7_readNumber_64 : decode cX7_readNumber 64 = .ok (.dup, 1) := by decide +kernel
theorem dX7_readNumber_65 : decode cX7_readNumber 65 = .ok (.getfield 43, 3) := by decide +kernel
theorem dX7_readNumber_68 : decode cX7_readNumber 68 = .ok (.iconst 1, 1) := by decide +kernel
theorem dX7_readNumber_69 : decode cX7_readNumber 69 = .ok (.iadd, 1) := by decide +kernel
theorem dX7_readNumber_70 : decode cX7_readNumber 70 = .ok (.putfield 43, 3) := by decide +kernel
theorem dX7_readNumber_73 : decode cX7_readNumber 73 = .ok (.goto (-73), 3) := by decide +kernel
theorem dX7_readNumber_76 : decode cX7_readNumber 76 = .ok (.aload_n 0, 1) := by decide +kernel
theorem dX7_readNumber_77 : decode cX7_readNumber 77 = .ok (.aload_n 0, 1) := by decide +kernel
theorem dX7_readNumber_78 : decode cX7_readNumber 78 = .ok (.getfield 43, 3) := by decide +kernel
theorem dX7_readNumber_81 : decode cX7_readNumber 81 = .ok (.aload_n 0, 1) := by decide +kernel
theorem dX7_readNumber_82 : decode cX7_readNumber 82 = .ok (.getfield 49, 3) := by decide +kernel
theorem dX7_readNumber_85 : decode cX7_readNumber 85 = .ok (.isub, 1) := by decide +kernel
theorem dX7_readNumber_86 : decode cX7_readNumber 86 = .ok (.iconst 4, 1) := by decide +kernel
theorem dX7_readNumber_87 : decode cX7_readNumber 87 = .ok (.if_icmp .gt 7, 3) := by decide +kernel
theorem dX7_readNumber_90 : decode cX7_readNumber 90 = .ok (.iconst 3, 1) := by decide +kernel
theorem dX7_readNumber_91 : decode cX7_readNumber 91 = .ok (.goto 4, 3) := by decide +kernel
theorem dX7_readNumber_94 : decode cX7_readNumber 94 = .ok (.iconst 1, 1) := by decide +kernel
theorem dX7_readNumber_95 : decode cX7_readNumber 95 = .ok (.putfield 55, 3) := by decide +kernel
theorem dX7_readNumber_98 : decode cX7_readNumber 98 = .ok (.return_, 1) := by decide +kernel
def fX7_readNumber (a0 : Nat) (G : Hp) : RT := (lp (fun (_ : Hp) => (none : RT)) 5000 (fun (rc2 : Hp → RT) (G1 : Hp) => jn (if 4 < (isub (G1 a0 2) (G1 a0 5)) then (bh (up G1 a0 4 1) fun G4 => rt 0 G4) else (bh (up G1 a0 4 3) fun G5 => rt 0 G5)) fun (K3 : RT) => if (G1 a0 2) < (G1 a0 3) then (br (rd G1 ((rf a0 0)) 1000 (G1 a0 2)) fun v6 => if v6 < 48 then K3 else (br (rd G1 ((rf a0 0)) 1000 (G1 a0 2)) fun v7 => if 57 < v7 then K3 else (br (rd G1 ((rf a0 0)) 1000 (G1 a0 2)) fun v8 => bh (up G1 a0 6 (iadd (imul (G1 a0 6) 10) (isub v8 48))) fun G9 => bh (up G9 a0 2 (iadd (G9 a0 2) 1)) fun G10 => rc2 G10))) else K3)) G
set_option maxRecDepth 20000 in
set_option maxHeartbeats 4000000 in
theorem tX7_readNumber (l : Launch) (x : WX) (hi : Inj x.2.2) (G : Hp) (a0 : Nat) (ha0 : kd a0 = 7) : Ct l x yX7_readNumber cX7_readNumber 1 none 0 129 129 [vR a0] G (fX7_readNumber a0 G) := by
  refine ct_of (plainFor_of_name (by decide)) hi (Nat.le_refl _) (Nat.le_refl _) (Nat.le_of_ble_eq_true rfl) (fun cx F hd hn0 hnE hl hQ => ?_)
  subst hl
  have F : Fx cx x RX7 cX7_readNumber 1 none := F
  show Y cx x 1 none 129 0 [(0, vR a0)] [] G _
  unfold fX7_readNumber
  refine x_lp (fun (rc2 : Hp → RT) => ∀ (G1 : Hp), Y cx x 1 none 129 0 [(0, vR a0)] [] G1 (rc2 G1)) (fun _ => Y_none) (fun rc2 hrc2 G1 => ?_) 5000 G
  refine x_aload_n F dX7_readNumber_0 rfl rfl rfl ?_
  refine s_getI F flX7_43 ha0 rfl dX7_readNumber_1 rfl ?_
  refine x_aload_n F dX7_readNumber_4 rfl rfl rfl ?_
  refine s_getI F flX7_33 ha0 rfl dX7_readNumber_5 rfl ?_
  refine x_jn (fun (K3 : RT) => Y cx x 1 none 129 76 [(0, vR a0)] [] G1 K3) ?_ (fun K3 hK3 => ?_)
  · refine x_aload_n F dX7_readNumber_76 rfl rfl rfl ?_
    refine x_aload_n F dX7_readNumber_77 rfl rfl rfl ?_
    refine s_getI F flX7_43 ha0 rfl dX7_readNumber_78 rfl ?_
    refine x_aload_n F dX7_readNumber_81 rfl rfl rfl ?_
    refine s_getI F flX7_49 ha0 rfl dX7_readNumber_82 rfl ?_
    refine x_isub F dX7_readNumber_85 rfl ?_
    refine x_iconst F dX7_readNumber_86 ⟨by decide, by decide⟩ rfl ?_
    refine x_icmpgt (pt := 94) F dX7_readNumber_87 rfl rfl ?_ ?_
    · refine x_iconst F dX7_readNumber_94 ⟨by decide, by decide⟩ rfl ?_
      refine s_putI F fpX7_55 ha0 rfl dX7_readNumber_95 rfl (fun G4 => ?_)
      exact x_vret F hnE hQ dX7_readNumber_98
    · refine x_iconst F dX7_readNumber_90 ⟨by decide, by decide⟩ rfl ?_
      refine x_goto (pc' := 95) F dX7_readNumber_91 rfl ?_
      refine s_putI F fpX7_55 ha0 rfl dX7_readNumber_95 rfl (fun G5 => ?_)
      exact x_vret F hnE hQ dX7_readNumber_98
  · refine x_icmpge (pt := 76) F dX7_readNumber_8 rfl rfl ?_ ?_
    · refine x_aload_n F dX7_readNumber_11 rfl rfl rfl ?_
      refine x_getR F flX7_9 ha0 rfl dX7_readNumber_12 rfl ?_
      refine x_aload_n F dX7_readNumber_15 rfl rfl rfl ?_
      refine s_getI F flX7_43 ha0 rfl dX7_readNumber_16 rfl ?_
      refine s_cald F (tf7_0 ha0).1 (tf7_0 ha0).2 dX7_readNumber_19 rfl (fun v6 => ?_)
      refine x_bipush F dX7_readNumber_20 ⟨by decide, by decide⟩ (by decide) rfl ?_
      refine x_icmplt (pt := 76) F dX7_readNumber_22 rfl rfl ?_ ?_
      · exact hK3
      · refine x_aload_n F dX7_readNumber_25 rfl rfl rfl ?_
        refine x_getR F flX7_9 ha0 rfl dX7_readNumber_26 rfl ?_
        refine x_aload_n F dX7_readNumber_29 rfl rfl rfl ?_
        refine s_getI F flX7_43 ha0 rfl dX7_readNumber_30 rfl ?_
        refine s_cald F (tf7_0 ha0).1 (tf7_0 ha0).2 dX7_readNumber_33 rfl (fun v7 => ?_)
        refine x_bipush F dX7_readNumber_34 ⟨by decide, by decide⟩ (by decide) rfl ?_
        refine x_icmpgt (pt := 76) F dX7_readNumber_36 rfl rfl ?_ ?_
        · exact hK3
        · refine x_aload_n F dX7_readNumber_39 rfl rfl rfl ?_
          refine x_aload_n F dX7_readNumber_40 rfl rfl rfl ?_
          refine s_getI F flX7_52 ha0 rfl dX7_readNumber_41 rfl ?_
          refine x_bipush F dX7_readNumber_44 ⟨by decide, by decide⟩ (by decide) rfl ?_
          refine x_imul F dX7_readNumber_46 rfl ?_
          refine x_aload_n F dX7_readNumber_47 rfl rfl rfl ?_
          refine x_getR F flX7_9 ha0 rfl dX7_readNumber_48 rfl ?_
          refine x_aload_n F dX7_readNumber_51 rfl rfl rfl ?_
          refine s_getI F flX7_43 ha0 rfl dX7_readNumber_52 rfl ?_
          refine s_cald F (tf7_0 ha0).1 (tf7_0 ha0).2 dX7_readNumber_55 rfl (fun v8 => ?_)
          refine x_bipush F dX7_readNumber_56 ⟨by decide, by decide⟩ (by decide) rfl ?_
          refine x_isub F dX7_readNumber_58 rfl ?_
          refine x_iadd F dX7_readNumber_59 rfl ?_
          refine s_putI F fpX7_52 ha0 rfl dX7_readNumber_60 rfl (fun G9 => ?_)
          refine x_aload_n F dX7_readNumber_63 rfl rfl rfl ?_
          refine x_dup F dX7_readNumber_64 rfl rfl ?_
          refine s_getI F flX7_43 ha0 rfl dX7_readNumber_65 rfl ?_
          refine x_iconst F dX7_readNumber_68 ⟨by decide, by decide⟩ rfl ?_
          refine x_iadd F dX7_readNumber_69 rfl ?_
          refine s_putI F fpX7_43 ha0 rfl dX7_readNumber_70 rfl (fun G10 => ?_)
          refine x_goto (pc' := 0) F dX7_readNumber_73 rfl ?_
          exact hrc2 G10
    · exact hK3
theorem dX7_isSign_0 : decode cX7_isSign 0 = .ok (.aload_n 0, 1) := by decide +kernel
theorem dX7_isSign_1 : decode cX7_isSign 1 = .ok (.getfield 55, 3) := by decide +kernel
theorem dX7_isSign_4 : decode cX7_isSign 4 = .ok (.iconst 4, 1) := by decide +kernel
theorem dX7_isSign_5 : decode cX7_isSign 5 = .ok (.if_icmp .ne 15, 3) := by decide +kernel
theorem dX7_isSign_8 : decode cX7_isSign 8 = .ok (.aload_n 0, 1) := by decide +kernel
theorem dX7_isSign_9 : decode cX7_isSign 9 = .ok (.getfield 52, 3) := by decide +kernel
theorem dX7_isSign_12 : decode cX7_isSign 12 = .ok (.iload_n 1, 1) := by decide +kernel
theorem dX7_isSign_13 : decode cX7_isSign 13 = .ok (.if_icmp .ne 7, 3) := by decide +kernel
theorem dX7_isSign_16 : decode cX7_isSign 16 = .ok (.iconst 1, 1) := by decide +kernel
theorem dX7_isSign_17 : decode cX7_isSign 17 = .ok (.goto 4, 3) := by decide +kernel
theorem dX7_isSign_20 : decode cX7_isSign 20 = .ok (.iconst 0, 1) := by decide +kernel
theorem dX7_isSign_21 : decode cX7_isSign 21 = .ok (.ireturn, 1) := by decide +kernel
def fX7_isSign (a0 : Nat) (a1 : Int) (G : Hp) : RT := if (G a0 4) = 4 then (if (G a0 6) = a1 then rz 1 G else rz 0 G) else rz 0 G
theorem pX7_isSign {G : Hp} {a0 : Nat} {a1 : Int} : PU G (fX7_isSign a0 a1 G) := by
  unfold fX7_isSign
  refine PU_ite ?_ ?_
  · refine PU_ite ?_ ?_
    · exact PU_rz
    · exact PU_rz
  · exact PU_rz
set_option maxRecDepth 20000 in
set_option maxHeartbeats 4000000 in
theorem tX7_isSign (l : Launch) (x : WX) (hi : Inj x.2.2) (G : Hp) (a0 : Nat) (a1 : Int) (ha0 : kd a0 = 7) : Ct l x yX7_isSign cX7_isSign 2 (some .boolean) 0 129 129 [vR a0, vI a1] G (fX7_isSign a0 a1 G) := by
  refine ct_of (plainFor_of_name (by decide)) hi (Nat.le_refl _) (Nat.le_refl _) (Nat.le_of_ble_eq_true rfl) (fun cx F hd hn0 hnE hl hQ => ?_)
  subst hl
  have F : Fx cx x RX7 cX7_isSign 2 (some .boolean) := F
  show Y cx x 2 (some .boolean) 129 0 [(0, vR a0), (1, vI a1)] [] G _
  unfold fX7_isSign
  refine x_aload_n F dX7_isSign_0 rfl rfl rfl ?_
  refine s_getI F flX7_55 ha0 rfl dX7_isSign_1 rfl ?_
  refine x_iconst F dX7_isSign_4 ⟨by decide, by decide⟩ rfl ?_
  refine x_icmpne (pt := 20) F dX7_isSign_5 rfl rfl ?_ ?_
  · refine x_aload_n F dX7_isSign_8 rfl rfl rfl ?_
    refine s_getI F flX7_52 ha0 rfl dX7_isSign_9 rfl ?_
    refine x_iload_n F dX7_isSign_12 rfl rfl rfl ?_
    refine x_icmpne (pt := 20) F dX7_isSign_13 rfl rfl ?_ ?_
    · refine x_iconst F dX7_isSign_16 ⟨by decide, by decide⟩ rfl ?_
      refine x_goto (pc' := 21) F dX7_isSign_17 rfl ?_
      exact x_zret F hnE hQ dX7_isSign_21
    · refine x_iconst F dX7_isSign_20 ⟨by decide, by decide⟩ rfl ?_
      exact x_zret F hnE hQ dX7_isSign_21
  · refine x_iconst F dX7_isSign_20 ⟨by decide, by decide⟩ rfl ?_
    exact x_zret F hnE hQ dX7_isSign_21
theorem dX7_isWord_0 : decode cX7_isWord 0 = .ok (.aload_n 0, 1) := by decide +kernel
theorem dX7_isWord_1 : decode cX7_isWord 1 = .ok (.getfield 55, 3) := by decide +kernel
theorem dX7_isWord_4 : decode cX7_isWord 4 = .ok (.iconst 2, 1) := by decide +kernel
theorem dX7_isWord_5 : decode cX7_isWord 5 = .ok (.if_icmp .ne 23, 3) := by decide +kernel
theorem dX7_isWord_8 : decode cX7_isWord 8 = .ok (.aload_n 0, 1) := by decide +kernel
theorem dX7_isWord_9 : decode cX7_isWord 9 = .ok (.getfield 52, 3) := by decide +kernel
theorem dX7_isWord_12 : decode cX7_isWord 12 = .ok (.iload_n 1, 1) := by decide +kernel
theorem dX7_isWord_13 : decode cX7_isWord 13 = .ok (.if_icmp .lt 15, 3) := by decide +kernel
theorem dX7_isWord_16 : decode cX7_isWord 16 = .ok (.aload_n 0, 1) := by decide +kernel
theorem dX7_isWord_17 : decode cX7_isWord 17 = .ok (.getfield 52, 3) := by decide +kernel
theorem dX7_isWord_20 : decode cX7_isWord 20 = .ok (.iload_n 2, 1) := by decide +kernel
theorem dX7_isWord_21 : decode cX7_isWord 21 = .ok (.if_icmp .gt 7, 3) := by decide +kernel
theorem dX7_isWord_24 : decode cX7_isWord 24 = .ok (.iconst 1, 1) := by decide +kernel
theorem dX7_isWord_25 : decode cX7_isWord 25 = .ok (.goto 4, 3) := by decide +kernel
theorem dX7_isWord_28 : decode cX7_isWord 28 = .ok (.iconst 0, 1) := by decide +kernel
theorem dX7_isWord_29 : decode cX7_isWord 29 = .ok (.ireturn, 1) := by decide +kernel
def fX7_isWord (a0 : Nat) (a1 : Int) (a2 : Int) (G : Hp) : RT := if (G a0 4) = 2 then (if (G a0 6) < a1 then rz 0 G else (if a2 < (G a0 6) then rz 0 G else rz 1 G)) else rz 0 G
theorem pX7_isWord {G : Hp} {a0 : Nat} {a1 : Int} {a2 : Int} : PU G (fX7_isWord a0 a1 a2 G) := by
  unfold fX7_isWord
  refine PU_ite ?_ ?_
  · refine PU_ite ?_ ?_
    · exact PU_rz
    · refine PU_ite ?_ ?_
      · exact PU_rz
      · exact PU_rz
  · exact PU_rz
set_option maxRecDepth 20000 in
set_option maxHeartbeats 4000000 in
theorem tX7_isWord (l : Launch) (x : WX) (hi : Inj x.2.2) (G : Hp) (a0 : Nat) (a1 : Int) (a2 : Int) (ha0 : kd a0 = 7) : Ct l x yX7_isWord cX7_isWord 3 (some .boolean) 0 129 129 [vR a0, vI a1, vI a2] G (fX7_isWord a0 a1 a2 G) := by
  refine ct_of (plainFor_of_name (by decide)) hi (Nat.le_refl _) (Nat.le_refl _) (Nat.le_of_ble_eq_true rfl) (fun cx F hd hn0 hnE hl hQ => ?_)
  subst hl
  have F : Fx cx x RX7 cX7_isWord 3 (some .boolean) := F
  show Y cx x 3 (some .boolean) 129 0 [(0, vR a0), (1, vI a1), (2, vI a2)] [] G _
  unfold fX7_isWord
  refine x_aload_n F dX7_isWord_0 rfl rfl rfl ?_
  refine s_getI F flX7_55 ha0 rfl dX7_isWord_1 rfl ?_
  refine x_iconst F dX7_isWord_4 ⟨by decide, by decide⟩ rfl ?_
  refine x_icmpne (pt := 28) F dX7_isWord_5 rfl rfl ?_ ?_
  · refine x_aload_n F dX7_isWord_8 rfl rfl rfl ?_
    refine s_getI F flX7_52 ha0 rfl dX7_isWord_9 rfl ?_
    refine x_iload_n F dX7_isWord_12 rfl rfl rfl ?_
    refine x_icmplt (pt := 28) F dX7_isWord_13 rfl rfl ?_ ?_
    · refine x_iconst F dX7_isWord_28 ⟨by decide, by decide⟩ rfl ?_
      exact x_zret F hnE hQ dX7_isWord_29
    · refine x_aload_n F dX7_isWord_16 rfl rfl rfl ?_
      refine s_getI F flX7_52 ha0 rfl dX7_isWord_17 rfl ?_
      refine x_iload_n F dX7_isWord_20 rfl rfl rfl ?_
      refine x_icmpgt (pt := 28) F dX7_isWord_21 rfl rfl ?_ ?_
      · refine x_iconst F dX7_isWord_28 ⟨by decide, by decide⟩ rfl ?_
        exact x_zret F hnE hQ dX7_isWord_29
      · refine x_iconst F dX7_isWord_24 ⟨by decide, by decide⟩ rfl ?_
        refine x_goto (pc' := 29) F dX7_isWord_25 rfl ?_
        exact x_zret F hnE hQ dX7_isWord_29
  · refine x_iconst F dX7_isWord_28 ⟨by decide, by decide⟩ rfl ?_
    exact x_zret F hnE hQ dX7_isWord_29
theorem dX7_isName_0 : decode cX7_isName 0 = .ok (.aload_n 0, 1) := by decide +kernel
theorem dX7_isName_1 : decode cX7_isName 1 = .ok (.getfield 55, 3) := by decide +kernel
theorem dX7_isName_4 : decode cX7_isName 4 = .ok (.iconst 2, 1) := by decide +kernel
theorem dX7_isName_5 : decode cX7_isName 5 = .ok (.if_icmp .ne 23, 3) := by decide +kernel
theorem dX7_isName_8 : decode cX7_isName 8 = .ok (.aload_n 0, 1) := by decide +kernel
theorem dX7_isName_9 : decode cX7_isName 9 = .ok (.getfield 52, 3) := by decide +kernel
theorem dX7_isName_12 : decode cX7_isName 12 = .ok (.ifCond .lt 12, 3) := by decide +kernel
theorem dX7_isName_15 : decode cX7_isName 15 = .ok (.aload_n 0, 1) := by decide +kernel
theorem dX7_isName_16 : decode cX7_isName 16 = .ok (.getfield 52, 3) := by decide +kernel
theorem dX7_isName_19 : decode cX7_isName 19 = .ok (.bipush 22, 2) := by decide +kernel
theorem dX7_isName_21 : decode cX7_isName 21 = .ok (.if_icmp .lt 7, 3) := by decide +kernel
theorem dX7_isName_24 : decode cX7_isName 24 = .ok (.iconst 1, 1) := by decide +kernel
theorem dX7_isName_25 : decode cX7_isName 25 = .ok (.goto 4, 3) := by decide +kernel
theorem dX7_isName_28 : decode cX7_isName 28 = .ok (.iconst 0, 1) := by decide +kernel
theorem dX7_isName_29 : decode cX7_isName 29 = .ok (.ireturn, 1) := by decide +kernel
def fX7_isName (a0 : Nat) (G : Hp) : RT := if (G a0 4) = 2 then (jn (rz 1 G) fun (K1 : RT) => if (G a0 6) < 0 then K1 else (if (G a0 6) < 22 then rz 0 G else K1)) else rz 0 G
theorem pX7_isName {G : Hp} {a0 : Nat} : PU G (fX7_isName a0 G) := by
  unfold fX7_isName
  refine PU_ite ?_ ?_
  · refine PU_jn (fun (K1 : RT) => PU G (K1)) ?_ (fun K1 phK1 => ?_)
    · exact PU_rz
    · refine PU_ite ?_ ?_
      · exact phK1
      · refine PU_ite ?_ ?_
        · exact PU_rz
        · exact phK1
  · exact PU_rz
set_option maxRecDepth 20000 in
set_option maxHeartbeats 4000000 in
theorem tX7_isName (l : Launch) (x : WX) (hi : Inj x.2.2) (G : Hp) (a0 : Nat) (ha0 : kd a0 = 7) : Ct l x yX7_isName cX7_isName 1 (some .boolean) 0 129 129 [vR a0] G (fX7_isName a0 G) := by
  refine ct_of (plainFor_of_name (by decide)) hi (Nat.le_refl _) (Nat.le_refl _) (Nat.le_of_ble_eq_true rfl) (fun cx F hd hn0 hnE hl hQ => ?_)
  subst hl
  have F : Fx cx x RX7 cX7_isName 1 (some .boolean) := F
  show Y cx x 1 (some .boolean) 129 0 [(0, vR a0)] [] G _
  unfold fX7_isName
  refine x_aload_n F dX7_isName_0 rfl rfl rfl ?_
  refine s_getI F flX7_55 ha0 rfl dX7_isName_1 rfl ?_
  refine x_iconst F dX7_isName_4 ⟨by decide, by decide⟩ rfl ?_
  refine x_icmpne (pt := 28) F dX7_isName_5 rfl rfl ?_ ?_
  · refine x_aload_n F dX7_isName_8 rfl rfl rfl ?_
    refine s_getI F flX7_52 ha0 rfl dX7_isName_9 rfl ?_
    refine x_jn (fun (K1 : RT) => Y cx x 1 (some .boolean) 129 24 [] [] G K1) ?_ (fun K1 hK1 => ?_)
    · refine x_iconst F dX7_isName_24 ⟨by decide, by decide⟩ rfl ?_
      refine x_goto (pc' := 29) F dX7_isName_25 rfl ?_
      exact x_zret F hnE hQ dX7_isName_29
    · refine x_iflt (pt := 24) F dX7_isName_12 rfl rfl ?_ ?_
      · refine x_dp (L' := []) [] rfl ?_
        exact hK1
      · refine x_aload_n F dX7_isName_15 rfl rfl rfl ?_
        refine s_getI F flX7_52 ha0 rfl dX7_isName_16 rfl ?_
        refine x_bipush F dX7_isName_19 ⟨by decide, by decide⟩ (by decide) rfl ?_
        refine x_icmplt (pt := 28) F dX7_isName_21 rfl rfl ?_ ?_
        · refine x_iconst F dX7_isName_28 ⟨by decide, by decide⟩ rfl ?_
          exact x_zret F hnE hQ dX7_isName_29
        · refine x_dp (L' := []) [] rfl ?_
          exact hK1
  · refine x_iconst F dX7_isName_28 ⟨by decide, by decide⟩ rfl ?_
    exact x_zret F hnE hQ dX7_isName_29
theorem dX7_wrong_0 : decode cX7_wrong 0 = .ok (.aload_n 0, 1) := by decide +kernel
theorem dX7_wrong_1 : decode cX7_wrong 1 = .ok (.getfield 36, 3) := by decide +kernel
theorem dX7_wrong_4 : decode cX7_wrong 4 = .ok (.ifCond .ne 16, 3) := by decide +kernel
theorem dX7_wrong_7 : decode cX7_wrong 7 = .ok (.aload_n 0, 1) := by decide +kernel
theorem dX7_wrong_8 : decode cX7_wrong 8 = .ok (.iload_n 1, 1) := by decide +kernel
theorem dX7_wrong_9 : decode cX7_wrong 9 = .ok (.bipush 16, 2) := by decide +kernel
theorem dX7_wrong_11 : decode cX7_wrong 11 = .ok (.aload_n 0, 1) := by decide +kernel
theorem dX7_wrong_12 : decode cX7_wrong 12 = .ok (.getfield 49, 3) := by decide +kernel
theorem dX7_wrong_15 : decode cX7_wrong 15 = .ok (.imul, 1) := by decide +kernel
theorem dX7_wrong_16 : decode cX7_wrong 16 = .ok (.iadd, 1) := by decide +kernel
theorem dX7_wrong_17 : decode cX7_wrong 17 = .ok (.putfield 36, 3) := by decide +kernel
theorem dX7_wrong_20 : decode cX7_wrong 20 = .ok (.iconst 0, 1) := by decide +kernel
theorem dX7_wrong_21 : decode cX7_wrong 21 = .ok (.ireturn, 1) := by decide +kernel
def fX7_wrong (a0 : Nat) (a1 : Int) (G : Hp) : RT := if (G a0 8) = 0 then (bh (up G a0 8 (iadd a1 (imul 16 (G a0 5)))) fun G1 => rz 0 G1) else rz 0 G
set_option maxRecDepth 20000 in
set_option maxHeartbeats 4000000 in
theorem tX7_wrong (l : Launch) (x : WX) (hi : Inj x.2.2) (G : Hp) (a0 : Nat) (a1 : Int) (ha0 : kd a0 = 7) : Ct l x yX7_wrong cX7_wrong 2 (some .boolean) 0 129 129 [vR a0, vI a1] G (fX7_wrong a0 a1 G) := by
  refine ct_of (plainFor_of_name (by decide)) hi (Nat.le_refl _) (Nat.le_refl _) (Nat.le_of_ble_eq_true rfl) (fun cx F hd hn0 hnE hl hQ => ?_)
  subst hl
  have F : Fx cx x RX7 cX7_wrong 2 (some .boolean) := F
  show Y cx x 2 (some .boolean) 129 0 [(0, vR a0), (1, vI a1)] [] G _
  unfold fX7_wrong
  refine x_aload_n F dX7_wrong_0 rfl rfl rfl ?_
  refine s_getI F flX7_36 ha0 rfl dX7_wrong_1 rfl ?_
  refine x_ifne (pt := 20) F dX7_wrong_4 rfl rfl ?_ ?_
  · refine x_aload_n F dX7_wrong_7 rfl rfl rfl ?_
    refine x_iload_n F dX7_wrong_8 rfl rfl rfl ?_
    refine x_bipush F dX7_wrong_9 ⟨by decide, by decide⟩ (by decide) rfl ?_
    refine x_aload_n F dX7_wrong_11 rfl rfl rfl ?_
    refine s_getI F flX7_49 ha0 rfl dX7_wrong_12 rfl ?_
    refine x_imul F dX7_wrong_15 rfl ?_
    refine x_iadd F dX7_wrong_16 rfl ?_
    refine s_putI F fpX7_36 ha0 rfl dX7_wrong_17 rfl (fun G1 => ?_)
    refine x_iconst F dX7_wrong_20 ⟨by decide, by decide⟩ rfl ?_
    exact x_zret F hnE hQ dX7_wrong_21
  · refine x_iconst F dX7_wrong_20 ⟨by decide, by decide⟩ rfl ?_
    exact x_zret F hnE hQ dX7_wrong_21
theorem dX7_numberWithin_0 : decode cX7_numberWithin 0 = .ok (.aload_n 0, 1) := by decide +kernel
theorem dX7_numberWithin_1 : decode cX7_numberWithin 1 = .ok (.getfield 55, 3) := by decide +kernel
theorem dX7_numberWithin_4 : decode cX7_numberWithin 4 = .ok (.iconst 3, 1) := by decide +kernel
theorem dX7_numberWithin_5 : decode cX7_numberWithin 5 = .ok (.if_icmp .eq 11, 3) := by decide +kernel
theorem dX7_numberWithin_8 : decode cX7_numberWithin 8 = .ok (.aload_n 0, 1) := by decide +kernel
theorem dX7_numberWithin_9 : decode cX7_numberWithin 9 = .ok (.iconst 1, 1) := by decide +kernel
theorem dX7_numberWithin_10 : decode cX7_numberWithin 10 = .ok (.invokevirtual 78, 3) := by decide +kernel
theorem dX7_numberWithin_13 : decode cX7_numberWithin 13 = .ok (.pop, 1) := by decide +kernel
theorem dX7_numberWithin_14 : decode cX7_numberWithin 14 = .ok (.iconst (-1), 1) := by decide +kernel
theorem dX7_numberWithin_15 : decode cX7_numberWithin 15 = .ok (.ireturn, 1) := by decide +kernel
theorem dX7_numberWithin_16 : decode cX7_numberWithin 16 = .ok (.aload_n 0, 1) := by decide +kernel
theorem dX7_numberWithin_17 : decode cX7_numberWithin 17 = .ok (.getfield 52, 3) := by decide +kernel
theorem dX7_numberWithin_20 : decode cX7_numberWithin 20 = .ok (.iload_n 1, 1) := by decide +kernel
theorem dX7_numberWithin_21 : decode cX7_numberWithin 21 = .ok (.if_icmp .lt 11, 3) := by decide +kernel
theorem dX7_numberWithin_24 : decode cX7_numberWithin 24 = .ok (.aload_n 0, 1) := by decide +kernel
theorem dX7_numberWithin_25 : decode cX7_numberWithin 25 = .ok (.getfield 52, 3) := by decide +kernel
theorem dX7_numberWithin_28 : decode cX7_numberWithin 28 = .ok (.iload_n 2, 1) := by decide +kernel
theorem dX7_numberWithin_29 : decode cX7_numberWithin 29 = .ok (.if_icmp .le 11, 3) := by decide +kernel
theorem dX7_numberWithin_32 : decode cX7_numberWithin 32 = .ok (.aload_n 0, 1) := by decide +kernel
theorem dX7_numberWithin_33 : decode cX7_numberWithin 33 = .ok (.iconst 4, 1) := by decide +kernel
theorem dX7_numberWithin_34 : decode cX7_numberWithin 34 = .ok (.invokevirtual 78, 3) := by decide +kernel
theorem dX7_numberWithin_37 : decode cX7_numberWithin 37 = .ok (.pop, 1) := by decide +kernel
theorem dX7_numberWithin_38 : decode cX7_numberWithin 38 = .ok (.iconst (-1), 1) := by decide +kernel
theorem dX7_numberWithin_39 : decode cX7_numberWithin 39 = .ok (.ireturn, 1) := by decide +kernel
theorem dX7_numberWithin_40 : decode cX7_numberWithin 40 = .ok (.aload_n 0, 1) := by decide +kernel
theorem dX7_numberWithin_41 : decode cX7_numberWithin 41 = .ok (.getfield 52, 3) := by decide +kernel
theorem dX7_numberWithin_44 : decode cX7_numberWithin 44 = .ok (.ireturn, 1) := by decide +kernel
def fX7_numberWithin (a0 : Nat) (a1 : Int) (a2 : Int) (G : Hp) : RT := if (G a0 4) = 3 then (jn (bn (fX7_wrong a0 4 G) fun v2 G3 => rt ((-1)) G3) fun (K1 : RT) => if (G a0 6) < a1 then K1 else (if a2 < (G a0 6) then K1 else (rt (G a0 6) G))) else (bn (fX7_wrong a0 1 G) fun v4 G5 => rt ((-1)) G5)
set_option maxRecDepth 20000 in
set_option maxHeartbeats 4000000 in
theorem tX7_numberWithin (l : Launch) (x : WX) (hi : Inj x.2.2) (G : Hp) (a0 : Nat) (a1 : Int) (a2 : Int) (ha0 : kd a0 = 7) : Ct l x yX7_numberWithin cX7_numberWithin 3 (some .int) 1 129 129 [vR a0, vI a1, vI a2] G (fX7_numberWithin a0 a1 a2 G) := by
  refine ct_of (plainFor_of_name (by decide)) hi (Nat.le_refl _) (Nat.le_refl _) (Nat.le_of_ble_eq_true rfl) (fun cx F hd hn0 hnE hl hQ => ?_)
  subst hl
  have F : Fx cx x RX7 cX7_numberWithin 3 (some .int) := F
  show Y cx x 3 (some .int) 129 0 [(0, vR a0), (1, vI a1), (2, vI a2)] [] G _
  unfold fX7_numberWithin
  refine x_aload_n F dX7_numberWithin_0 rfl rfl rfl ?_
  refine s_getI F flX7_55 ha0 rfl dX7_numberWithin_1 rfl ?_
  refine x_iconst F dX7_numberWithin_4 ⟨by decide, by decide⟩ rfl ?_
  refine x_icmpeq (pt := 16) F dX7_numberWithin_5 rfl rfl ?_ ?_
  · refine x_aload_n F dX7_numberWithin_16 rfl rfl rfl ?_
    refine s_getI F flX7_52 ha0 rfl dX7_numberWithin_17 rfl ?_
    refine x_iload_n F dX7_numberWithin_20 rfl rfl rfl ?_
    refine x_jn (fun (K1 : RT) => Y cx x 3 (some .int) 129 32 [(0, vR a0)] [] G K1) ?_ (fun K1 hK1 => ?_)
    · refine x_aload_n F dX7_numberWithin_32 rfl rfl rfl ?_
      refine x_iconst F dX7_numberWithin_33 ⟨by decide, by decide⟩ rfl ?_
      refine s_callV F [vI 4] [] lkX7_78 mX7_wrong rfl ha0 rfl hnE hn0 hd (tX7_wrong cx.l x hi G a0 4 ha0) rfl rfl dX7_numberWithin_34 rfl rfl (fun v2 G3 => ?_)
      refine x_pop F dX7_numberWithin_37 rfl rfl ?_
      refine x_iconst F dX7_numberWithin_38 ⟨by decide, by decide⟩ rfl ?_
      exact x_iret F hnE hQ dX7_numberWithin_39
    · refine x_icmplt (pt := 32) F dX7_numberWithin_21 rfl rfl ?_ ?_
      · refine x_dp (L' := [(0, vR a0)]) [0] rfl ?_
        exact hK1
      · refine x_aload_n F dX7_numberWithin_24 rfl rfl rfl ?_
        refine s_getI F flX7_52 ha0 rfl dX7_numberWithin_25 rfl ?_
        refine x_iload_n F dX7_numberWithin_28 rfl rfl rfl ?_
        refine x_icmple (pt := 40) F dX7_numberWithin_29 rfl rfl ?_ ?_
        · refine x_dp (L' := [(0, vR a0)]) [0] rfl ?_
          exact hK1
        · refine x_aload_n F dX7_numberWithin_40 rfl rfl rfl ?_
          refine s_getI F flX7_52 ha0 rfl dX7_numberWithin_41 rfl ?_
          exact x_iret F hnE hQ dX7_numberWithin_44
  · refine x_aload_n F dX7_numberWithin_8 rfl rfl rfl ?_
    refine x_iconst F dX7_numberWithin_9 ⟨by decide, by decide⟩ rfl ?_
    refine s_callV F [vI 1] [] lkX7_78 mX7_wrong rfl ha0 rfl hnE hn0 hd (tX7_wrong cx.l x hi G a0 1 ha0) rfl rfl dX7_numberWithin_10 rfl rfl (fun v4 G5 => ?_)
    refine x_pop F dX7_numberWithin_13 rfl rfl ?_
    refine x_iconst F dX7_numberWithin_14 ⟨by decide, by decide⟩ rfl ?_
    exact x_iret F hnE hQ dX7_numberWithin_15
theorem dX7_step_0 : decode cX7_step 0 = .ok (.aload_n 0, 1) := by decide +kernel
theorem dX7_step_1 : decode cX7_step 1 = .ok (.getfield 43, 3) := by decide +kernel
theorem dX7_step_4 : decode cX7_step 4 = .ok (.aload_n 0, 1) := by decide +kernel
theorem dX7_step_5 : decode cX7_step 5 = .ok (.getfield 33, 3) := by decide +kernel
theorem dX7_step_8 : decode cX7_step 8 = .ok (.if_icmp .ge 44, 3) := by decide +kernel
theorem dX7_step_11 : decode cX7_step 11 = .ok (.aload_n 0, 1) := by decide +kernel
theorem dX7_step_12 : decode cX7_step 12 = .ok (.getfield 9, 3) := by decide +kernel
theorem dX7_step_15 : decode cX7_step 15 = .ok (.aload_n 0, 1) := by decide +kernel
theorem dX7_step_16 : decode cX7_step 16 = .ok (.getfield 43, 3) := by decide +kernel
theorem dX7_step_19 : decode cX7_step 19 = .ok (.caload, 1) := by decide +kernel
theorem dX7_step_20 : decode cX7_step 20 = .ok (.bipush 32, 2) := by decide +kernel
theorem dX7_step_22 : decode cX7_step 22 = .ok (.if_icmp .eq 17, 3) := by decide +kernel
theorem dX7_step_25 : decode cX7_step 25 = .ok (.aload_n 0, 1) := by decide +kernel
theorem dX7_step_26 : decode cX7_step 26 = .ok (.getfield 9, 3) := by decide +kernel
theorem dX7_step_29 : decode cX7_step 29 = .ok (.aload_n 0, 1) := by decide +kernel
theorem dX7_step_30 : decode cX7_step 30 = .ok (.getfield 43, 3) := by decide +kernel
theorem dX7_step_33 : decode cX7_step 33 = .ok (.caload, 1) := by decide +kernel
theorem dX7_step_34 : decode cX7_step 34 = .ok (.bipush 10, 2) := by decide +kernel
theorem dX7_step_36 : decode cX7_step 36 = .ok (.if_icmp .ne 16, 3) := by decide +kernel
theorem dX7_step_39 : decode cX7_step 39 = .ok (.aload_n 0, 1) := by decide +kernel
theorem dX7_step_40 : decode cX7_step 40 = .ok (.dup, 1) := by decide +kernel
theorem dX7_step_41 : decode cX7_step 41 = .ok (.getfield 43, 3) := by decide +kernel
theorem dX7_step_44 : decode cX7_step 44 = .ok (.iconst 1, 1) := by decide +kernel
theorem dX7_step_45 : decode cX7_step 45 = .ok (.iadd, 1) := by decide +kernel
theorem dX7_step_46 : decode cX7_step 46 = .ok (.putfield 43, 3) := by decide +kernel
theorem dX7_step_49 : decode cX7_step 49 = .ok (.goto (-49), 3) := by decide +kernel
theorem dX7_step_52 : decode cX7_step 52 = .ok (.aload_n 0, 1) := by decide +kernel
theorem dX7_step_53 : decode cX7_step 53 = .ok (.aload_n 0, 1) := by decide +kernel
theorem dX7_step_54 : decode cX7_step 54 = .ok (.getfield 43, 3) := by decide +kernel
theorem dX7_step_57 : decode cX7_step 57 = .ok (.putfield 49, 3) := by decide +kernel
theorem dX7_step_60 : decode cX7_step 60 = .ok (.aload_n 0, 1) := by decide +kernel
theorem dX7_step_61 : decode cX7_step 61 = .ok (.iconst 0, 1) := by decide +kernel
theorem dX7_step_62 : decode cX7_step 62 = .ok (.putfield 52, 3) := by decide +kernel
theorem dX7_step_65 : decode cX7_step 65 = .ok (.aload_n 0, 1) := by decide +kernel
theorem dX7_step_66 : decode cX7_step 66 = .ok (.getfield 43, 3) := by decide +kernel
theorem dX7_step_69 : decode cX7_step 69 = .ok (.aload_n 0, 1) := by decide +kernel
theorem dX7_step_70 : decode cX7_step 70 = .ok (.getfield 33, 3) := by decide +kernel
theorem dX7_step_73 : decode cX7_step 73 = .ok (.if_icmp .lt 11, 3) := by decide +kernel
theorem dX7_step_76 : decode cX7_step 76 = .ok (.aload_n 0, 1) := by decide +kernel
theorem dX7_step_77 : decode cX7_step 77 = .ok (.iconst 0, 1) := by decide +kernel
theorem dX7_step_78 : decode cX7_step 78 = .ok (.putfield 55, 3) := by decide +kernel
theorem dX7_step_81 : decode cX7_step 81 = .ok (.goto 122, 3) := by decide +kernel
theorem dX7_step_84 : decode cX7_step 84 = .ok (.aload_n 0, 1) := by decide +kernel
theorem dX7_step_85 : decode cX7_step 85 = .ok (.getfield 9, 3) := by decide +kernel
theorem dX7_step_88 : decode cX7_step 88 = .ok (.aload_n 0, 1) := by decide +kernel
theorem dX7_step_89 : decode cX7_step 89 = .ok (.getfield 43, 3) := by decide +kernel
theorem dX7_step_92 : decode cX7_step 92 = .ok (.caload, 1) := by decide +kernel
theorem dX7_step_93 : decode cX7_step 93 = .ok (.bipush 97, 2) := by decide +kernel
theorem dX7_step_95 : decode cX7_step 95 = .ok (.if_icmp .lt 24, 3) := by decide +kernel
theorem dX7_step_98 : decode cX7_step 98 = .ok (.aload_n 0, 1) := by decide +kernel
theorem dX7_step_99 : decode cX7_step 99 = .ok (.getfield 9, 3) := by decide +kernel
theorem dX7_step_102 : decode cX7_step 102 = .ok (.aload_n 0, 1) := by decide +kernel
theorem dX7_step_103 : decode cX7_step 103 = .ok (.getfield 43, 3) := by decide +kernel
theorem dX7_step_106 : decode cX7_step 106 = .ok (.caload, 1) := by decide +kernel
theorem dX7_step_107 : decode cX7_step 107 = .ok (.bipush 122, 2) := by decide +kernel
theorem dX7_step_109 : decode cX7_step 109 = .ok (.if_icmp .gt 10, 3) := by decide +kernel
theorem dX7_step_112 : decode cX7_step 112 = .ok (.aload_n 0, 1) := by decide +kernel
theorem dX7_step_113 : decode cX7_step 113 = .ok (.invokevirtual 58, 3) := by decide +kernel
theorem dX7_step_116 : decode cX7_step 116 = .ok (.goto 87, 3) := by decide +kernel
theorem dX7_step_119 : decode cX7_step 119 = .ok (.aload_n 0, 1) := by decide +kernel
theorem dX7_step_120 : decode cX7_step 120 = .ok (.getfield 9, 3) := by decide +kernel
theorem dX7_step_123 : decode cX7_step 123 = .ok (.aload_n 0, 1) := by decide +kernel
theorem dX7_step_124 : decode cX7_step 124 = .ok (.getfield 43, 3) := by decide +kernel
theorem dX7_step_127 : decode cX7_step 127 = .ok (.caload, 1) := by decide +kernel
theorem dX7_step_128 : decode cX7_step 128 = .ok (.bipush 48, 2) := by decide +kernel
theorem dX7_step_130 : decode cX7_step 130 = .ok (.if_icmp .lt 24, 3) := by decide +kernel
theorem dX7_step_133 : decode cX7_step 133 = .ok (.aload_n 0, 1) := by decide +kernel
theorem dX7_step_134 : decode cX7_step 134 = .ok (.getfield 9, 3) := by decide +kernel
theorem dX7_step_137 : decode cX7_step 137 = .ok (.aload_n 0, 1) := by decide +kernel
theorem dX7_step_138 : decode cX7_step 138 = .ok (.getfield 43, 3) := by decide +kernel
theorem dX7_step_141 : decode cX7_step 141 = .ok (.caload, 1) := by decide +kernel
theorem dX7_step_142 : decode cX7_step 142 = .ok (.bipush 57, 2) := by decide +kernel
theorem dX7_step_144 : decode cX7_step 144 = .ok (.if_icmp .gt 10, 3) := by decide +kernel
theorem dX7_step_147 : decode cX7_step 147 = .ok (.aload_n 0, 1) := by decide +kernel
theorem dX7_step_148 : decode cX7_step 148 = .ok (.invokevirtual 61, 3) := by decide +kernel
theorem dX7_step_151 : decode cX7_step 151 = .ok (.goto 52, 3) := by decide +kernel
theorem dX7_step_154 : decode cX7_step 154 = .ok (.aload_n 0, 1) := by decide +kernel
theorem dX7_step_155 : decode cX7_step 155 = .ok (.aload_n 0, 1) := by decide +kernel
theorem dX7_step_156 : decode cX7_step 156 = .ok (.getfield 9, 3) := by decide +kernel
theorem dX7_step_159 : decode cX7_step 159 = .ok (.aload_n 0, 1) := by decide +kernel
theorem dX7_step_160 : decode cX7_step 160 = .ok (.getfield 43, 3) := by decide +kernel
theorem dX7_step_163 : decode cX7_step 163 = .ok (.caload, 1) := by decide +kernel
theorem dX7_step_164 : decode cX7_step 164 = .ok (.putfield 52, 3) := by decide +kernel
theorem dX7_step_167 : decode cX7_step 167 = .ok (.aload_n 0, 1) := by decide +kernel
theorem dX7_step_168 : decode cX7_step 168 = .ok (.ldc 64, 2) := by decide +kernel
theorem dX7_step_170 : decode cX7_step 170 = .ok (.aload_n 0, 1) := by decide +kernel
theorem dX7_step_171 : decode cX7_step 171 = .ok (.getfield 9, 3) := by decide +kernel
theorem dX7_step_174 : decode cX7_step 174 = .ok (.aload_n 0, 1) := by decide +kernel
theorem dX7_step_175 : decode cX7_step 175 = .ok (.getfield 43, 3) := by decide +kernel
theorem dX7_step_178 : decode cX7_step 178 = .ok (.caload, 1) := by decide +kernel
theorem dX7_step_179 : decode cX7_step 179 = .ok (.invokevirtual 66, 3) := by decide +kernel
theorem dX7_step_182 : decode cX7_step 182 = .ok (.ifCond .lt 7, 3) := by decide +kernel
theorem dX7_step_185 : decode cX7_step 185 = .ok (.iconst 4, 1) := by decide +kernel
theorem dX7_step_186 : decode cX7_step 186 = .ok (.goto 4, 3) := by decide +kernel
theorem dX7_step_189 : decode cX7_step 189 = .ok (.iconst 1, 1) := by decide +kernel
theorem dX7_step_190 : decode cX7_step 190 = .ok (.putfield 55, 3) := by decide +kernel
theorem dX7_step_193 : decode cX7_step 193 = .ok (.aload_n 0, 1) := by decide +kernel
theorem dX7_step_194 : decode cX7_step 194 = .ok (.dup, 1) := by decide +kernel
theorem dX7_step_195 : decode cX7_step 195 = .ok (.getfield 43, 3) := by decide +kernel
theorem dX7_step_198 : decode cX7_step 198 = .ok (.iconst 1, 1) := by decide +kernel
theorem dX7_step_199 : decode cX7_step 199 = .ok (.iadd, 1) := by decide +kernel
theorem dX7_step_200 : decode cX7_step 200 = .ok (.putfield 43, 3) := by decide +kernel
theorem dX7_step_203 : decode cX7_step 203 = .ok (.return_, 1) := by decide +kernel
def fX7_step (a0 : Nat) (G : Hp) : RT := (lp (fun (_ : Hp) => (none : RT)) 5000 (fun (rc2 : Hp → RT) (G1 : Hp) => jn (bh (up G1 a0 5 (G1 a0 2)) fun G4 => bh (up G4 a0 6 0) fun G5 => if (G5 a0 2) < (G5 a0 3) then (br (rd G5 ((rf a0 0)) 1000 (G5 a0 2)) fun v6 => jn (br (rd G5 ((rf a0 0)) 1000 (G5 a0 2)) fun v8 => jn (br (rd G5 ((rf a0 0)) 1000 (G5 a0 2)) fun v10 => bh (up G5 a0 6 v10) fun G11 => br (rd G11 ((rf a0 0)) 1000 (G11 a0 2)) fun v12 => bp (fJ0_indexOf_0f7a4 1 v12 G11) fun v13 => jn (fun (v14 : Int) => bh (up G11 a0 4 v14) fun G16 => bh (up G16 a0 2 (iadd (G16 a0 2) 1)) fun G17 => rt 0 G17) fun (K15 : Int → RT) => if v13 < 0 then K15 1 else K15 4) fun (K9 : RT) => if v8 < 48 then K9 else (br (rd G5 ((rf a0 0)) 1000 (G5 a0 2)) fun v18 => if 57 < v18 then K9 else (bn (fX7_readNumber a0 G5) fun _ G19 => rt 0 G19))) fun (K7 : RT) => if v6 < 97 then K7 else (br (rd G5 ((rf a0 0)) 1000 (G5 a0 2)) fun v21 => if 122 < v21 then K7 else (bn (fX7_readWord a0 G5) fun _ G22 => rt 0 G22))) else (bh (up G5 a0 4 0) fun G24 => rt 0 G24)) fun (K3 : RT) => if (G1 a0 2) < (G1 a0 3) then (br (rd G1 ((rf a0 0)) 1000 (G1 a0 2)) fun v25 => jn (bh (up G1 a0 2 (iadd (G1 a0 2) 1)) fun G27 => rc2 G27) fun (K26 : RT) => if v25 = 32 then K26 else (br (rd G1 ((rf a0 0)) 1000 (G1 a0 2)) fun v28 => if v28 = 10 then K26 else K3)) else K3)) G
set_option maxRecDepth 20000 in
set_option maxHeartbeats 4000000 in
theorem tX7_step (l : Launch) (x : WX) (hi : Inj x.2.2) (G : Hp) (a0 : Nat) (ha0 : kd a0 = 7) : Ct l x yX7_step cX7_step 1 none 4 129 129 [vR a0] G (fX7_step a0 G) := by
  refine ct_of (plainFor_of_name (by decide)) hi (Nat.le_refl _) (Nat.le_refl _) (Nat.le_of_ble_eq_true rfl) (fun cx F hd hn0 hnE hl hQ => ?_)
  subst hl
  have F : Fx cx x RX7 cX7_step 1 none := F
  show Y cx x 1 none 129 0 [(0, vR a0)] [] G _
  unfold fX7_step
  refine x_lp (fun (rc2 : Hp → RT) => ∀ (G1 : Hp), Y cx x 1 none 129 0 [(0, vR a0)] [] G1 (rc2 G1)) (fun _ => Y_none) (fun rc2 hrc2 G1 => ?_) 5000 G
  refine x_aload_n F dX7_step_0 rfl rfl rfl ?_
  refine s_getI F flX7_43 ha0 rfl dX7_step_1 rfl ?_
  refine x_aload_n F dX7_step_4 rfl rfl rfl ?_
  refine s_getI F flX7_33 ha0 rfl dX7_step_5 rfl ?_
  refine x_jn (fun (K3 : RT) => Y cx x 1 none 129 52 [(0, vR a0)] [] G1 K3) ?_ (fun K3 hK3 => ?_)
  · refine x_aload_n F dX7_step_52 rfl rfl rfl ?_
    refine x_aload_n F dX7_step_53 rfl rfl rfl ?_
    refine s_getI F flX7_43 ha0 rfl dX7_step_54 rfl ?_
    refine s_putI F fpX7_49 ha0 rfl dX7_step_57 rfl (fun G4 => ?_)
    refine x_aload_n F dX7_step_60 rfl rfl rfl ?_
    refine x_iconst F dX7_step_61 ⟨by decide, by decide⟩ rfl ?_
    refine s_putI F fpX7_52 ha0 rfl dX7_step_62 rfl (fun G5 => ?_)
    refine x_aload_n F dX7_step_65 rfl rfl rfl ?_
    refine s_getI F flX7_43 ha0 rfl dX7_step_66 rfl ?_
    refine x_aload_n F dX7_step_69 rfl rfl rfl ?_
    refine s_getI F flX7_33 ha0 rfl dX7_step_70 rfl ?_
    refine x_icmplt (pt := 84) F dX7_step_73 rfl rfl ?_ ?_
    · refine x_aload_n F dX7_step_84 rfl rfl rfl ?_
      refine x_getR F flX7_9 ha0 rfl dX7_step_85 rfl ?_
      refine x_aload_n F dX7_step_88 rfl rfl rfl ?_
      refine s_getI F flX7_43 ha0 rfl dX7_step_89 rfl ?_
      refine s_cald F (tf7_0 ha0).1 (tf7_0 ha0).2 dX7_step_92 rfl (fun v6 => ?_)
      refine x_bipush F dX7_step_93 ⟨by decide, by decide⟩ (by decide) rfl ?_
      refine x_jn (fun (K7 : RT) => Y cx x 1 none 129 119 [(0, vR a0)] [] G5 K7) ?_ (fun K7 hK7 => ?_)
      · refine x_aload_n F dX7_step_119 rfl rfl rfl ?_
        refine x_getR F flX7_9 ha0 rfl dX7_step_120 rfl ?_
        refine x_aload_n F dX7_step_123 rfl rfl rfl ?_
        refine s_getI F flX7_43 ha0 rfl dX7_step_124 rfl ?_
        refine s_cald F (tf7_0 ha0).1 (tf7_0 ha0).2 dX7_step_127 rfl (fun v8 => ?_)
        refine x_bipush F dX7_step_128 ⟨by decide, by decide⟩ (by decide) rfl ?_
        refine x_jn (fun (K9 : RT) => Y cx x 1 none 129 154 [(0, vR a0)] [] G5 K9) ?_ (fun K9 hK9 => ?_)
        · refine x_aload_n F dX7_step_154 rfl rfl rfl ?_
          refine x_aload_n F dX7_step_155 rfl rfl rfl ?_
          refine x_getR F flX7_9 ha0 rfl dX7_step_156 rfl ?_
          refine x_aload_n F dX7_step_159 rfl rfl rfl ?_
          refine s_getI F flX7_43 ha0 rfl dX7_step_160 rfl ?_
          refine s_cald F (tf7_0 ha0).1 (tf7_0 ha0).2 dX7_step_163 rfl (fun v10 => ?_)
          refine s_putI F fpX7_52 ha0 rfl dX7_step_164 rfl (fun G11 => ?_)
          refine x_aload_n F dX7_step_167 rfl rfl rfl ?_
          refine x_ldcS F 1 (by decide) rfl dX7_step_168 rfl ?_
          refine x_aload_n F dX7_step_170 rfl rfl rfl ?_
          refine x_getR F flX7_9 ha0 rfl dX7_step_171 rfl ?_
          refine x_aload_n F dX7_step_174 rfl rfl rfl ?_
          refine s_getI F flX7_43 ha0 rfl dX7_step_175 rfl ?_
          refine s_cald F (tf7_0 ha0).1 (tf7_0 ha0).2 dX7_step_178 rfl (fun v12 => ?_)
          refine s_callTP F [vI v12] [vR a0] lkX7_66 mJ0_indexOf_0f7a4 rfl (by decide) hnE hn0 hd pJ0_indexOf_0f7a4 (tJ0_indexOf_0f7a4 (Nat.le_refl _) cx.l x hi G11 1 v12 (by decide)) rfl rfl dX7_step_179 rfl rfl (fun v13 => ?_)
          refine x_jn (fun (K15 : Int → RT) => ∀ (v14 : Int), Y cx x 1 none 129 190 [(0, vR a0)] [vI v14, vR a0] G11 (K15 v14)) ?_ (fun K15 hK15 => ?_)
          · intro v14
            refine s_putI F fpX7_55 ha0 rfl dX7_step_190 rfl (fun G16 => ?_)
            refine x_aload_n F dX7_step_193 rfl rfl rfl ?_
            refine x_dup F dX7_step_194 rfl rfl ?_
            refine s_getI F flX7_43 ha0 rfl dX7_step_195 rfl ?_
            refine x_iconst F dX7_step_198 ⟨by decide, by decide⟩ rfl ?_
            refine x_iadd F dX7_step_199 rfl ?_
            refine s_putI F fpX7_43 ha0 rfl dX7_step_200 rfl (fun G17 => ?_)
            exact x_vret F hnE hQ dX7_step_203
          · refine x_iflt (pt := 189) F dX7_step_182 rfl rfl ?_ ?_
            · refine x_iconst F dX7_step_189 ⟨by decide, by decide⟩ rfl ?_
              exact hK15 1
            · refine x_iconst F dX7_step_185 ⟨by decide, by decide⟩ rfl ?_
              refine x_goto (pc' := 190) F dX7_step_186 rfl ?_
              exact hK15 4
        · refine x_icmplt (pt := 154) F dX7_step_130 rfl rfl ?_ ?_
          · exact hK9
          · refine x_aload_n F dX7_step_133 rfl rfl rfl ?_
            refine x_getR F flX7_9 ha0 rfl dX7_step_134 rfl ?_
            refine x_aload_n F dX7_step_137 rfl rfl rfl ?_
            refine s_getI F flX7_43 ha0 rfl dX7_step_138 rfl ?_
            refine s_cald F (tf7_0 ha0).1 (tf7_0 ha0).2 dX7_step_141 rfl (fun v18 => ?_)
            refine x_bipush F dX7_step_142 ⟨by decide, by decide⟩ (by decide) rfl ?_
            refine x_icmpgt (pt := 154) F dX7_step_144 rfl rfl ?_ ?_
            · exact hK9
            · refine x_aload_n F dX7_step_147 rfl rfl rfl ?_
              refine s_callVv F [] [] lkX7_61 mX7_readNumber rfl ha0 rfl hnE hn0 hd (tX7_readNumber cx.l x hi G5 a0 ha0) rfl rfl dX7_step_148 rfl rfl (fun _ G19 => ?_)
              refine x_goto (pc' := 203) F dX7_step_151 rfl ?_
              exact x_vret F hnE hQ dX7_step_203
      · refine x_icmplt (pt := 119) F dX7_step_95 rfl rfl ?_ ?_
        · exact hK7
        · refine x_aload_n F dX7_step_98 rfl rfl rfl ?_
          refine x_getR F flX7_9 ha0 rfl dX7_step_99 rfl ?_
          refine x_aload_n F dX7_step_102 rfl rfl rfl ?_
          refine s_getI F flX7_43 ha0 rfl dX7_step_103 rfl ?_
          refine s_cald F (tf7_0 ha0).1 (tf7_0 ha0).2 dX7_step_106 rfl (fun v21 => ?_)
          refine x_bipush F dX7_step_107 ⟨by decide, by decide⟩ (by decide) rfl ?_
          refine x_icmpgt (pt := 119) F dX7_step_109 rfl rfl ?_ ?_
          · exact hK7
          · refine x_aload_n F dX7_step_112 rfl rfl rfl ?_
            refine s_callVv F [] [] lkX7_58 mX7_readWord rfl ha0 rfl hnE hn0 hd (tX7_readWord cx.l x hi G5 a0 ha0) rfl rfl dX7_step_113 rfl rfl (fun _ G22 => ?_)
            refine x_goto (pc' := 203) F dX7_step_116 rfl ?_
            exact x_vret F hnE hQ dX7_step_203
    · refine x_aload_n F dX7_step_76 rfl rfl rfl ?_
      refine x_iconst F dX7_step_77 ⟨by decide, by decide⟩ rfl ?_
      refine s_putI F fpX7_55 ha0 rfl dX7_step_78 rfl (fun G24 => ?_)
      refine x_goto (pc' := 203) F dX7_step_81 rfl ?_
      exact x_vret F hnE hQ dX7_step_203
  · refine x_icmpge (pt := 52) F dX7_step_8 rfl rfl ?_ ?_
    · refine x_aload_n F dX7_step_11 rfl rfl rfl ?_
      refine x_getR F flX7_9 ha0 rfl dX7_step_12 rfl ?_
      refine x_aload_n F dX7_step_15 rfl rfl rfl ?_
      refine s_getI F flX7_43 ha0 rfl dX7_step_16 rfl ?_
      refine s_cald F (tf7_0 ha0).1 (tf7_0 ha0).2 dX7_step_19 rfl (fun v25 => ?_)
      refine x_bipush F dX7_step_20 ⟨by decide, by decide⟩ (by decide) rfl ?_
      refine x_jn (fun (K26 : RT) => Y cx x 1 none 129 39 [(0, vR a0)] [] G1 K26) ?_ (fun K26 hK26 => ?_)
      · refine x_aload_n F dX7_step_39 rfl rfl rfl ?_
        refine x_dup F dX7_step_40 rfl rfl ?_
        refine s_getI F flX7_43 ha0 rfl dX7_step_41 rfl ?_
        refine x_iconst F dX7_step_44 ⟨by decide, by decide⟩ rfl ?_
        refine x_iadd F dX7_step_45 rfl ?_
        refine s_putI F fpX7_43 ha0 rfl dX7_step_46 rfl (fun G27 => ?_)
        refine x_goto (pc' := 0) F dX7_step_49 rfl ?_
        exact hrc2 G27
      · refine x_icmpeq (pt := 39) F dX7_step_22 rfl rfl ?_ ?_
        · exact hK26
        · refine x_aload_n F dX7_step_25 rfl rfl rfl ?_
          refine x_getR F flX7_9 ha0 rfl dX7_step_26 rfl ?_
          refine x_aload_n F dX7_step_29 rfl rfl rfl ?_
          refine s_getI F flX7_43 ha0 rfl dX7_step_30 rfl ?_
          refine s_cald F (tf7_0 ha0).1 (tf7_0 ha0).2 dX7_step_33 rfl (fun v28 => ?_)
          refine x_bipush F dX7_step_34 ⟨by decide, by decide⟩ (by decide) rfl ?_
          refine x_icmpne (pt := 52) F dX7_step_36 rfl rfl ?_ ?_
          · exact hK26
          · exact hK3
    · exact hK3
theorem dX7_goTo_0 : decode cX7_goTo 0 = .ok (.aload_n 0, 1) := by decide +kernel
theorem dX7_goTo_1 : decode cX7_goTo 1 = .ok (.iload_n 1, 1) := by decide +kernel
theorem dX7_goTo_2 : decode cX7_goTo 2 = .ok (.ifCond .ge 7, 3) := by decide +kernel
theorem dX7_goTo_5 : decode cX7_goTo 5 = .ok (.iconst 0, 1) := by decide +kernel
theorem dX7_goTo_6 : decode cX7_goTo 6 = .ok (.goto 4, 3) := by decide +kernel
theorem dX7_goTo_9 : decode cX7_goTo 9 = .ok (.iload_n 1, 1) := by decide +kernel
theorem dX7_goTo_10 : decode cX7_goTo 10 = .ok (.putfield 43, 3) := by decide +kernel
theorem dX7_goTo_13 : decode cX7_goTo 13 = .ok (.aload_n 0, 1) := by decide +kernel
theorem dX7_goTo_14 : decode cX7_goTo 14 = .ok (.invokevirtual 46, 3) := by decide +kernel
theorem dX7_goTo_17 : decode cX7_goTo 17 = .ok (.return_, 1) := by decide +kernel
def fX7_goTo (a0 : Nat) (a1 : Int) (G : Hp) : RT := jn (fun (v1 : Int) => bh (up G a0 2 v1) fun G3 => bn (fX7_step a0 G3) fun _ G4 => rt 0 G4) fun (K2 : Int → RT) => if a1 < 0 then K2 0 else K2 a1
set_option maxRecDepth 20000 in
set_option maxHeartbeats 4000000 in
theorem tX7_goTo (l : Launch) (x : WX) (hi : Inj x.2.2) (G : Hp) (a0 : Nat) (a1 : Int) (ha0 : kd a0 = 7) : Ct l x yX7_goTo cX7_goTo 2 none 5 129 129 [vR a0, vI a1] G (fX7_goTo a0 a1 G) := by
  refine ct_of (plainFor_of_name (by decide)) hi (Nat.le_refl _) (Nat.le_refl _) (Nat.le_of_ble_eq_true rfl) (fun cx F hd hn0 hnE hl hQ => ?_)
  subst hl
  have F : Fx cx x RX7 cX7_goTo 2 none := F
  show Y cx x 2 none 129 0 [(0, vR a0), (1, vI a1)] [] G _
  unfold fX7_goTo
  refine x_aload_n F dX7_goTo_0 rfl rfl rfl ?_
  refine x_iload_n F dX7_goTo_1 rfl rfl rfl ?_
  refine x_jn (fun (K2 : Int → RT) => ∀ (v1 : Int), Y cx x 2 none 129 10 [(0, vR a0)] [vI v1, vR a0] G (K2 v1)) ?_ (fun K2 hK2 => ?_)
  · intro v1
    refine s_putI F fpX7_43 ha0 rfl dX7_goTo_10 rfl (fun G3 => ?_)
    refine x_aload_n F dX7_goTo_13 rfl rfl rfl ?_
    refine s_callVv F [] [] lkX7_46 mX7_step rfl ha0 rfl hnE hn0 hd (tX7_step cx.l x hi G3 a0 ha0) rfl rfl dX7_goTo_14 rfl rfl (fun _ G4 => ?_)
    exact x_vret F hnE hQ dX7_goTo_17
  · refine x_ifge (pt := 9) F dX7_goTo_2 rfl rfl ?_ ?_
    · refine x_iconst F dX7_goTo_5 ⟨by decide, by decide⟩ rfl ?_
      refine x_goto (pc' := 10) F dX7_goTo_6 rfl ?_
      refine x_dp (L' := [(0, vR a0)]) [0] rfl ?_
      exact hK2 0
    · refine x_iload_n F dX7_goTo_9 rfl rfl rfl ?_
      refine x_dp (L' := [(0, vR a0)]) [0] rfl ?_
      exact hK2 a1
theorem dX7_takeSign_0 : decode cX7_takeSign 0 = .ok (.aload_n 0, 1) := by decide +kernel
theorem dX7_takeSign_1 : decode cX7_takeSign 1 = .ok (.iload_n 1, 1) := by decide +kernel
theorem dX7_takeSign_2 : decode cX7_takeSign 2 = .ok (.invokevirtual 74, 3) := by decide +kernel
theorem dX7_takeSign_5 : decode cX7_takeSign 5 = .ok (.ifCond .ne 9, 3) := by decide +kernel
theorem dX7_takeSign_8 : decode cX7_takeSign 8 = .ok (.aload_n 0, 1) := by decide +kernel
theorem dX7_takeSign_9 : decode cX7_takeSign 9 = .ok (.iconst 1, 1) := by decide +kernel
theorem dX7_takeSign_10 : decode cX7_takeSign 10 = .ok (.invokevirtual 78, 3) := by decide +kernel
theorem dX7_takeSign_13 : decode cX7_takeSign 13 = .ok (.ireturn, 1) := by decide +kernel
theorem dX7_takeSign_14 : decode cX7_takeSign 14 = .ok (.aload_n 0, 1) := by decide +kernel
theorem dX7_takeSign_15 : decode cX7_takeSign 15 = .ok (.invokevirtual 46, 3) := by decide +kernel
theorem dX7_takeSign_18 : decode cX7_takeSign 18 = .ok (.iconst 1, 1) := by decide +kernel
theorem dX7_takeSign_19 : decode cX7_takeSign 19 = .ok (.ireturn, 1) := by decide +kernel
def fX7_takeSign (a0 : Nat) (a1 : Int) (G : Hp) : RT := bp (fX7_isSign a0 a1 G) fun v1 => if v1 = 0 then (bn (fX7_wrong a0 1 G) fun v4 G5 => rz v4 G5) else (bn (fX7_step a0 G) fun _ G2 => rz 1 G2)
set_option maxRecDepth 20000 in
set_option maxHeartbeats 4000000 in
theorem tX7_takeSign (l : Launch) (x : WX) (hi : Inj x.2.2) (G : Hp) (a0 : Nat) (a1 : Int) (ha0 : kd a0 = 7) : Ct l x yX7_takeSign cX7_takeSign 2 (some .boolean) 5 129 129 [vR a0, vI a1] G (fX7_takeSign a0 a1 G) := by
  refine ct_of (plainFor_of_name (by decide)) hi (Nat.le_refl _) (Nat.le_refl _) (Nat.le_of_ble_eq_true rfl) (fun cx F hd hn0 hnE hl hQ => ?_)
  subst hl
  have F : Fx cx x RX7 cX7_takeSign 2 (some .boolean) := F
  show Y cx x 2 (some .boolean) 129 0 [(0, vR a0), (1, vI a1)] [] G _
  unfold fX7_takeSign
  refine x_aload_n F dX7_takeSign_0 rfl rfl rfl ?_
  refine x_iload_n F dX7_takeSign_1 rfl rfl rfl ?_
  refine s_callVP F [vI a1] [] lkX7_74 mX7_isSign rfl ha0 rfl hnE hn0 hd pX7_isSign (tX7_isSign cx.l x hi G a0 a1 ha0) rfl rfl dX7_takeSign_2 rfl rfl (fun v1 => ?_)
  refine x_ifne (pt := 14) F dX7_takeSign_5 rfl rfl ?_ ?_
  · refine x_aload_n F dX7_takeSign_8 rfl rfl rfl ?_
    refine x_iconst F dX7_takeSign_9 ⟨by decide, by decide⟩ rfl ?_
    refine s_callV F [vI 1] [] lkX7_78 mX7_wrong rfl ha0 rfl hnE hn0 hd (tX7_wrong cx.l x hi G a0 1 ha0) rfl rfl dX7_takeSign_10 rfl rfl (fun v4 G5 => ?_)
    exact x_zret F hnE hQ dX7_takeSign_13
  · refine x_aload_n F dX7_takeSign_14 rfl rfl rfl ?_
    refine s_callVv F [] [] lkX7_46 mX7_step rfl ha0 rfl hnE hn0 hd (tX7_step cx.l x hi G a0 ha0) rfl rfl dX7_takeSign_15 rfl rfl (fun _ G2 => ?_)
    refine x_iconst F dX7_takeSign_18 ⟨by decide, by decide⟩ rfl ?_
    exact x_zret F hnE hQ dX7_takeSign_19
theorem dX7_takeWord_0 : decode cX7_takeWord 0 = .ok (.aload_n 0, 1) := by decide +kernel
theorem dX7_takeWord_1 : decode cX7_takeWord 1 = .ok (.iload_n 1, 1) := by decide +kernel
theorem dX7_takeWord_2 : decode cX7_takeWord 2 = .ok (.iload_n 1, 1) := by decide +kernel
theorem dX7_takeWord_3 : decode cX7_takeWord 3 = .ok (.invokevirtual 82, 3) := by decide +kernel
theorem dX7_takeWord_6 : decode cX7_takeWord 6 = .ok (.ifCond .ne 9, 3) := by decide +kernel
theorem dX7_takeWord_9 : decode cX7_takeWord 9 = .ok (.aload_n 0, 1) := by decide +kernel
theorem dX7_takeWord_10 : decode cX7_takeWord 10 = .ok (.iconst 1, 1) := by decide +kernel
theorem dX7_takeWord_11 : decode cX7_takeWord 11 = .ok (.invokevirtual 78, 3) := by decide +kernel
theorem dX7_takeWord_14 : decode cX7_takeWord 14 = .ok (.ireturn, 1) := by decide +kernel
theorem dX7_takeWord_15 : decode cX7_takeWord 15 = .ok (.aload_n 0, 1) := by decide +kernel
theorem dX7_takeWord_16 : decode cX7_takeWord 16 = .ok (.invokevirtual 46, 3) := by decide +kernel
theorem dX7_takeWord_19 : decode cX7_takeWord 19 = .ok (.iconst 1, 1) := by decide +kernel
theorem dX7_takeWord_20 : decode cX7_takeWord 20 = .ok (.ireturn, 1) := by decide +kernel
def fX7_takeWord (a0 : Nat) (a1 : Int) (G : Hp) : RT := bp (fX7_isWord a0 a1 a1 G) fun v1 => if v1 = 0 then (bn (fX7_wrong a0 1 G) fun v4 G5 => rz v4 G5) else (bn (fX7_step a0 G) fun _ G2 => rz 1 G2)
set_option maxRecDepth 20000 in
set_option maxHeartbeats 4000000 in
theorem tX7_takeWord (l : Launch) (x : WX) (hi : Inj x.2.2) (G : Hp) (a0 : Nat) (a1 : Int) (ha0 : kd a0 = 7) : Ct l x yX7_takeWord cX7_takeWord 2 (some .boolean) 5 129 129 [vR a0, vI a1] G (fX7_takeWord a0 a1 G) := by
  refine ct_of (plainFor_of_name (by decide)) hi (Nat.le_refl _) (Nat.le_refl _) (Nat.le_of_ble_eq_true rfl) (fun cx F hd hn0 hnE hl hQ => ?_)
  subst hl
  have F : Fx cx x RX7 cX7_takeWord 2 (some .boolean) := F
  show Y cx x 2 (some .boolean) 129 0 [(0, vR a0), (1, vI a1)] [] G _
  unfold fX7_takeWord
  refine x_aload_n F dX7_takeWord_0 rfl rfl rfl ?_
  refine x_iload_n F dX7_takeWord_1 rfl rfl rfl ?_
  refine x_iload_n F dX7_takeWord_2 rfl rfl rfl ?_
  refine s_callVP F [vI a1, vI a1] [] lkX7_82 mX7_isWord rfl ha0 rfl hnE hn0 hd pX7_isWord (tX7_isWord cx.l x hi G a0 a1 a1 ha0) rfl rfl dX7_takeWord_3 rfl rfl (fun v1 => ?_)
  refine x_ifne (pt := 15) F dX7_takeWord_6 rfl rfl ?_ ?_
  · refine x_aload_n F dX7_takeWord_9 rfl rfl rfl ?_
    refine x_iconst F dX7_takeWord_10 ⟨by decide, by decide⟩ rfl ?_
    refine s_callV F [vI 1] [] lkX7_78 mX7_wrong rfl ha0 rfl hnE hn0 hd (tX7_wrong cx.l x hi G a0 1 ha0) rfl rfl dX7_takeWord_11 rfl rfl (fun v4 G5 => ?_)
    exact x_zret F hnE hQ dX7_takeWord_14
  · refine x_aload_n F dX7_takeWord_15 rfl rfl rfl ?_
    refine s_callVv F [] [] lkX7_46 mX7_step rfl ha0 rfl hnE hn0 hd (tX7_step cx.l x hi G a0 ha0) rfl rfl dX7_takeWord_16 rfl rfl (fun _ G2 => ?_)
    refine x_iconst F dX7_takeWord_19 ⟨by decide, by decide⟩ rfl ?_
    exact x_zret F hnE hQ dX7_takeWord_20
theorem dX7_restart_0 : decode cX7_restart 0 = .ok (.aload_n 0, 1) := by decide +kernel
theorem dX7_restart_1 : decode cX7_restart 1 = .ok (.iconst 0, 1) := by decide +kernel
theorem dX7_restart_2 : decode cX7_restart 2 = .ok (.putfield 36, 3) := by decide +kernel
theorem dX7_restart_5 : decode cX7_restart 5 = .ok (.aload_n 0, 1) := by decide +kernel
theorem dX7_restart_6 : decode cX7_restart 6 = .ok (.iconst 0, 1) := by decide +kernel
theorem dX7_restart_7 : decode cX7_restart 7 = .ok (.invokevirtual 39, 3) := by decide +kernel
theorem dX7_restart_10 : decode cX7_restart 10 = .ok (.return_, 1) := by decide +kernel
def fX7_restart (a0 : Nat) (G : Hp) : RT := bh (up G a0 8 0) fun G1 => bn (fX7_goTo a0 0 G1) fun _ G2 => rt 0 G2
set_option maxRecDepth 20000 in
set_option maxHeartbeats 4000000 in
theorem tX7_restart (l : Launch) (x : WX) (hi : Inj x.2.2) (G : Hp) (a0 : Nat) (ha0 : kd a0 = 7) : Ct l x yX7_restart cX7_restart 1 none 6 129 129 [vR a0] G (fX7_restart a0 G) := by
  refine ct_of (plainFor_of_name (by decide)) hi (Nat.le_refl _) (Nat.le_refl _) (Nat.le_of_ble_eq_true rfl) (fun cx F hd hn0 hnE hl hQ => ?_)
  subst hl
  have F : Fx cx x RX7 cX7_restart 1 none := F
  show Y cx x 1 none 129 0 [(0, vR a0)] [] G _
  unfold fX7_restart
  refine x_aload_n F dX7_restart_0 rfl rfl rfl ?_
  refine x_iconst F dX7_restart_1 ⟨by decide, by decide⟩ rfl ?_
  refine s_putI F fpX7_36 ha0 rfl dX7_restart_2 rfl (fun G1 => ?_)
  refine x_aload_n F dX7_restart_5 rfl rfl rfl ?_
  refine x_iconst F dX7_restart_6 ⟨by decide, by decide⟩ rfl ?_
  refine s_callVv F [vI 0] [] lkX7_39 mX7_goTo rfl ha0 rfl hnE hn0 hd (tX7_goTo cx.l x hi G1 a0 0 ha0) rfl rfl dX7_restart_7 rfl rfl (fun _ G2 => ?_)
  exact x_vret F hnE hQ dX7_restart_10
