theorem dX4_valueOf_0 : decode cX4_valueOf 0 = .ok (.iload_n 1, 1) := by decide +kernel
theorem dX4_valueOf_1 : decode cX4_valueOf 1 = .ok (.iconst 4, 1) := by decide +kernel
theorem dX4_valueOf_2 : decode cX4_valueOf 2 = .ok (.if_icmp .lt 9, 3) := by decide +kernel
theorem dX4_valueOf_5 : decode cX4_valueOf 5 = .ok (.aload_n 0, 1) := by decide +kernel
theorem dX4_valueOf_6 : decode cX4_valueOf 6 = .ok (.iload_n 2, 1) := by decide +kernel
theorem dX4_valueOf_7 : decode cX4_valueOf 7 = .ok (.invokevirtual 162, 3) := by decide +kernel
theorem dX4_valueOf_10 : decode cX4_valueOf 10 = .ok (.ireturn, 1) := by decide +kernel
theorem dX4_valueOf_11 : decode cX4_valueOf 11 = .ok (.aload_n 0, 1) := by decide +kernel
theorem dX4_valueOf_12 : decode cX4_valueOf 12 = .ok (.iload_n 1, 1) := by decide +kernel
theorem dX4_valueOf_13 : decode cX4_valueOf 13 = .ok (.iconst 1, 1) := by decide +kernel
theorem dX4_valueOf_14 : decode cX4_valueOf 14 = .ok (.iadd, 1) := by decide +kernel
theorem dX4_valueOf_15 : decode cX4_valueOf 15 = .ok (.iload_n 2, 1) := by decide +kernel
theorem dX4_valueOf_16 : decode cX4_valueOf 16 = .ok (.invokevirtual 147, 3) := by decide +kernel
theorem dX4_valueOf_19 : decode cX4_valueOf 19 = .ok (.istore_n 3, 1) := by decide +kernel
theorem dX4_valueOf_20 : decode cX4_valueOf 20 = .ok (.iconst 0, 1) := by decide +kernel
theorem dX4_valueOf_21 : decode cX4_valueOf 21 = .ok (.istore 4, 2) := by decide +kernel
theorem dX4_valueOf_23 : decode cX4_valueOf 23 = .ok (.iload 4, 2) := by decide +kernel
theorem dX4_valueOf_25 : decode cX4_valueOf 25 = .ok (.sipush 1000, 3) := by decide +kernel
theorem dX4_valueOf_28 : decode cX4_valueOf 28 = .ok (.if_icmp .ge 56, 3) := by decide +kernel
theorem dX4_valueOf_31 : decode cX4_valueOf 31 = .ok (.aload_n 0, 1) := by decide +kernel
theorem dX4_valueOf_32 : decode cX4_valueOf 32 = .ok (.iload_n 1, 1) := by decide +kernel
theorem dX4_valueOf_33 : decode cX4_valueOf 33 = .ok (.invokevirtual 165, 3) := by decide +kernel
theorem dX4_valueOf_36 : decode cX4_valueOf 36 = .ok (.ifCond .eq 48, 3) := by decide +kernel
theorem dX4_valueOf_39 : decode cX4_valueOf 39 = .ok (.aload_n 0, 1) := by decide +kernel
theorem dX4_valueOf_40 : decode cX4_valueOf 40 = .ok (.getfield 9, 3) := by decide +kernel
theorem dX4_valueOf_43 : decode cX4_valueOf 43 = .ok (.getfield 62, 3) := by decide +kernel
theorem dX4_valueOf_46 : decode cX4_valueOf 46 = .ok (.istore 5, 2) := by decide +kernel
theorem dX4_valueOf_48 : decode cX4_valueOf 48 = .ok (.aload_n 0, 1) := by decide +kernel
theorem dX4_valueOf_49 : decode cX4_valueOf 49 = .ok (.getfield 9, 3) := by decide +kernel
theorem dX4_valueOf_52 : decode cX4_valueOf 52 = .ok (.invokevirtual 87, 3) := by decide +kernel
theorem dX4_valueOf_55 : decode cX4_valueOf 55 = .ok (.iload 5, 2) := by decide +kernel
theorem dX4_valueOf_57 : decode cX4_valueOf 57 = .ok (.iload_n 3, 1) := by decide +kernel
theorem dX4_valueOf_58 : decode cX4_valueOf 58 = .ok (.aload_n 0, 1) := by decide +kernel
theorem dX4_valueOf_59 : decode cX4_valueOf 59 = .ok (.iload_n 1, 1) := by decide +kernel
theorem dX4_valueOf_60 : decode cX4_valueOf 60 = .ok (.iconst 1, 1) := by decide +kernel
theorem dX4_valueOf_61 : decode cX4_valueOf 61 = .ok (.iadd, 1) := by decide +kernel
theorem dX4_valueOf_62 : decode cX4_valueOf 62 = .ok (.iload_n 2, 1) := by decide +kernel
theorem dX4_valueOf_63 : decode cX4_valueOf 63 = .ok (.invokevirtual 147, 3) := by decide +kernel
theorem dX4_valueOf_66 : decode cX4_valueOf 66 = .ok (.invokestatic 168, 3) := by decide +kernel
theorem dX4_valueOf_69 : decode cX4_valueOf 69 = .ok (.istore_n 3, 1) := by decide +kernel
theorem dX4_valueOf_70 : decode cX4_valueOf 70 = .ok (.iload_n 1, 1) := by decide +kernel
theorem dX4_valueOf_71 : decode cX4_valueOf 71 = .ok (.iconst 1, 1) := by decide +kernel
theorem dX4_valueOf_72 : decode cX4_valueOf 72 = .ok (.if_icmp .ne 6, 3) := by decide +kernel
theorem dX4_valueOf_75 : decode cX4_valueOf 75 = .ok (.goto 9, 3) := by decide +kernel
theorem dX4_valueOf_78 : decode cX4_valueOf 78 = .ok (.iinc 4 1, 3) := by decide +kernel
theorem dX4_valueOf_81 : decode cX4_valueOf 81 = .ok (.goto (-58), 3) := by decide +kernel
theorem dX4_valueOf_84 : decode cX4_valueOf 84 = .ok (.iload_n 3, 1) := by decide +kernel
theorem dX4_valueOf_85 : decode cX4_valueOf 85 = .ok (.ireturn, 1) := by decide +kernel
theorem dX4_partValue_0 : decode cX4_partValue 0 = .ok (.aload_n 0, 1) := by decide +kernel
theorem dX4_partValue_1 : decode cX4_partValue 1 = .ok (.invokevirtual 175, 3) := by decide +kernel
theorem dX4_partValue_4 : decode cX4_partValue 4 = .ok (.ifCond .ne 14, 3) := by decide +kernel
theorem dX4_partValue_7 : decode cX4_partValue 7 = .ok (.aload_n 0, 1) := by decide +kernel
theorem dX4_partValue_8 : decode cX4_partValue 8 = .ok (.getfield 9, 3) := by decide +kernel
theorem dX4_partValue_11 : decode cX4_partValue 11 = .ok (.iconst 1, 1) := by decide +kernel
theorem dX4_partValue_12 : decode cX4_partValue 12 = .ok (.invokevirtual 58, 3) := by decide +kernel
theorem dX4_partValue_15 : decode cX4_partValue 15 = .ok (.pop, 1) := by decide +kernel
theorem dX4_partValue_16 : decode cX4_partValue 16 = .ok (.iconst 0, 1) := by decide +kernel
theorem dX4_partValue_17 : decode cX4_partValue 17 = .ok (.ireturn, 1) := by decide +kernel
theorem dX4_partValue_18 : decode cX4_partValue 18 = .ok (.iload_n 1, 1) := by decide +kernel
theorem dX4_partValue_19 : decode cX4_partValue 19 = .ok (.iconst 5, 1) := by decide +kernel
theorem dX4_partValue_20 : decode cX4_partValue 20 = .ok (.if_icmp .lt 14, 3) := by decide +kernel
theorem dX4_partValue_23 : decode cX4_partValue 23 = .ok (.aload_n 0, 1) := by decide +kernel
theorem dX4_partValue_24 : decode cX4_partValue 24 = .ok (.getfield 9, 3) := by decide +kernel
theorem dX4_partValue_27 : decode cX4_partValue 27 = .ok (.iconst 5, 1) := by decide +kernel
theorem dX4_partValue_28 : decode cX4_partValue 28 = .ok (.invokevirtual 58, 3) := by decide +kernel
theorem dX4_partValue_31 : decode cX4_partValue 31 = .ok (.pop, 1) := by decide +kernel
theorem dX4_partValue_32 : decode cX4_partValue 32 = .ok (.iconst 0, 1) := by decide +kernel
theorem dX4_partValue_33 : decode cX4_partValue 33 = .ok (.ireturn, 1) := by decide +kernel
theorem dX4_partValue_34 : decode cX4_partValue 34 = .ok (.aload_n 0, 1) := by decide +kernel
theorem dX4_partValue_35 : decode cX4_partValue 35 = .ok (.getfield 9, 3) := by decide +kernel
theorem dX4_partValue_38 : decode cX4_partValue 38 = .ok (.getfield 41, 3) := by decide +kernel
theorem dX4_partValue_41 : decode cX4_partValue 41 = .ok (.istore_n 2, 1) := by decide +kernel
theorem dX4_partValue_42 : decode cX4_partValue 42 = .ok (.aload_n 0, 1) := by decide +kernel
theorem dX4_partValue_43 : decode cX4_partValue 43 = .ok (.getfield 9, 3) := by decide +kernel
theorem dX4_partValue_46 : decode cX4_partValue 46 = .ok (.getfield 62, 3) := by decide +kernel
theorem dX4_partValue_49 : decode cX4_partValue 49 = .ok (.istore_n 3, 1) := by decide +kernel
theorem dX4_partValue_50 : decode cX4_partValue 50 = .ok (.aload_n 0, 1) := by decide +kernel
theorem dX4_partValue_51 : decode cX4_partValue 51 = .ok (.getfield 9, 3) := by decide +kernel
theorem dX4_partValue_54 : decode cX4_partValue 54 = .ok (.invokevirtual 87, 3) := by decide +kernel
theorem dX4_partValue_57 : decode cX4_partValue 57 = .ok (.iload_n 2, 1) := by decide +kernel
theorem dX4_partValue_58 : decode cX4_partValue 58 = .ok (.iconst 3, 1) := by decide +kernel
theorem dX4_partValue_59 : decode cX4_partValue 59 = .ok (.if_icmp .ne 5, 3) := by decide +kernel
theorem dX4_partValue_62 : decode cX4_partValue 62 = .ok (.iload_n 3, 1) := by decide +kernel
theorem dX4_partValue_63 : decode cX4_partValue 63 = .ok (.ireturn, 1) := by decide +kernel
theorem dX4_partValue_64 : decode cX4_partValue 64 = .ok (.iload_n 2, 1) := by decide +kernel
theorem dX4_partValue_65 : decode cX4_partValue 65 = .ok (.iconst 4, 1) := by decide +kernel
theorem dX4_partValue_66 : decode cX4_partValue 66 = .ok (.if_icmp .ne 47, 3) := by decide +kernel
theorem dX4_partValue_69 : decode cX4_partValue 69 = .ok (.aload_n 0, 1) := by decide +kernel
theorem dX4_partValue_70 : decode cX4_partValue 70 = .ok (.iconst 0, 1) := by decide +kernel
theorem dX4_partValue_71 : decode cX4_partValue 71 = .ok (.iload_n 1, 1) := by decide +kernel
theorem dX4_partValue_72 : decode cX4_partValue 72 = .ok (.iconst 1, 1) := by decide +kernel
theorem dX4_partValue_73 : decode cX4_partValue 73 = .ok (.iadd, 1) := by decide +kernel
theorem dX4_partValue_74 : decode cX4_partValue 74 = .ok (.invokevirtual 147, 3) := by decide +kernel
theorem dX4_partValue_77 : decode cX4_partValue 77 = .ok (.istore 4, 2) := by decide +kernel
theorem dX4_partValue_79 : decode cX4_partValue 79 = .ok (.aload_n 0, 1) := by decide +kernel
theorem dX4_partValue_80 : decode cX4_partValue 80 = .ok (.getfield 9, 3) := by decide +kernel
theorem dX4_partValue_83 : decode cX4_partValue 83 = .ok (.bipush 41, 2) := by decide +kernel
theorem dX4_partValue_85 : decode cX4_partValue 85 = .ok (.invokevirtual 172, 3) := by decide +kernel
theorem dX4_partValue_88 : decode cX4_partValue 88 = .ok (.ifCond .eq 13, 3) := by decide +kernel
theorem dX4_partValue_91 : decode cX4_partValue 91 = .ok (.aload_n 0, 1) := by decide +kernel
theorem dX4_partValue_92 : decode cX4_partValue 92 = .ok (.getfield 9, 3) := by decide +kernel
theorem dX4_partValue_95 : decode cX4_partValue 95 = .ok (.invokevirtual 87, 3) := by decide +kernel
theorem dX4_partValue_98 : decode cX4_partValue 98 = .ok (.goto 12, 3) := by decide +kernel
theorem dX4_partValue_101 : decode cX4_partValue 101 = .ok (.aload_n 0, 1) := by decide +kernel
theorem dX4_partValue_102 : decode cX4_partValue 102 = .ok (.getfield 9, 3) := by decide +kernel
theorem dX4_partValue_105 : decode cX4_partValue 105 = .ok (.iconst 1, 1) := by decide +kernel
theorem dX4_partValue_106 : decode cX4_partValue 106 = .ok (.invokevirtual 58, 3) := by decide +kernel
theorem dX4_partValue_109 : decode cX4_partValue 109 = .ok (.pop, 1) := by decide +kernel
theorem dX4_partValue_110 : decode cX4_partValue 110 = .ok (.iload 4, 2) := by decide +kernel
theorem dX4_partValue_112 : decode cX4_partValue 112 = .ok (.ireturn, 1) := by decide +kernel
theorem dX4_partValue_113 : decode cX4_partValue 113 = .ok (.iload_n 3, 1) := by decide +kernel
theorem dX4_partValue_114 : decode cX4_partValue 114 = .ok (.bipush 19, 2) := by decide +kernel
theorem dX4_partValue_116 : decode cX4_partValue 116 = .ok (.if_icmp .ne 19, 3) := by decide +kernel
theorem dX4_partValue_119 : decode cX4_partValue 119 = .ok (.aload_n 0, 1) := by decide +kernel
theorem dX4_partValue_120 : decode cX4_partValue 120 = .ok (.iload_n 1, 1) := by decide +kernel
theorem dX4_partValue_121 : decode cX4_partValue 121 = .ok (.iconst 1, 1) := by decide +kernel
theorem dX4_partValue_122 : decode cX4_partValue 122 = .ok (.iadd, 1) := by decide +kernel
theorem dX4_partValue_123 : decode cX4_partValue 123 = .ok (.invokevirtual 162, 3) := by decide +kernel
theorem dX4_partValue_126 : decode cX4_partValue 126 = .ok (.ifCond .ne 7, 3) := by decide +kernel
theorem dX4_partValue_129 : decode cX4_partValue 129 = .ok (.iconst 1, 1) := by decide +kernel
theorem dX4_partValue_130 : decode cX4_partValue 130 = .ok (.goto 4, 3) := by decide +kernel
theorem dX4_partValue_133 : decode cX4_partValue 133 = .ok (.iconst 0, 1) := by decide +kernel
theorem dX4_partValue_134 : decode cX4_partValue 134 = .ok (.ireturn, 1) := by decide +kernel
theorem dX4_partValue_135 : decode cX4_partValue 135 = .ok (.aload_n 0, 1) := by decide +kernel
theorem dX4_partValue_136 : decode cX4_partValue 136 = .ok (.iload_n 3, 1) := by decide +kernel
theorem dX4_partValue_137 : decode cX4_partValue 137 = .ok (.invokevirtual 178, 3) := by decide +kernel
theorem dX4_partValue_140 : decode cX4_partValue 140 = .ok (.ireturn, 1) := by decide +kernel
def gX4_valueOf (R_X4_valueOf : Nat → Int → Int → Hp → RT) (R_X4_partValue : Nat → Int → Hp → RT) (a0 : Nat) (a1 : Int) (a2 : Int) (G : Hp) : RT := if a1 < 4 then (bn (R_X4_valueOf a0 (iadd a1 1) a2 G) fun v1 G2 => bd v1 fun v3 => bd 0 fun v4 => (lp (fun (_ : Int) (_ : Int) (_ : Hp) => (none : RT)) 5000 (fun (rc8 : Int → Int → Hp → RT) (v5 : Int) (v6 : Int) (G7 : Hp) => if v6 < 1000 then (bp (fX4_joinsOn a0 a1 G7) fun v9 => if v9 = 0 then rt v5 G7 else (bd (G7 ((rf a0 0)) 6) fun v10 => bn (fX7_step ((rf a0 0)) G7) fun _ G11 => bn (R_X4_valueOf a0 (iadd a1 1) a2 G11) fun v12 G13 => bp (fX4_joined v10 v5 v12 G13) fun v14 => bd v14 fun v15 => if a1 = 1 then rt v15 G13 else (bd (iadd v6 1) fun v16 => rc8 v15 v16 G13))) else rt v5 G7)) v3 v4 G2) else (bn (R_X4_partValue a0 a2 G) fun v18 G19 => rt v18 G19)
set_option maxRecDepth 20000 in
set_option maxHeartbeats 4000000 in
theorem uX4_valueOf (l : Launch) (x : WX) (hi : Inj x.2.2) (n : Nat) (R_X4_valueOf : Nat → Int → Int → Hp → RT) (R_X4_partValue : Nat → Int → Hp → RT) (hR_X4_valueOf : ∀ (G : Hp) (a0 : Nat) (a1 : Int) (a2 : Int) (ha0 : kd a0 = 4), Ct l x yX4_valueOf cX4_valueOf 6 (some .int) (5 + n) 129 129 [vR a0, vI a1, vI a2] G (R_X4_valueOf a0 a1 a2 G)) (hR_X4_partValue : ∀ (G : Hp) (a0 : Nat) (a1 : Int) (ha0 : kd a0 = 4), Ct l x yX4_partValue cX4_partValue 5 (some .int) (5 + n) 129 129 [vR a0, vI a1] G (R_X4_partValue a0 a1 G)) (G : Hp) (a0 : Nat) (a1 : Int) (a2 : Int) (ha0 : kd a0 = 4) : Ct l x yX4_valueOf cX4_valueOf 6 (some .int) (5 + (n + 1)) 129 129 [vR a0, vI a1, vI a2] G (gX4_valueOf R_X4_valueOf R_X4_partValue a0 a1 a2 G) := by
  refine ct_of (plainFor_of_name (by decide)) hi (Nat.le_refl _) (Nat.le_refl _) (Nat.le_of_ble_eq_true rfl) (fun cx F hd hn0 hnE hl hQ => ?_)
  subst hl
  have F : Fx cx x RX4 cX4_valueOf 6 (some .int) := F
  show Y cx x 6 (some .int) 129 0 [(0, vR a0), (1, vI a1), (2, vI a2)] [] G _
  unfold gX4_valueOf
  refine x_iload_n F dX4_valueOf_0 rfl rfl rfl ?_
  refine x_iconst F dX4_valueOf_1 ⟨by decide, by decide⟩ rfl ?_
  refine x_icmplt (pt := 11) F dX4_valueOf_2 rfl rfl ?_ ?_
  · refine x_aload_n F dX4_valueOf_11 rfl rfl rfl ?_
    refine x_iload_n F dX4_valueOf_12 rfl rfl rfl ?_
    refine x_iconst F dX4_valueOf_13 ⟨by decide, by decide⟩ rfl ?_
    refine x_iadd F dX4_valueOf_14 rfl ?_
    refine x_iload_n F dX4_valueOf_15 rfl rfl rfl ?_
    refine s_callV F [vI (iadd a1 1), vI a2] [] lkX4_147 mX4_valueOf rfl ha0 rfl hnE hn0 hd (hR_X4_valueOf G a0 (iadd a1 1) a2 ha0) (Nat.ble_eq_true_of_le (by omega)) rfl dX4_valueOf_16 rfl rfl (fun v1 G2 => ?_)
    refine x_istore_n F dX4_valueOf_19 rfl (by decide) rfl rfl (fun v3 => ?_)
    show Y cx x _ _ _ _ [(0, vR a0), (1, vI a1), (2, vI a2), (3, vI v3)] _ _ _
    refine x_iconst F dX4_valueOf_20 ⟨by decide, by decide⟩ rfl ?_
    refine x_istore F dX4_valueOf_21 (by decide) rfl rfl (fun v4 => ?_)
    show Y cx x _ _ _ _ [(0, vR a0), (1, vI a1), (2, vI a2), (3, vI v3), (4, vI v4)] _ _ _
    refine x_lp (fun (rc8 : Int → Int → Hp → RT) => ∀ (v5 : Int) (v6 : Int) (G7 : Hp), Y cx x 6 (some .int) 129 23 [(0, vR a0), (1, vI a1), (2, vI a2), (3, vI v5), (4, vI v6)] [] G7 (rc8 v5 v6 G7)) (fun _ _ _ => Y_none) (fun rc8 hrc8 v5 v6 G7 => ?_) 5000 v3 v4 G2
    refine x_iload F dX4_valueOf_23 rfl rfl ?_
    refine x_sipush F dX4_valueOf_25 ⟨by decide, by decide⟩ (by decide) rfl ?_
    refine x_icmpge (pt := 84) F dX4_valueOf_28 rfl rfl ?_ ?_
    · refine x_aload_n F dX4_valueOf_31 rfl rfl rfl ?_
      refine x_iload_n F dX4_valueOf_32 rfl rfl rfl ?_
      refine s_callVP F [vI a1] [] lkX4_165 mX4_joinsOn rfl ha0 rfl hnE hn0 hd pX4_joinsOn (tX4_joinsOn cx.l x hi G7 a0 a1 ha0) (Nat.ble_eq_true_of_le (by omega)) rfl dX4_valueOf_33 rfl rfl (fun v9 => ?_)
      refine x_ifeq (pt := 84) F dX4_valueOf_36 rfl rfl ?_ ?_
      · refine x_iload_n F dX4_valueOf_84 rfl rfl rfl ?_
        exact x_iret F hnE hQ dX4_valueOf_85
      · refine x_aload_n F dX4_valueOf_39 rfl rfl rfl ?_
        refine x_getR F flX4_9 ha0 rfl dX4_valueOf_40 rfl ?_
        refine s_getI F flX4_62 (tf4_0 ha0).1 rfl dX4_valueOf_43 rfl ?_
        refine x_istore F dX4_valueOf_46 (by decide) rfl rfl (fun v10 => ?_)
        show Y cx x _ _ _ _ [(0, vR a0), (1, vI a1), (2, vI a2), (3, vI v5), (4, vI v6), (5, vI v10)] _ _ _
        refine x_aload_n F dX4_valueOf_48 rfl rfl rfl ?_
        refine x_getR F flX4_9 ha0 rfl dX4_valueOf_49 rfl ?_
        refine s_callVv F [] [] lkX4_87 mX7_step rfl (tf4_0 ha0).1 rfl hnE hn0 hd (tX7_step cx.l x hi G7 ((rf a0 0)) (tf4_0 ha0).1) (Nat.ble_eq_true_of_le (by omega)) rfl dX4_valueOf_52 rfl rfl (fun _ G11 => ?_)
        refine x_iload F dX4_valueOf_55 rfl rfl ?_
        refine x_iload_n F dX4_valueOf_57 rfl rfl rfl ?_
        refine x_aload_n F dX4_valueOf_58 rfl rfl rfl ?_
        refine x_iload_n F dX4_valueOf_59 rfl rfl rfl ?_
        refine x_iconst F dX4_valueOf_60 ⟨by decide, by decide⟩ rfl ?_
        refine x_iadd F dX4_valueOf_61 rfl ?_
        refine x_iload_n F dX4_valueOf_62 rfl rfl rfl ?_
        refine s_callV F [vI (iadd a1 1), vI a2] [vI v5, vI v10] lkX4_147 mX4_valueOf rfl ha0 rfl hnE hn0 hd (hR_X4_valueOf G11 a0 (iadd a1 1) a2 ha0) (Nat.ble_eq_true_of_le (by omega)) rfl dX4_valueOf_63 rfl rfl (fun v12 G13 => ?_)
        refine s_callSP F [vI v10, vI v5, vI v12] [] lkX4_168 mX4_joined hnE hn0 hd pX4_joined (tX4_joined cx.l x hi G13 v10 v5 v12) (Nat.ble_eq_true_of_le (by omega)) rfl dX4_valueOf_66 rfl rfl (fun v14 => ?_)
        refine x_dp (L' := [(0, vR a0), (1, vI a1), (2, vI a2), (3, vI v5), (4, vI v6)]) [0, 1, 2, 3, 4] rfl ?_
        refine x_istore_n F dX4_valueOf_69 rfl (by decide) rfl rfl (fun v15 => ?_)
        show Y cx x _ _ _ _ [(0, vR a0), (1, vI a1), (2, vI a2), (3, vI v15), (4, vI v6)] _ _ _
        refine x_iload_n F dX4_valueOf_70 rfl rfl rfl ?_
        refine x_iconst F dX4_valueOf_71 ⟨by decide, by decide⟩ rfl ?_
        refine x_icmpne (pt := 78) F dX4_valueOf_72 rfl rfl ?_ ?_
        · refine x_goto (pc' := 84) F dX4_valueOf_75 rfl ?_
          refine x_iload_n F dX4_valueOf_84 rfl rfl rfl ?_
          exact x_iret F hnE hQ dX4_valueOf_85
        · refine x_iinc F dX4_valueOf_78 rfl (by decide) rfl rfl (fun v16 => ?_)
          show Y cx x _ _ _ _ [(0, vR a0), (1, vI a1), (2, vI a2), (3, vI v15), (4, vI v16)] _ _ _
          refine x_goto (pc' := 23) F dX4_valueOf_81 rfl ?_
          exact hrc8 v15 v16 G13
    · refine x_iload_n F dX4_valueOf_84 rfl rfl rfl ?_
      exact x_iret F hnE hQ dX4_valueOf_85
  · refine x_aload_n F dX4_valueOf_5 rfl rfl rfl ?_
    refine x_iload_n F dX4_valueOf_6 rfl rfl rfl ?_
    refine s_callV F [vI a2] [] lkX4_162 mX4_partValue rfl ha0 rfl hnE hn0 hd (hR_X4_partValue G a0 a2 ha0) (Nat.ble_eq_true_of_le (by omega)) rfl dX4_valueOf_7 rfl rfl (fun v18 G19 => ?_)
    exact x_iret F hnE hQ dX4_valueOf_10
def gX4_partValue (R_X4_valueOf : Nat → Int → Int → Hp → RT) (R_X4_partValue : Nat → Int → Hp → RT) (a0 : Nat) (a1 : Int) (G : Hp) : RT := bp (fX4_beginsPart a0 G) fun v1 => if v1 = 0 then (bn (fX7_wrong ((rf a0 0)) 1 G) fun v19 G20 => rt 0 G20) else (if a1 < 5 then (bd (G ((rf a0 0)) 4) fun v2 => bd (G ((rf a0 0)) 6) fun v3 => bn (fX7_step ((rf a0 0)) G) fun _ G4 => if v2 = 3 then rt v3 G4 else (if v2 = 4 then (bn (R_X4_valueOf a0 0 (iadd a1 1) G4) fun v8 G9 => bd v8 fun v10 => bp (fX7_isSign ((rf a0 0)) 41 G9) fun v11 => if v11 = 0 then (bn (fX7_wrong ((rf a0 0)) 1 G9) fun v12 G13 => rt v10 G13) else (bn (fX7_step ((rf a0 0)) G9) fun _ G14 => rt v10 G14)) else (if v3 = 19 then (bn (R_X4_partValue a0 (iadd a1 1) G4) fun v6 G7 => if v6 = 0 then rt 1 G7 else rt 0 G7) else (bp (fX4_factValue a0 v3 G4) fun v5 => rt v5 G4)))) else (bn (fX7_wrong ((rf a0 0)) 5 G) fun v17 G18 => rt 0 G18))
set_option maxRecDepth 20000 in
set_option maxHeartbeats 4000000 in
theorem uX4_partValue (l : Launch) (x : WX) (hi : Inj x.2.2) (n : Nat) (R_X4_valueOf : Nat → Int → Int → Hp → RT) (R_X4_partValue : Nat → Int → Hp → RT) (hR_X4_valueOf : ∀ (G : Hp) (a0 : Nat) (a1 : Int) (a2 : Int) (ha0 : kd a0 = 4), Ct l x yX4_valueOf cX4_valueOf 6 (some .int) (5 + n) 129 129 [vR a0, vI a1, vI a2] G (R_X4_valueOf a0 a1 a2 G)) (hR_X4_partValue : ∀ (G : Hp) (a0 : Nat) (a1 : Int) (ha0 : kd a0 = 4), Ct l x yX4_partValue cX4_partValue 5 (some .int) (5 + n) 129 129 [vR a0, vI a1] G (R_X4_partValue a0 a1 G)) (G : Hp) (a0 : Nat) (a1 : Int) (ha0 : kd a0 = 4) : Ct l x yX4_partValue cX4_partValue 5 (some .int) (5 + (n + 1)) 129 129 [vR a0, vI a1] G (gX4_partValue R_X4_valueOf R_X4_partValue a0 a1 G) := by
  refine ct_of (plainFor_of_name (by decide)) hi (Nat.le_refl _) (Nat.le_refl _) (Nat.le_of_ble_eq_true rfl) (fun cx F hd hn0 hnE hl hQ => ?_)
  subst hl
  have F : Fx cx x RX4 cX4_partValue 5 (some .int) := F
  show Y cx x 5 (some .int) 129 0 [(0, vR a0), (1, vI a1)] [] G _
  unfold gX4_partValue
  refine x_aload_n F dX4_partValue_0 rfl rfl rfl ?_
  refine s_callVP F [] [] lkX4_175 mX4_beginsPart rfl ha0 rfl hnE hn0 hd pX4_beginsPart (tX4_beginsPart cx.l x hi G a0 ha0) (Nat.ble_eq_true_of_le (by omega)) rfl dX4_partValue_1 rfl rfl (fun v1 => ?_)
  refine x_ifne (pt := 18) F dX4_partValue_4 rfl rfl ?_ ?_
  · refine x_aload_n F dX4_partValue_7 rfl rfl rfl ?_
    refine x_getR F flX4_9 ha0 rfl dX4_partValue_8 rfl ?_
    refine x_iconst F dX4_partValue_11 ⟨by decide, by decide⟩ rfl ?_
    refine s_callV F [vI 1] [] lkX4_58 mX7_wrong rfl (tf4_0 ha0).1 rfl hnE hn0 hd (tX7_wrong cx.l x hi G ((rf a0 0)) 1 (tf4_0 ha0).1) (Nat.ble_eq_true_of_le (by omega)) rfl dX4_partValue_12 rfl rfl (fun v19 G20 => ?_)
    refine x_pop F dX4_partValue_15 rfl rfl ?_
    refine x_iconst F dX4_partValue_16 ⟨by decide, by decide⟩ rfl ?_
    exact x_iret F hnE hQ dX4_partValue_17
  · refine x_iload_n F dX4_partValue_18 rfl rfl rfl ?_
    refine x_iconst F dX4_partValue_19 ⟨by decide, by decide⟩ rfl ?_
    refine x_icmplt (pt := 34) F dX4_partValue_20 rfl rfl ?_ ?_
    · refine x_aload_n F dX4_partValue_34 rfl rfl rfl ?_
      refine x_getR F flX4_9 ha0 rfl dX4_partValue_35 rfl ?_
      refine s_getI F flX4_41 (tf4_0 ha0).1 rfl dX4_partValue_38 rfl ?_
      refine x_istore_n F dX4_partValue_41 rfl (by decide) rfl rfl (fun v2 => ?_)
      show Y cx x _ _ _ _ [(0, vR a0), (1, vI a1), (2, vI v2)] _ _ _
      refine x_aload_n F dX4_partValue_42 rfl rfl rfl ?_
      refine x_getR F flX4_9 ha0 rfl dX4_partValue_43 rfl ?_
      refine s_getI F flX4_62 (tf4_0 ha0).1 rfl dX4_partValue_46 rfl ?_
      refine x_istore_n F dX4_partValue_49 rfl (by decide) rfl rfl (fun v3 => ?_)
      show Y cx x _ _ _ _ [(0, vR a0), (1, vI a1), (2, vI v2), (3, vI v3)] _ _ _
      refine x_aload_n F dX4_partValue_50 rfl rfl rfl ?_
      refine x_getR F flX4_9 ha0 rfl dX4_partValue_51 rfl ?_
      refine s_callVv F [] [] lkX4_87 mX7_step rfl (tf4_0 ha0).1 rfl hnE hn0 hd (tX7_step cx.l x hi G ((rf a0 0)) (tf4_0 ha0).1) (Nat.ble_eq_true_of_le (by omega)) rfl dX4_partValue_54 rfl rfl (fun _ G4 => ?_)
      refine x_iload_n F dX4_partValue_57 rfl rfl rfl ?_
      refine x_iconst F dX4_partValue_58 ⟨by decide, by decide⟩ rfl ?_
      refine x_icmpne (pt := 64) F dX4_partValue_59 rfl rfl ?_ ?_
      · refine x_iload_n F dX4_partValue_62 rfl rfl rfl ?_
        exact x_iret F hnE hQ dX4_partValue_63
      · refine x_iload_n F dX4_partValue_64 rfl rfl rfl ?_
        refine x_iconst F dX4_partValue_65 ⟨by decide, by decide⟩ rfl ?_
        refine x_icmpne (pt := 113) F dX4_partValue_66 rfl rfl ?_ ?_
        · refine x_aload_n F dX4_partValue_69 rfl rfl rfl ?_
          refine x_iconst F dX4_partValue_70 ⟨by decide, by decide⟩ rfl ?_
          refine x_iload_n F dX4_partValue_71 rfl rfl rfl ?_
          refine x_iconst F dX4_partValue_72 ⟨by decide, by decide⟩ rfl ?_
          refine x_iadd F dX4_partValue_73 rfl ?_
          refine s_callV F [vI 0, vI (iadd a1 1)] [] lkX4_147 mX4_valueOf rfl ha0 rfl hnE hn0 hd (hR_X4_valueOf G4 a0 0 (iadd a1 1) ha0) (Nat.ble_eq_true_of_le (by omega)) rfl dX4_partValue_74 rfl rfl (fun v8 G9 => ?_)
          refine x_dp (L' := [(0, vR a0)]) [0] rfl ?_
          refine x_istore F dX4_partValue_77 (by decide) rfl rfl (fun v10 => ?_)
          show Y cx x _ _ _ _ [(0, vR a0), (4, vI v10)] _ _ _
          refine x_aload_n F dX4_partValue_79 rfl rfl rfl ?_
          refine x_getR F flX4_9 ha0 rfl dX4_partValue_80 rfl ?_
          refine x_bipush F dX4_partValue_83 ⟨by decide, by decide⟩ (by decide) rfl ?_
          refine s_callVP F [vI 41] [] lkX4_172 mX7_isSign rfl (tf4_0 ha0).1 rfl hnE hn0 hd pX7_isSign (tX7_isSign cx.l x hi G9 ((rf a0 0)) 41 (tf4_0 ha0).1) (Nat.ble_eq_true_of_le (by omega)) rfl dX4_partValue_85 rfl rfl (fun v11 => ?_)
          refine x_ifeq (pt := 101) F dX4_partValue_88 rfl rfl ?_ ?_
          · refine x_aload_n F dX4_partValue_101 rfl rfl rfl ?_
            refine x_getR F flX4_9 ha0 rfl dX4_partValue_102 rfl ?_
            refine x_iconst F dX4_partValue_105 ⟨by decide, by decide⟩ rfl ?_
            refine s_callV F [vI 1] [] lkX4_58 mX7_wrong rfl (tf4_0 ha0).1 rfl hnE hn0 hd (tX7_wrong cx.l x hi G9 ((rf a0 0)) 1 (tf4_0 ha0).1) (Nat.ble_eq_true_of_le (by omega)) rfl dX4_partValue_106 rfl rfl (fun v12 G13 => ?_)
            refine x_pop F dX4_partValue_109 rfl rfl ?_
            refine x_iload F dX4_partValue_110 rfl rfl ?_
            exact x_iret F hnE hQ dX4_partValue_112
          · refine x_aload_n F dX4_partValue_91 rfl rfl rfl ?_
            refine x_getR F flX4_9 ha0 rfl dX4_partValue_92 rfl ?_
            refine s_callVv F [] [] lkX4_87 mX7_step rfl (tf4_0 ha0).1 rfl hnE hn0 hd (tX7_step cx.l x hi G9 ((rf a0 0)) (tf4_0 ha0).1) (Nat.ble_eq_true_of_le (by omega)) rfl dX4_partValue_95 rfl rfl (fun _ G14 => ?_)
            refine x_goto (pc' := 110) F dX4_partValue_98 rfl ?_
            refine x_iload F dX4_partValue_110 rfl rfl ?_
            exact x_iret F hnE hQ dX4_partValue_112
        · refine x_iload_n F dX4_partValue_113 rfl rfl rfl ?_
          refine x_bipush F dX4_partValue_114 ⟨by decide, by decide⟩ (by decide) rfl ?_
          refine x_icmpne (pt := 135) F dX4_partValue_116 rfl rfl ?_ ?_
          · refine x_aload_n F dX4_partValue_119 rfl rfl rfl ?_
            refine x_iload_n F dX4_partValue_120 rfl rfl rfl ?_
            refine x_iconst F dX4_partValue_121 ⟨by decide, by decide⟩ rfl ?_
            refine x_iadd F dX4_partValue_122 rfl ?_
            refine s_callV F [vI (iadd a1 1)] [] lkX4_162 mX4_partValue rfl ha0 rfl hnE hn0 hd (hR_X4_partValue G4 a0 (iadd a1 1) ha0) (Nat.ble_eq_true_of_le (by omega)) rfl dX4_partValue_123 rfl rfl (fun v6 G7 => ?_)
            refine x_ifne (pt := 133) F dX4_partValue_126 rfl rfl ?_ ?_
            · refine x_iconst F dX4_partValue_129 ⟨by decide, by decide⟩ rfl ?_
              refine x_goto (pc' := 134) F dX4_partValue_130 rfl ?_
              exact x_iret F hnE hQ dX4_partValue_134
            · refine x_iconst F dX4_partValue_133 ⟨by decide, by decide⟩ rfl ?_
              exact x_iret F hnE hQ dX4_partValue_134
          · refine x_aload_n F dX4_partValue_135 rfl rfl rfl ?_
            refine x_iload_n F dX4_partValue_136 rfl rfl rfl ?_
            refine s_callVP F [vI v3] [] lkX4_178 mX4_factValue rfl ha0 rfl hnE hn0 hd pX4_factValue (tX4_factValue cx.l x hi G4 a0 v3 ha0) (Nat.ble_eq_true_of_le (by omega)) rfl dX4_partValue_137 rfl rfl (fun v5 => ?_)
            exact x_iret F hnE hQ dX4_partValue_140
    · refine x_aload_n F dX4_partValue_23 rfl rfl rfl ?_
      refine x_getR F flX4_9 ha0 rfl dX4_partValue_24 rfl ?_
      refine x_iconst F dX4_partValue_27 ⟨by decide, by decide⟩ rfl ?_
      refine s_callV F [vI 5] [] lkX4_58 mX7_wrong rfl (tf4_0 ha0).1 rfl hnE hn0 hd (tX7_wrong cx.l x hi G ((rf a0 0)) 5 (tf4_0 ha0).1) (Nat.ble_eq_true_of_le (by omega)) rfl dX4_partValue_28 rfl rfl (fun v17 G18 => ?_)
      refine x_pop F dX4_partValue_31 rfl rfl ?_
      refine x_iconst F dX4_partValue_32 ⟨by decide, by decide⟩ rfl ?_
      exact x_iret F hnE hQ dX4_partValue_33
def tie_cls : Nat → (Nat → Int → Int → Hp → RT) × (Nat → Int → Hp → RT)
  | 0 => (fun _ _ _ _ => none, fun _ _ _ => none)
  | n + 1 => (gX4_valueOf ((tie_cls n).1) ((tie_cls n).2), gX4_partValue ((tie_cls n).1) ((tie_cls n).2))
theorem knot_cls (l : Launch) (x : WX) (hi : Inj x.2.2) : ∀ n : Nat, (∀ (G : Hp) (a0 : Nat) (a1 : Int) (a2 : Int) (ha0 : kd a0 = 4), Ct l x yX4_valueOf cX4_valueOf 6 (some .int) (5 + n) 129 129 [vR a0, vI a1, vI a2] G ((tie_cls n).1 a0 a1 a2 G)) ∧ (∀ (G : Hp) (a0 : Nat) (a1 : Int) (ha0 : kd a0 = 4), Ct l x yX4_partValue cX4_partValue 5 (some .int) (5 + n) 129 129 [vR a0, vI a1] G ((tie_cls n).2 a0 a1 G))
  | 0 => ⟨fun _ _ _ _ _ => fun _ _ h => (by cases h), fun _ _ _ _ => fun _ _ h => (by cases h)⟩
  | n + 1 => by
    have ih := knot_cls l x hi n
    exact ⟨fun G a0 a1 a2 ha0 => uX4_valueOf l x hi n _ _ ih.1 ih.2 G a0 a1 a2 ha0, fun G a0 a1 ha0 => uX4_partValue l x hi n _ _ ih.1 ih.2 G a0 a1 ha0⟩
def fX4_valueOf (a0 : Nat) (a1 : Int) (a2 : Int) (G : Hp) : RT := (tie_cls 60).1 a0 a1 a2 G
theorem tX4_valueOf (l : Launch) (x : WX) (hi : Inj x.2.2) (G : Hp) (a0 : Nat) (a1 : Int) (a2 : Int) (ha0 : kd a0 = 4) : Ct l x yX4_valueOf cX4_valueOf 6 (some .int) 65 129 129 [vR a0, vI a1, vI a2] G (fX4_valueOf a0 a1 a2 G) := (knot_cls l x hi 60).1 G a0 a1 a2 ha0
def fX4_partValue (a0 : Nat) (a1 : Int) (G : Hp) : RT := (tie_cls 60).2 a0 a1 G
theorem tX4_partValue (l : Launch) (x : WX) (hi : Inj x.2.2) (G : Hp) (a0 : Nat) (a1 : Int) (ha0 : kd a0 = 4) : Ct l x yX4_partValue cX4_partValue 5 (some .int) 65 129 129 [vR a0, vI a1] G (fX4_partValue a0 a1 G) := (knot_cls l x hi 60).2 G a0 a1 ha0
