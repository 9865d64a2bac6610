theorem dX9_draw_0 : decode cX9_draw 0 = .ok (.aload_n 0, 1) := by decide +kernel
theorem dX9_draw_1 : decode cX9_draw 1 = .ok (.aload_n 0, 1) := by decide +kernel
theorem dX9_draw_2 : decode cX9_draw 2 = .ok (.getfield 101, 3) := by decide +kernel
theorem dX9_draw_5 : decode cX9_draw 5 = .ok (.ldc2_w 135, 3) := by decide +kernel
theorem dX9_draw_8 : decode cX9_draw 8 = .ok (.lmul, 1) := by decide +kernel
theorem dX9_draw_9 : decode cX9_draw 9 = .ok (.ldc2_w 137, 3) := by decide +kernel
theorem dX9_draw_12 : decode cX9_draw 12 = .ok (.ladd, 1) := by decide +kernel
theorem dX9_draw_13 : decode cX9_draw 13 = .ok (.ldc2_w 139, 3) := by decide +kernel
theorem dX9_draw_16 : decode cX9_draw 16 = .ok (.lrem, 1) := by decide +kernel
theorem dX9_draw_17 : decode cX9_draw 17 = .ok (.putfield 101, 3) := by decide +kernel
theorem dX9_draw_20 : decode cX9_draw 20 = .ok (.iload_n 1, 1) := by decide +kernel
theorem dX9_draw_21 : decode cX9_draw 21 = .ok (.ifCond .gt 7, 3) := by decide +kernel
theorem dX9_draw_24 : decode cX9_draw 24 = .ok (.iconst 0, 1) := by decide +kernel
theorem dX9_draw_25 : decode cX9_draw 25 = .ok (.goto 15, 3) := by decide +kernel
theorem dX9_draw_28 : decode cX9_draw 28 = .ok (.aload_n 0, 1) := by decide +kernel
theorem dX9_draw_29 : decode cX9_draw 29 = .ok (.getfield 101, 3) := by decide +kernel
theorem dX9_draw_32 : decode cX9_draw 32 = .ok (.ldc2_w 141, 3) := by decide +kernel
theorem dX9_draw_35 : decode cX9_draw 35 = .ok (.ldiv, 1) := by decide +kernel
theorem dX9_draw_36 : decode cX9_draw 36 = .ok (.iload_n 1, 1) := by decide +kernel
theorem dX9_draw_37 : decode cX9_draw 37 = .ok (.i2l, 1) := by decide +kernel
theorem dX9_draw_38 : decode cX9_draw 38 = .ok (.lrem, 1) := by decide +kernel
theorem dX9_draw_39 : decode cX9_draw 39 = .ok (.l2i, 1) := by decide +kernel
theorem dX9_draw_40 : decode cX9_draw 40 = .ok (.ireturn, 1) := by decide +kernel
def fX9_draw (a0 : Nat) (a1 : Int) (G : Hp) : RT := nz 2147483648 (bh (up G a0 6 (lrem (ladd (lmul (G a0 6) 1103515245) 12345) 2147483648)) fun G1 => if 0 < a1 then (nz 65536 (nz a1 (rt (l2i (lrem (ldiv (G1 a0 6) 65536) a1)) G1))) else rt 0 G1)
set_option maxRecDepth 20000 in
set_option maxHeartbeats 4000000 in
theorem tX9_draw (l : Launch) (x : WX) (hi : Inj x.2.2) (G : Hp) (a0 : Nat) (a1 : Int) (ha0 : kd a0 = 9) : Ct l x yX9_draw cX9_draw 2 (some .int) 0 129 129 [vR a0, vI a1] G (fX9_draw a0 a1 G) := by
  refine ct_of (plainFor_of_name (by decide)) hi (Nat.le_refl _) (Nat.le_refl _) (Nat.le_of_ble_eq_true rfl) (fun cx F hd hn0 hnE hl hQ => ?_)
  subst hl
  have F : Fx cx x RX9 cX9_draw 2 (some .int) := F
  show Y cx x 2 (some .int) 129 0 [(0, vR a0), (1, vI a1)] [] G _
  unfold fX9_draw
  refine x_aload_n F dX9_draw_0 rfl rfl rfl ?_
  refine x_aload_n F dX9_draw_1 rfl rfl rfl ?_
  refine s_getJ F flX9_101 ha0 rfl rfl dX9_draw_2 rfl ?_
  refine x_ldc2 (v := 1103515245) F kjX9_135 dX9_draw_5 ⟨by decide, by decide⟩ (by decide) rfl ?_
  refine x_lmul F dX9_draw_8 rfl ?_
  refine x_ldc2 (v := 12345) F kjX9_137 dX9_draw_9 ⟨by decide, by decide⟩ (by decide) rfl ?_
  refine x_ladd F dX9_draw_12 rfl ?_
  refine x_ldc2 (v := 2147483648) F kjX9_139 dX9_draw_13 ⟨by decide, by decide⟩ (by decide) rfl ?_
  refine x_lrem F dX9_draw_16 rfl ?_
  refine s_putJ F fpX9_101 ha0 rfl rfl dX9_draw_17 rfl (fun G1 => ?_)
  refine x_iload_n F dX9_draw_20 rfl rfl rfl ?_
  refine x_ifgt (pt := 28) F dX9_draw_21 rfl rfl ?_ ?_
  · refine x_aload_n F dX9_draw_28 rfl rfl rfl ?_
    refine s_getJ F flX9_101 ha0 rfl rfl dX9_draw_29 rfl ?_
    refine x_ldc2 (v := 65536) F kjX9_141 dX9_draw_32 ⟨by decide, by decide⟩ (by decide) rfl ?_
    refine x_ldiv F dX9_draw_35 rfl ?_
    refine x_iload_n F dX9_draw_36 rfl rfl rfl ?_
    refine x_i2l F dX9_draw_37 rfl ?_
    refine x_lrem F dX9_draw_38 rfl ?_
    refine x_l2i F dX9_draw_39 rfl ?_
    exact x_iret F hnE hQ dX9_draw_40
  · refine x_iconst F dX9_draw_24 ⟨by decide, by decide⟩ rfl ?_
    refine x_goto (pc' := 40) F dX9_draw_25 rfl ?_
    exact x_iret F hnE hQ dX9_draw_40
theorem dX9_driveOnce_0 : decode cX9_driveOnce 0 = .ok (.aload_n 0, 1) := by decide +kernel
theorem dX9_driveOnce_1 : decode cX9_driveOnce 1 = .ok (.bipush 8, 2) := by decide +kernel
theorem dX9_driveOnce_3 : decode cX9_driveOnce 3 = .ok (.invokevirtual 108, 3) := by decide +kernel
theorem dX9_driveOnce_6 : decode cX9_driveOnce 6 = .ok (.istore_n 1, 1) := by decide +kernel
theorem dX9_driveOnce_7 : decode cX9_driveOnce 7 = .ok (.aload_n 0, 1) := by decide +kernel
theorem dX9_driveOnce_8 : decode cX9_driveOnce 8 = .ok (.aload_n 0, 1) := by decide +kernel
theorem dX9_driveOnce_9 : decode cX9_driveOnce 9 = .ok (.getfield 9, 3) := by decide +kernel
theorem dX9_driveOnce_12 : decode cX9_driveOnce 12 = .ok (.getfield 98, 3) := by decide +kernel
theorem dX9_driveOnce_15 : decode cX9_driveOnce 15 = .ok (.invokevirtual 108, 3) := by decide +kernel
theorem dX9_driveOnce_18 : decode cX9_driveOnce 18 = .ok (.istore_n 2, 1) := by decide +kernel
theorem dX9_driveOnce_19 : decode cX9_driveOnce 19 = .ok (.aload_n 0, 1) := by decide +kernel
theorem dX9_driveOnce_20 : decode cX9_driveOnce 20 = .ok (.aload_n 0, 1) := by decide +kernel
theorem dX9_driveOnce_21 : decode cX9_driveOnce 21 = .ok (.getfield 9, 3) := by decide +kernel
theorem dX9_driveOnce_24 : decode cX9_driveOnce 24 = .ok (.getfield 98, 3) := by decide +kernel
theorem dX9_driveOnce_27 : decode cX9_driveOnce 27 = .ok (.invokevirtual 108, 3) := by decide +kernel
theorem dX9_driveOnce_30 : decode cX9_driveOnce 30 = .ok (.istore_n 3, 1) := by decide +kernel
theorem dX9_driveOnce_31 : decode cX9_driveOnce 31 = .ok (.iload_n 1, 1) := by decide +kernel
theorem dX9_driveOnce_32 : decode cX9_driveOnce 32 = .ok (.tableswitch 126 0 6 #[44, 53, 63, 72, 90, 90, 108], 44) := by decide +kernel
theorem dX9_driveOnce_76 : decode cX9_driveOnce 76 = .ok (.aload_n 0, 1) := by decide +kernel
theorem dX9_driveOnce_77 : decode cX9_driveOnce 77 = .ok (.getfield 19, 3) := by decide +kernel
theorem dX9_driveOnce_80 : decode cX9_driveOnce 80 = .ok (.iload_n 2, 1) := by decide +kernel
theorem dX9_driveOnce_81 : decode cX9_driveOnce 81 = .ok (.invokevirtual 112, 3) := by decide +kernel
theorem dX9_driveOnce_84 : decode cX9_driveOnce 84 = .ok (.ireturn, 1) := by decide +kernel
theorem dX9_driveOnce_85 : decode cX9_driveOnce 85 = .ok (.aload_n 0, 1) := by decide +kernel
theorem dX9_driveOnce_86 : decode cX9_driveOnce 86 = .ok (.getfield 19, 3) := by decide +kernel
theorem dX9_driveOnce_89 : decode cX9_driveOnce 89 = .ok (.iload_n 2, 1) := by decide +kernel
theorem dX9_driveOnce_90 : decode cX9_driveOnce 90 = .ok (.iload_n 3, 1) := by decide +kernel
theorem dX9_driveOnce_91 : decode cX9_driveOnce 91 = .ok (.invokevirtual 116, 3) := by decide +kernel
theorem dX9_driveOnce_94 : decode cX9_driveOnce 94 = .ok (.ireturn, 1) := by decide +kernel
theorem dX9_driveOnce_95 : decode cX9_driveOnce 95 = .ok (.aload_n 0, 1) := by decide +kernel
theorem dX9_driveOnce_96 : decode cX9_driveOnce 96 = .ok (.getfield 19, 3) := by decide +kernel
theorem dX9_driveOnce_99 : decode cX9_driveOnce 99 = .ok (.iload_n 2, 1) := by decide +kernel
theorem dX9_driveOnce_100 : decode cX9_driveOnce 100 = .ok (.invokevirtual 120, 3) := by decide +kernel
theorem dX9_driveOnce_103 : decode cX9_driveOnce 103 = .ok (.ireturn, 1) := by decide +kernel
theorem dX9_driveOnce_104 : decode cX9_driveOnce 104 = .ok (.aload_n 0, 1) := by decide +kernel
theorem dX9_driveOnce_105 : decode cX9_driveOnce 105 = .ok (.getfield 19, 3) := by decide +kernel
theorem dX9_driveOnce_108 : decode cX9_driveOnce 108 = .ok (.iload_n 2, 1) := by decide +kernel
theorem dX9_driveOnce_109 : decode cX9_driveOnce 109 = .ok (.invokevirtual 123, 3) := by decide +kernel
theorem dX9_driveOnce_112 : decode cX9_driveOnce 112 = .ok (.iconst (-1), 1) := by decide +kernel
theorem dX9_driveOnce_113 : decode cX9_driveOnce 113 = .ok (.if_icmp .eq 7, 3) := by decide +kernel
theorem dX9_driveOnce_116 : decode cX9_driveOnce 116 = .ok (.iconst 1, 1) := by decide +kernel
theorem dX9_driveOnce_117 : decode cX9_driveOnce 117 = .ok (.goto 4, 3) := by decide +kernel
theorem dX9_driveOnce_120 : decode cX9_driveOnce 120 = .ok (.iconst 0, 1) := by decide +kernel
theorem dX9_driveOnce_121 : decode cX9_driveOnce 121 = .ok (.ireturn, 1) := by decide +kernel
theorem dX9_driveOnce_122 : decode cX9_driveOnce 122 = .ok (.aload_n 0, 1) := by decide +kernel
theorem dX9_driveOnce_123 : decode cX9_driveOnce 123 = .ok (.getfield 19, 3) := by decide +kernel
theorem dX9_driveOnce_126 : decode cX9_driveOnce 126 = .ok (.iload_n 2, 1) := by decide +kernel
theorem dX9_driveOnce_127 : decode cX9_driveOnce 127 = .ok (.invokevirtual 126, 3) := by decide +kernel
theorem dX9_driveOnce_130 : decode cX9_driveOnce 130 = .ok (.iconst (-1), 1) := by decide +kernel
theorem dX9_driveOnce_131 : decode cX9_driveOnce 131 = .ok (.if_icmp .eq 7, 3) := by decide +kernel
theorem dX9_driveOnce_134 : decode cX9_driveOnce 134 = .ok (.iconst 1, 1) := by decide +kernel
theorem dX9_driveOnce_135 : decode cX9_driveOnce 135 = .ok (.goto 4, 3) := by decide +kernel
theorem dX9_driveOnce_138 : decode cX9_driveOnce 138 = .ok (.iconst 0, 1) := by decide +kernel
theorem dX9_driveOnce_139 : decode cX9_driveOnce 139 = .ok (.ireturn, 1) := by decide +kernel
theorem dX9_driveOnce_140 : decode cX9_driveOnce 140 = .ok (.aload_n 0, 1) := by decide +kernel
theorem dX9_driveOnce_141 : decode cX9_driveOnce 141 = .ok (.getfield 19, 3) := by decide +kernel
theorem dX9_driveOnce_144 : decode cX9_driveOnce 144 = .ok (.iload_n 2, 1) := by decide +kernel
theorem dX9_driveOnce_145 : decode cX9_driveOnce 145 = .ok (.invokevirtual 129, 3) := by decide +kernel
theorem dX9_driveOnce_148 : decode cX9_driveOnce 148 = .ok (.iconst (-1), 1) := by decide +kernel
theorem dX9_driveOnce_149 : decode cX9_driveOnce 149 = .ok (.if_icmp .eq 7, 3) := by decide +kernel
theorem dX9_driveOnce_152 : decode cX9_driveOnce 152 = .ok (.iconst 1, 1) := by decide +kernel
theorem dX9_driveOnce_153 : decode cX9_driveOnce 153 = .ok (.goto 4, 3) := by decide +kernel
theorem dX9_driveOnce_156 : decode cX9_driveOnce 156 = .ok (.iconst 0, 1) := by decide +kernel
theorem dX9_driveOnce_157 : decode cX9_driveOnce 157 = .ok (.ireturn, 1) := by decide +kernel
theorem dX9_driveOnce_158 : decode cX9_driveOnce 158 = .ok (.aload_n 0, 1) := by decide +kernel
theorem dX9_driveOnce_159 : decode cX9_driveOnce 159 = .ok (.getfield 19, 3) := by decide +kernel
theorem dX9_driveOnce_162 : decode cX9_driveOnce 162 = .ok (.iload_n 2, 1) := by decide +kernel
theorem dX9_driveOnce_163 : decode cX9_driveOnce 163 = .ok (.aload_n 0, 1) := by decide +kernel
theorem dX9_driveOnce_164 : decode cX9_driveOnce 164 = .ok (.bipush 8, 2) := by decide +kernel
theorem dX9_driveOnce_166 : decode cX9_driveOnce 166 = .ok (.invokevirtual 108, 3) := by decide +kernel
theorem dX9_driveOnce_169 : decode cX9_driveOnce 169 = .ok (.invokevirtual 132, 3) := by decide +kernel
theorem dX9_driveOnce_172 : decode cX9_driveOnce 172 = .ok (.ireturn, 1) := by decide +kernel
def fX9_driveOnce (a0 : Nat) (G : Hp) : RT := bn (fX9_draw a0 8 G) fun v1 G2 => bd v1 fun v3 => bn (fX9_draw a0 (G2 ((rf a0 0)) 2) G2) fun v4 G5 => bd v4 fun v6 => bn (fX9_draw a0 (G5 ((rf a0 0)) 2) G5) fun v7 G8 => bd v7 fun v9 => if v3 = 0 then (bn (fX0_doBegin ((rf a0 2)) v6 G8) fun v11 G12 => rz v11 G12) else (if v3 = 1 then (bn (fX0_doJoin ((rf a0 2)) v6 v9 G8) fun v14 G15 => rz v14 G15) else (if v3 = 2 then (bn (fX0_doLeave ((rf a0 2)) v6 G8) fun v17 G18 => rz v17 G18) else (if v3 = 3 then (bn (fX0_doFail ((rf a0 2)) v6 G8) fun v20 G21 => if v20 = ((-1)) then rz 0 G21 else rz 1 G21) else (if v3 = 4 then (bn (fX0_doTidy ((rf a0 2)) v6 G8) fun v23 G24 => if v23 = ((-1)) then rz 0 G24 else rz 1 G24) else (if v3 = 5 then (bn (fX0_doTidy ((rf a0 2)) v6 G8) fun v26 G27 => if v26 = ((-1)) then rz 0 G27 else rz 1 G27) else (if v3 = 6 then (bn (fX0_doFlush ((rf a0 2)) v6 G8) fun v29 G30 => if v29 = ((-1)) then rz 0 G30 else rz 1 G30) else (bn (fX9_draw a0 8 G8) fun v31 G32 => bn (fX0_doFix ((rf a0 2)) v6 v31 G32) fun v33 G34 => rz v33 G34)))))))
set_option maxRecDepth 20000 in
set_option maxHeartbeats 4000000 in
theorem tX9_driveOnce (l : Launch) (x : WX) (hi : Inj x.2.2) (G : Hp) (a0 : Nat) (ha0 : kd a0 = 9) : Ct l x yX9_driveOnce cX9_driveOnce 4 (some .boolean) 4 129 129 [vR a0] G (fX9_driveOnce a0 G) := by
  refine ct_of (plainFor_of_name (by decide)) hi (Nat.le_refl _) (Nat.le_refl _) (Nat.le_of_ble_eq_true rfl) (fun cx F hd hn0 hnE hl hQ => ?_)
  subst hl
  have F : Fx cx x RX9 cX9_driveOnce 4 (some .boolean) := F
  show Y cx x 4 (some .boolean) 129 0 [(0, vR a0)] [] G _
  unfold fX9_driveOnce
  refine x_aload_n F dX9_driveOnce_0 rfl rfl rfl ?_
  refine x_bipush F dX9_driveOnce_1 ⟨by decide, by decide⟩ (by decide) rfl ?_
  refine s_callV F [vI 8] [] lkX9_108 mX9_draw rfl ha0 rfl hnE hn0 hd (tX9_draw cx.l x hi G a0 8 ha0) rfl rfl dX9_driveOnce_3 rfl rfl (fun v1 G2 => ?_)
  refine x_istore_n F dX9_driveOnce_6 rfl (by decide) rfl rfl (fun v3 => ?_)
  show Y cx x _ _ _ _ [(0, vR a0), (1, vI v3)] _ _ _
  refine x_aload_n F dX9_driveOnce_7 rfl rfl rfl ?_
  refine x_aload_n F dX9_driveOnce_8 rfl rfl rfl ?_
  refine x_getR F flX9_9 ha0 rfl dX9_driveOnce_9 rfl ?_
  refine s_getI F flX9_98 (tf9_0 ha0).1 rfl dX9_driveOnce_12 rfl ?_
  refine s_callV F [vI (G2 ((rf a0 0)) 2)] [] lkX9_108 mX9_draw rfl ha0 rfl hnE hn0 hd (tX9_draw cx.l x hi G2 a0 (G2 ((rf a0 0)) 2) ha0) rfl rfl dX9_driveOnce_15 rfl rfl (fun v4 G5 => ?_)
  refine x_istore_n F dX9_driveOnce_18 rfl (by decide) rfl rfl (fun v6 => ?_)
  show Y cx x _ _ _ _ [(0, vR a0), (1, vI v3), (2, vI v6)] _ _ _
  refine x_aload_n F dX9_driveOnce_19 rfl rfl rfl ?_
  refine x_aload_n F dX9_driveOnce_20 rfl rfl rfl ?_
  refine x_getR F flX9_9 ha0 rfl dX9_driveOnce_21 rfl ?_
  refine s_getI F flX9_98 (tf9_0 ha0).1 rfl dX9_driveOnce_24 rfl ?_
  refine s_callV F [vI (G5 ((rf a0 0)) 2)] [] lkX9_108 mX9_draw rfl ha0 rfl hnE hn0 hd (tX9_draw cx.l x hi G5 a0 (G5 ((rf a0 0)) 2) ha0) rfl rfl dX9_driveOnce_27 rfl rfl (fun v7 G8 => ?_)
  refine x_istore_n F dX9_driveOnce_30 rfl (by decide) rfl rfl (fun v9 => ?_)
  show Y cx x _ _ _ _ [(0, vR a0), (1, vI v3), (2, vI v6), (3, vI v9)] _ _ _
  refine x_iload_n F dX9_driveOnce_31 rfl rfl rfl ?_
  refine x_ite (fun h10 => ?_) (fun h10 => ?_)
  · refine x_tabIn (off := 44) (pc' := 76) F dX9_driveOnce_32 (by omega) (by omega) (by rw [h10]; rfl) rfl ?_
    refine x_aload_n F dX9_driveOnce_76 rfl rfl rfl ?_
    refine x_getR F flX9_19 ha0 rfl dX9_driveOnce_77 rfl ?_
    refine x_iload_n F dX9_driveOnce_80 rfl rfl rfl ?_
    refine s_callV F [vI v6] [] lkX9_112 mX0_doBegin rfl (tf9_2 ha0).1 rfl hnE hn0 hd (tX0_doBegin cx.l x hi G8 ((rf a0 2)) v6 (tf9_2 ha0).1) rfl rfl dX9_driveOnce_81 rfl rfl (fun v11 G12 => ?_)
    exact x_zret F hnE hQ dX9_driveOnce_84
  · refine x_ite (fun h13 => ?_) (fun h13 => ?_)
    · refine x_tabIn (off := 53) (pc' := 85) F dX9_driveOnce_32 (by omega) (by omega) (by rw [h13]; rfl) rfl ?_
      refine x_aload_n F dX9_driveOnce_85 rfl rfl rfl ?_
      refine x_getR F flX9_19 ha0 rfl dX9_driveOnce_86 rfl ?_
      refine x_iload_n F dX9_driveOnce_89 rfl rfl rfl ?_
      refine x_iload_n F dX9_driveOnce_90 rfl rfl rfl ?_
      refine s_callV F [vI v6, vI v9] [] lkX9_116 mX0_doJoin rfl (tf9_2 ha0).1 rfl hnE hn0 hd (tX0_doJoin cx.l x hi G8 ((rf a0 2)) v6 v9 (tf9_2 ha0).1) rfl rfl dX9_driveOnce_91 rfl rfl (fun v14 G15 => ?_)
      exact x_zret F hnE hQ dX9_driveOnce_94
    · refine x_ite (fun h16 => ?_) (fun h16 => ?_)
      · refine x_tabIn (off := 63) (pc' := 95) F dX9_driveOnce_32 (by omega) (by omega) (by rw [h16]; rfl) rfl ?_
        refine x_aload_n F dX9_driveOnce_95 rfl rfl rfl ?_
        refine x_getR F flX9_19 ha0 rfl dX9_driveOnce_96 rfl ?_
        refine x_iload_n F dX9_driveOnce_99 rfl rfl rfl ?_
        refine s_callV F [vI v6] [] lkX9_120 mX0_doLeave rfl (tf9_2 ha0).1 rfl hnE hn0 hd (tX0_doLeave cx.l x hi G8 ((rf a0 2)) v6 (tf9_2 ha0).1) rfl rfl dX9_driveOnce_100 rfl rfl (fun v17 G18 => ?_)
        exact x_zret F hnE hQ dX9_driveOnce_103
      · refine x_ite (fun h19 => ?_) (fun h19 => ?_)
        · refine x_tabIn (off := 72) (pc' := 104) F dX9_driveOnce_32 (by omega) (by omega) (by rw [h19]; rfl) rfl ?_
          refine x_aload_n F dX9_driveOnce_104 rfl rfl rfl ?_
          refine x_getR F flX9_19 ha0 rfl dX9_driveOnce_105 rfl ?_
          refine x_iload_n F dX9_driveOnce_108 rfl rfl rfl ?_
          refine s_callV F [vI v6] [] lkX9_123 mX0_doFail rfl (tf9_2 ha0).1 rfl hnE hn0 hd (tX0_doFail cx.l x hi G8 ((rf a0 2)) v6 (tf9_2 ha0).1) rfl rfl dX9_driveOnce_109 rfl rfl (fun v20 G21 => ?_)
          refine x_iconst F dX9_driveOnce_112 ⟨by decide, by decide⟩ rfl ?_
          refine x_icmpeq (pt := 120) F dX9_driveOnce_113 rfl rfl ?_ ?_
          · refine x_iconst F dX9_driveOnce_120 ⟨by decide, by decide⟩ rfl ?_
            exact x_zret F hnE hQ dX9_driveOnce_121
          · refine x_iconst F dX9_driveOnce_116 ⟨by decide, by decide⟩ rfl ?_
            refine x_goto (pc' := 121) F dX9_driveOnce_117 rfl ?_
            exact x_zret F hnE hQ dX9_driveOnce_121
        · refine x_ite (fun h22 => ?_) (fun h22 => ?_)
          · refine x_tabIn (off := 90) (pc' := 122) F dX9_driveOnce_32 (by omega) (by omega) (by rw [h22]; rfl) rfl ?_
            refine x_aload_n F dX9_driveOnce_122 rfl rfl rfl ?_
            refine x_getR F flX9_19 ha0 rfl dX9_driveOnce_123 rfl ?_
            refine x_iload_n F dX9_driveOnce_126 rfl rfl rfl ?_
            refine s_callV F [vI v6] [] lkX9_126 mX0_doTidy rfl (tf9_2 ha0).1 rfl hnE hn0 hd (tX0_doTidy cx.l x hi G8 ((rf a0 2)) v6 (tf9_2 ha0).1) rfl rfl dX9_driveOnce_127 rfl rfl (fun v23 G24 => ?_)
            refine x_iconst F dX9_driveOnce_130 ⟨by decide, by decide⟩ rfl ?_
            refine x_icmpeq (pt := 138) F dX9_driveOnce_131 rfl rfl ?_ ?_
            · refine x_iconst F dX9_driveOnce_138 ⟨by decide, by decide⟩ rfl ?_
              exact x_zret F hnE hQ dX9_driveOnce_139
            · refine x_iconst F dX9_driveOnce_134 ⟨by decide, by decide⟩ rfl ?_
              refine x_goto (pc' := 139) F dX9_driveOnce_135 rfl ?_
              exact x_zret F hnE hQ dX9_driveOnce_139
          · refine x_ite (fun h25 => ?_) (fun h25 => ?_)
            · refine x_tabIn (off := 90) (pc' := 122) F dX9_driveOnce_32 (by omega) (by omega) (by rw [h25]; rfl) rfl ?_
              refine x_aload_n F dX9_driveOnce_122 rfl rfl rfl ?_
              refine x_getR F flX9_19 ha0 rfl dX9_driveOnce_123 rfl ?_
              refine x_iload_n F dX9_driveOnce_126 rfl rfl rfl ?_
              refine s_callV F [vI v6] [] lkX9_126 mX0_doTidy rfl (tf9_2 ha0).1 rfl hnE hn0 hd (tX0_doTidy cx.l x hi G8 ((rf a0 2)) v6 (tf9_2 ha0).1) rfl rfl dX9_driveOnce_127 rfl rfl (fun v26 G27 => ?_)
              refine x_iconst F dX9_driveOnce_130 ⟨by decide, by decide⟩ rfl ?_
              refine x_icmpeq (pt := 138) F dX9_driveOnce_131 rfl rfl ?_ ?_
              · refine x_iconst F dX9_driveOnce_138 ⟨by decide, by decide⟩ rfl ?_
                exact x_zret F hnE hQ dX9_driveOnce_139
              · refine x_iconst F dX9_driveOnce_134 ⟨by decide, by decide⟩ rfl ?_
                refine x_goto (pc' := 139) F dX9_driveOnce_135 rfl ?_
                exact x_zret F hnE hQ dX9_driveOnce_139
            · refine x_ite (fun h28 => ?_) (fun h28 => ?_)
              · refine x_tabIn (off := 108) (pc' := 140) F dX9_driveOnce_32 (by omega) (by omega) (by rw [h28]; rfl) rfl ?_
                refine x_aload_n F dX9_driveOnce_140 rfl rfl rfl ?_
                refine x_getR F flX9_19 ha0 rfl dX9_driveOnce_141 rfl ?_
                refine x_iload_n F dX9_driveOnce_144 rfl rfl rfl ?_
                refine s_callV F [vI v6] [] lkX9_129 mX0_doFlush rfl (tf9_2 ha0).1 rfl hnE hn0 hd (tX0_doFlush cx.l x hi G8 ((rf a0 2)) v6 (tf9_2 ha0).1) rfl rfl dX9_driveOnce_145 rfl rfl (fun v29 G30 => ?_)
                refine x_iconst F dX9_driveOnce_148 ⟨by decide, by decide⟩ rfl ?_
                refine x_icmpeq (pt := 156) F dX9_driveOnce_149 rfl rfl ?_ ?_
                · refine x_iconst F dX9_driveOnce_156 ⟨by decide, by decide⟩ rfl ?_
                  exact x_zret F hnE hQ dX9_driveOnce_157
                · refine x_iconst F dX9_driveOnce_152 ⟨by decide, by decide⟩ rfl ?_
                  refine x_goto (pc' := 157) F dX9_driveOnce_153 rfl ?_
                  exact x_zret F hnE hQ dX9_driveOnce_157
              · refine x_tabOut (pc' := 158) F dX9_driveOnce_32 (by omega) rfl ?_
                refine x_aload_n F dX9_driveOnce_158 rfl rfl rfl ?_
                refine x_getR F flX9_19 ha0 rfl dX9_driveOnce_159 rfl ?_
                refine x_iload_n F dX9_driveOnce_162 rfl rfl rfl ?_
                refine x_aload_n F dX9_driveOnce_163 rfl rfl rfl ?_
                refine x_bipush F dX9_driveOnce_164 ⟨by decide, by decide⟩ (by decide) rfl ?_
                refine s_callV F [vI 8] [vI v6, vR ((rf a0 2))] lkX9_108 mX9_draw rfl ha0 rfl hnE hn0 hd (tX9_draw cx.l x hi G8 a0 8 ha0) rfl rfl dX9_driveOnce_166 rfl rfl (fun v31 G32 => ?_)
                refine s_callV F [vI v6, vI v31] [] lkX9_132 mX0_doFix rfl (tf9_2 ha0).1 rfl hnE hn0 hd (tX0_doFix cx.l x hi G32 ((rf a0 2)) v6 v31 (tf9_2 ha0).1) rfl rfl dX9_driveOnce_169 rfl rfl (fun v33 G34 => ?_)
                exact x_zret F hnE hQ dX9_driveOnce_172
theorem dX9_judgeWork_0 : decode cX9_judgeWork 0 = .ok (.aload_n 0, 1) := by decide +kernel
theorem dX9_judgeWork_1 : decode cX9_judgeWork 1 = .ok (.getfield 30, 3) := by decide +kernel
theorem dX9_judgeWork_4 : decode cX9_judgeWork 4 = .ok (.aload_n 0, 1) := by decide +kernel
theorem dX9_judgeWork_5 : decode cX9_judgeWork 5 = .ok (.getfield 15, 3) := by decide +kernel
theorem dX9_judgeWork_8 : decode cX9_judgeWork 8 = .ok (.invokevirtual 36, 3) := by decide +kernel
theorem dX9_judgeWork_11 : decode cX9_judgeWork 11 = .ok (.aload_n 0, 1) := by decide +kernel
theorem dX9_judgeWork_12 : decode cX9_judgeWork 12 = .ok (.getfield 15, 3) := by decide +kernel
theorem dX9_judgeWork_15 : decode cX9_judgeWork 15 = .ok (.invokevirtual 40, 3) := by decide +kernel
theorem dX9_judgeWork_18 : decode cX9_judgeWork 18 = .ok (.iconst (-1), 1) := by decide +kernel
theorem dX9_judgeWork_19 : decode cX9_judgeWork 19 = .ok (.istore_n 3, 1) := by decide +kernel
theorem dX9_judgeWork_20 : decode cX9_judgeWork 20 = .ok (.iconst 0, 1) := by decide +kernel
theorem dX9_judgeWork_21 : decode cX9_judgeWork 21 = .ok (.istore 4, 2) := by decide +kernel
theorem dX9_judgeWork_23 : decode cX9_judgeWork 23 = .ok (.iload 4, 2) := by decide +kernel
theorem dX9_judgeWork_25 : decode cX9_judgeWork 25 = .ok (.aload_n 1, 1) := by decide +kernel
theorem dX9_judgeWork_26 : decode cX9_judgeWork 26 = .ok (.getfield 43, 3) := by decide +kernel
theorem dX9_judgeWork_29 : decode cX9_judgeWork 29 = .ok (.if_icmp .ge 59, 3) := by decide +kernel
theorem dX9_judgeWork_32 : decode cX9_judgeWork 32 = .ok (.iload 4, 2) := by decide +kernel
theorem dX9_judgeWork_34 : decode cX9_judgeWork 34 = .ok (.bipush 40, 2) := by decide +kernel
theorem dX9_judgeWork_36 : decode cX9_judgeWork 36 = .ok (.if_icmp .ge 52, 3) := by decide +kernel
theorem dX9_judgeWork_39 : decode cX9_judgeWork 39 = .ok (.aload_n 0, 1) := by decide +kernel
theorem dX9_judgeWork_40 : decode cX9_judgeWork 40 = .ok (.getfield 19, 3) := by decide +kernel
theorem dX9_judgeWork_43 : decode cX9_judgeWork 43 = .ok (.aload_n 1, 1) := by decide +kernel
theorem dX9_judgeWork_44 : decode cX9_judgeWork 44 = .ok (.getfield 49, 3) := by decide +kernel
theorem dX9_judgeWork_47 : decode cX9_judgeWork 47 = .ok (.iload 4, 2) := by decide +kernel
theorem dX9_judgeWork_49 : decode cX9_judgeWork 49 = .ok (.iaload, 1) := by decide +kernel
theorem dX9_judgeWork_50 : decode cX9_judgeWork 50 = .ok (.aload_n 1, 1) := by decide +kernel
theorem dX9_judgeWork_51 : decode cX9_judgeWork 51 = .ok (.getfield 52, 3) := by decide +kernel
theorem dX9_judgeWork_54 : decode cX9_judgeWork 54 = .ok (.iload 4, 2) := by decide +kernel
theorem dX9_judgeWork_56 : decode cX9_judgeWork 56 = .ok (.iaload, 1) := by decide +kernel
theorem dX9_judgeWork_57 : decode cX9_judgeWork 57 = .ok (.aload_n 1, 1) := by decide +kernel
theorem dX9_judgeWork_58 : decode cX9_judgeWork 58 = .ok (.getfield 55, 3) := by decide +kernel
theorem dX9_judgeWork_61 : decode cX9_judgeWork 61 = .ok (.iload 4, 2) := by decide +kernel
theorem dX9_judgeWork_63 : decode cX9_judgeWork 63 = .ok (.iaload, 1) := by decide +kernel
theorem dX9_judgeWork_64 : decode cX9_judgeWork 64 = .ok (.invokevirtual 58, 3) := by decide +kernel
theorem dX9_judgeWork_67 : decode cX9_judgeWork 67 = .ok (.istore 5, 2) := by decide +kernel
theorem dX9_judgeWork_69 : decode cX9_judgeWork 69 = .ok (.iload 5, 2) := by decide +kernel
theorem dX9_judgeWork_71 : decode cX9_judgeWork 71 = .ok (.ifCond .ne 11, 3) := by decide +kernel
theorem dX9_judgeWork_74 : decode cX9_judgeWork 74 = .ok (.iload_n 3, 1) := by decide +kernel
theorem dX9_judgeWork_75 : decode cX9_judgeWork 75 = .ok (.iconst (-1), 1) := by decide +kernel
theorem dX9_judgeWork_76 : decode cX9_judgeWork 76 = .ok (.if_icmp .ne 6, 3) := by decide +kernel
theorem dX9_judgeWork_79 : decode cX9_judgeWork 79 = .ok (.iload 4, 2) := by decide +kernel
theorem dX9_judgeWork_81 : decode cX9_judgeWork 81 = .ok (.istore_n 3, 1) := by decide +kernel
theorem dX9_judgeWork_82 : decode cX9_judgeWork 82 = .ok (.iinc 4 1, 3) := by decide +kernel
theorem dX9_judgeWork_85 : decode cX9_judgeWork 85 = .ok (.goto (-62), 3) := by decide +kernel
theorem dX9_judgeWork_88 : decode cX9_judgeWork 88 = .ok (.aload_n 0, 1) := by decide +kernel
theorem dX9_judgeWork_89 : decode cX9_judgeWork 89 = .ok (.getfield 15, 3) := by decide +kernel
theorem dX9_judgeWork_92 : decode cX9_judgeWork 92 = .ok (.invokevirtual 64, 3) := by decide +kernel
theorem dX9_judgeWork_95 : decode cX9_judgeWork 95 = .ok (.istore 4, 2) := by decide +kernel
theorem dX9_judgeWork_97 : decode cX9_judgeWork 97 = .ok (.aload_n 0, 1) := by decide +kernel
theorem dX9_judgeWork_98 : decode cX9_judgeWork 98 = .ok (.getfield 15, 3) := by decide +kernel
theorem dX9_judgeWork_101 : decode cX9_judgeWork 101 = .ok (.invokevirtual 68, 3) := by decide +kernel
theorem dX9_judgeWork_104 : decode cX9_judgeWork 104 = .ok (.istore 5, 2) := by decide +kernel
theorem dX9_judgeWork_106 : decode cX9_judgeWork 106 = .ok (.aload_n 0, 1) := by decide +kernel
theorem dX9_judgeWork_107 : decode cX9_judgeWork 107 = .ok (.getfield 15, 3) := by decide +kernel
theorem dX9_judgeWork_110 : decode cX9_judgeWork 110 = .ok (.aload_n 0, 1) := by decide +kernel
theorem dX9_judgeWork_111 : decode cX9_judgeWork 111 = .ok (.getfield 30, 3) := by decide +kernel
theorem dX9_judgeWork_114 : decode cX9_judgeWork 114 = .ok (.invokevirtual 36, 3) := by decide +kernel
theorem dX9_judgeWork_117 : decode cX9_judgeWork 117 = .ok (.iload_n 2, 1) := by decide +kernel
theorem dX9_judgeWork_118 : decode cX9_judgeWork 118 = .ok (.ifCond .ne 7, 3) := by decide +kernel
theorem dX9_judgeWork_121 : decode cX9_judgeWork 121 = .ok (.iload_n 3, 1) := by decide +kernel
theorem dX9_judgeWork_122 : decode cX9_judgeWork 122 = .ok (.goto 15, 3) := by decide +kernel
theorem dX9_judgeWork_125 : decode cX9_judgeWork 125 = .ok (.iload_n 2, 1) := by decide +kernel
theorem dX9_judgeWork_126 : decode cX9_judgeWork 126 = .ok (.iconst 1, 1) := by decide +kernel
theorem dX9_judgeWork_127 : decode cX9_judgeWork 127 = .ok (.if_icmp .ne 8, 3) := by decide +kernel
theorem dX9_judgeWork_130 : decode cX9_judgeWork 130 = .ok (.iload 4, 2) := by decide +kernel
theorem dX9_judgeWork_132 : decode cX9_judgeWork 132 = .ok (.goto 5, 3) := by decide +kernel
theorem dX9_judgeWork_135 : decode cX9_judgeWork 135 = .ok (.iload 5, 2) := by decide +kernel
theorem dX9_judgeWork_137 : decode cX9_judgeWork 137 = .ok (.ireturn, 1) := by decide +kernel
def fX9_judgeWork (a0 : Nat) (a1 : Nat) (a2 : Int) (G : Hp) : RT := bn (fX6_copyFrom ((rf a0 4)) ((rf a0 1)) G) fun _ G1 => bn (fX6_clear ((rf a0 1)) G1) fun _ G2 => bd ((-1)) fun v3 => bd 0 fun v4 => (lp (fun (_ : Int) (_ : Int) (_ : Hp) => (none : RT)) 5000 (fun (rc8 : Int → Int → Hp → RT) (v5 : Int) (v6 : Int) (G7 : Hp) => jn (bp (fX6_insideCount ((rf a0 1)) G7) fun v10 => bd v10 fun v11 => bp (fX6_heldKeys ((rf a0 1)) G7) fun v12 => bd v12 fun v13 => bn (fX6_copyFrom ((rf a0 1)) ((rf a0 4)) G7) fun _ G14 => if a2 = 0 then rt v5 G14 else (if a2 = 1 then rt v11 G14 else rt v13 G14)) fun (K9 : RT) => if v6 < (G7 a1 3) then (if v6 < 40 then (br (rd G7 ((rf a1 0)) 40 v6) fun v16 => br (rd G7 ((rf a1 1)) 40 v6) fun v17 => br (rd G7 ((rf a1 2)) 40 v6) fun v18 => bn (fX0_doDeed ((rf a0 2)) v16 v17 v18 G7) fun v19 G20 => bd v19 fun v21 => jn (fun (v22 : Int) => bd (iadd v6 1) fun v24 => rc8 v22 v24 G20) fun (K23 : Int → RT) => if v21 = 0 then (if v5 = ((-1)) then (bd v6 fun v25 => K23 v25) else K23 v5) else K23 v5) else K9) else K9)) v3 v4 G2
set_option maxRecDepth 20000 in
set_option maxHeartbeats 4000000 in
theorem tX9_judgeWork (l : Launch) (x : WX) (hi : Inj x.2.2) (G : Hp) (a0 : Nat) (a1 : Nat) (a2 : Int) (ha0 : kd a0 = 9) (ha1 : kd a1 = 10) : Ct l x yX9_judgeWork cX9_judgeWork 6 (some .int) 5 129 129 [vR a0, vR a1, vI a2] G (fX9_judgeWork a0 a1 a2 G) := by
  refine ct_of (plainFor_of_name (by decide)) hi (Nat.le_refl _) (Nat.le_refl _) (Nat.le_of_ble_eq_true rfl) (fun cx F hd hn0 hnE hl hQ => ?_)
  subst hl
  have F : Fx cx x RX9 cX9_judgeWork 6 (some .int) := F
  show Y cx x 6 (some .int) 129 0 [(0, vR a0), (1, vR a1), (2, vI a2)] [] G _
  unfold fX9_judgeWork
  refine x_aload_n F dX9_judgeWork_0 rfl rfl rfl ?_
  refine x_getR F flX9_30 ha0 rfl dX9_judgeWork_1 rfl ?_
  refine x_aload_n F dX9_judgeWork_4 rfl rfl rfl ?_
  refine x_getR F flX9_15 ha0 rfl dX9_judgeWork_5 rfl ?_
  refine s_callVv F [vR ((rf a0 1))] [] lkX9_36 mX6_copyFrom rfl (tf9_4 ha0).1 rfl hnE hn0 hd (tX6_copyFrom cx.l x hi G ((rf a0 4)) ((rf a0 1)) (tf9_4 ha0).1 (tf9_1 ha0).1) rfl rfl dX9_judgeWork_8 rfl rfl (fun _ G1 => ?_)
  refine x_aload_n F dX9_judgeWork_11 rfl rfl rfl ?_
  refine x_getR F flX9_15 ha0 rfl dX9_judgeWork_12 rfl ?_
  refine s_callVv F [] [] lkX9_40 mX6_clear rfl (tf9_1 ha0).1 rfl hnE hn0 hd (tX6_clear cx.l x hi G1 ((rf a0 1)) (tf9_1 ha0).1) rfl rfl dX9_judgeWork_15 rfl rfl (fun _ G2 => ?_)
  refine x_iconst F dX9_judgeWork_18 ⟨by decide, by decide⟩ rfl ?_
  refine x_istore_n F dX9_judgeWork_19 rfl (by decide) rfl rfl (fun v3 => ?_)
  show Y cx x _ _ _ _ [(0, vR a0), (1, vR a1), (2, vI a2), (3, vI v3)] _ _ _
  refine x_iconst F dX9_judgeWork_20 ⟨by decide, by decide⟩ rfl ?_
  refine x_istore F dX9_judgeWork_21 (by decide) rfl rfl (fun v4 => ?_)
  show Y cx x _ _ _ _ [(0, vR a0), (1, vR a1), (2, vI a2), (3, vI v3), (4, vI v4)] _ _ _
  refine x_lp (fun (rc8 : Int → Int → Hp → RT) => ∀ (v5 : Int) (v6 : Int) (G7 : Hp), Y cx x 6 (some .int) 129 23 [(0, vR a0), (1, vR a1), (2, vI a2), (3, vI v5), (4, vI v6)] [] G7 (rc8 v5 v6 G7)) (fun _ _ _ => Y_none) (fun rc8 hrc8 v5 v6 G7 => ?_) 5000 v3 v4 G2
  refine x_iload F dX9_judgeWork_23 rfl rfl ?_
  refine x_aload_n F dX9_judgeWork_25 rfl rfl rfl ?_
  refine s_getI F flX9_43 ha1 rfl dX9_judgeWork_26 rfl ?_
  refine x_jn (fun (K9 : RT) => Y cx x 6 (some .int) 129 88 [(0, vR a0), (2, vI a2), (3, vI v5)] [] G7 K9) ?_ (fun K9 hK9 => ?_)
  · refine x_aload_n F dX9_judgeWork_88 rfl rfl rfl ?_
    refine x_getR F flX9_15 ha0 rfl dX9_judgeWork_89 rfl ?_
    refine s_callVP F [] [] lkX9_64 mX6_insideCount rfl (tf9_1 ha0).1 rfl hnE hn0 hd pX6_insideCount (tX6_insideCount cx.l x hi G7 ((rf a0 1)) (tf9_1 ha0).1) rfl rfl dX9_judgeWork_92 rfl rfl (fun v10 => ?_)
    refine x_istore F dX9_judgeWork_95 (by decide) rfl rfl (fun v11 => ?_)
    show Y cx x _ _ _ _ [(0, vR a0), (2, vI a2), (3, vI v5), (4, vI v11)] _ _ _
    refine x_aload_n F dX9_judgeWork_97 rfl rfl rfl ?_
    refine x_getR F flX9_15 ha0 rfl dX9_judgeWork_98 rfl ?_
    refine s_callVP F [] [] lkX9_68 mX6_heldKeys rfl (tf9_1 ha0).1 rfl hnE hn0 hd pX6_heldKeys (tX6_heldKeys cx.l x hi G7 ((rf a0 1)) (tf9_1 ha0).1) rfl rfl dX9_judgeWork_101 rfl rfl (fun v12 => ?_)
    refine x_istore F dX9_judgeWork_104 (by decide) rfl rfl (fun v13 => ?_)
    show Y cx x _ _ _ _ [(0, vR a0), (2, vI a2), (3, vI v5), (4, vI v11), (5, vI v13)] _ _ _
    refine x_aload_n F dX9_judgeWork_106 rfl rfl rfl ?_
    refine x_getR F flX9_15 ha0 rfl dX9_judgeWork_107 rfl ?_
    refine x_aload_n F dX9_judgeWork_110 rfl rfl rfl ?_
    refine x_getR F flX9_30 ha0 rfl dX9_judgeWork_111 rfl ?_
    refine s_callVv F [vR ((rf a0 4))] [] lkX9_36 mX6_copyFrom rfl (tf9_1 ha0).1 rfl hnE hn0 hd (tX6_copyFrom cx.l x hi G7 ((rf a0 1)) ((rf a0 4)) (tf9_1 ha0).1 (tf9_4 ha0).1) rfl rfl dX9_judgeWork_114 rfl rfl (fun _ G14 => ?_)
    refine x_iload_n F dX9_judgeWork_117 rfl rfl rfl ?_
    refine x_ifne (pt := 125) F dX9_judgeWork_118 rfl rfl ?_ ?_
    · refine x_iload_n F dX9_judgeWork_121 rfl rfl rfl ?_
      refine x_goto (pc' := 137) F dX9_judgeWork_122 rfl ?_
      exact x_iret F hnE hQ dX9_judgeWork_137
    · refine x_iload_n F dX9_judgeWork_125 rfl rfl rfl ?_
      refine x_iconst F dX9_judgeWork_126 ⟨by decide, by decide⟩ rfl ?_
      refine x_icmpne (pt := 135) F dX9_judgeWork_127 rfl rfl ?_ ?_
      · refine x_iload F dX9_judgeWork_130 rfl rfl ?_
        refine x_goto (pc' := 137) F dX9_judgeWork_132 rfl ?_
        exact x_iret F hnE hQ dX9_judgeWork_137
      · refine x_iload F dX9_judgeWork_135 rfl rfl ?_
        exact x_iret F hnE hQ dX9_judgeWork_137
  · refine x_icmpge (pt := 88) F dX9_judgeWork_29 rfl rfl ?_ ?_
    · refine x_iload F dX9_judgeWork_32 rfl rfl ?_
      refine x_bipush F dX9_judgeWork_34 ⟨by decide, by decide⟩ (by decide) rfl ?_
      refine x_icmpge (pt := 88) F dX9_judgeWork_36 rfl rfl ?_ ?_
      · refine x_aload_n F dX9_judgeWork_39 rfl rfl rfl ?_
        refine x_getR F flX9_19 ha0 rfl dX9_judgeWork_40 rfl ?_
        refine x_aload_n F dX9_judgeWork_43 rfl rfl rfl ?_
        refine x_getR F flX9_49 ha1 rfl dX9_judgeWork_44 rfl ?_
        refine x_iload F dX9_judgeWork_47 rfl rfl ?_
        refine s_iald F (tf10_0 ha1).1 (tf10_0 ha1).2 dX9_judgeWork_49 rfl (fun v16 => ?_)
        refine x_aload_n F dX9_judgeWork_50 rfl rfl rfl ?_
        refine x_getR F flX9_52 ha1 rfl dX9_judgeWork_51 rfl ?_
        refine x_iload F dX9_judgeWork_54 rfl rfl ?_
        refine s_iald F (tf10_1 ha1).1 (tf10_1 ha1).2 dX9_judgeWork_56 rfl (fun v17 => ?_)
        refine x_aload_n F dX9_judgeWork_57 rfl rfl rfl ?_
        refine x_getR F flX9_55 ha1 rfl dX9_judgeWork_58 rfl ?_
        refine x_iload F dX9_judgeWork_61 rfl rfl ?_
        refine s_iald F (tf10_2 ha1).1 (tf10_2 ha1).2 dX9_judgeWork_63 rfl (fun v18 => ?_)
        refine s_callV F [vI v16, vI v17, vI v18] [] lkX9_58 mX0_doDeed rfl (tf9_2 ha0).1 rfl hnE hn0 hd (tX0_doDeed cx.l x hi G7 ((rf a0 2)) v16 v17 v18 (tf9_2 ha0).1) rfl rfl dX9_judgeWork_64 rfl rfl (fun v19 G20 => ?_)
        refine x_istore F dX9_judgeWork_67 (by decide) rfl rfl (fun v21 => ?_)
        show Y cx x _ _ _ _ [(0, vR a0), (1, vR a1), (2, vI a2), (3, vI v5), (4, vI v6), (5, vI v21)] _ _ _
        refine x_iload F dX9_judgeWork_69 rfl rfl ?_
        refine x_jn (fun (K23 : Int → RT) => ∀ (v22 : Int), Y cx x 6 (some .int) 129 82 [(0, vR a0), (1, vR a1), (2, vI a2), (3, vI v22), (4, vI v6)] [] G20 (K23 v22)) ?_ (fun K23 hK23 => ?_)
        · intro v22
          refine x_iinc F dX9_judgeWork_82 rfl (by decide) rfl rfl (fun v24 => ?_)
          show Y cx x _ _ _ _ [(0, vR a0), (1, vR a1), (2, vI a2), (3, vI v22), (4, vI v24)] _ _ _
          refine x_goto (pc' := 23) F dX9_judgeWork_85 rfl ?_
          exact hrc8 v22 v24 G20
        · refine x_ifne (pt := 82) F dX9_judgeWork_71 rfl rfl ?_ ?_
          · refine x_iload_n F dX9_judgeWork_74 rfl rfl rfl ?_
            refine x_iconst F dX9_judgeWork_75 ⟨by decide, by decide⟩ rfl ?_
            refine x_icmpne (pt := 82) F dX9_judgeWork_76 rfl rfl ?_ ?_
            · refine x_iload F dX9_judgeWork_79 rfl rfl ?_
              refine x_dp (L' := [(0, vR a0), (1, vR a1), (2, vI a2), (3, vI v5), (4, vI v6)]) [0, 1, 2, 3, 4] rfl ?_
              refine x_istore_n F dX9_judgeWork_81 rfl (by decide) rfl rfl (fun v25 => ?_)
              show Y cx x _ _ _ _ [(0, vR a0), (1, vR a1), (2, vI a2), (3, vI v25), (4, vI v6)] _ _ _
              exact hK23 v25
            · refine x_dp (L' := [(0, vR a0), (1, vR a1), (2, vI a2), (3, vI v5), (4, vI v6)]) [0, 1, 2, 3, 4] rfl ?_
              exact hK23 v5
          · refine x_dp (L' := [(0, vR a0), (1, vR a1), (2, vI a2), (3, vI v5), (4, vI v6)]) [0, 1, 2, 3, 4] rfl ?_
            exact hK23 v5
      · refine x_dp (L' := [(0, vR a0), (2, vI a2), (3, vI v5)]) [0, 2, 3] rfl ?_
        exact hK9
    · refine x_dp (L' := [(0, vR a0), (2, vI a2), (3, vI v5)]) [0, 2, 3] rfl ?_
      exact hK9
theorem dX9_roundsTillRest_0 : decode cX9_roundsTillRest 0 = .ok (.aload_n 0, 1) := by decide +kernel
theorem dX9_roundsTillRest_1 : decode cX9_roundsTillRest 1 = .ok (.getfield 30, 3) := by decide +kernel
theorem dX9_roundsTillRest_4 : decode cX9_roundsTillRest 4 = .ok (.aload_n 0, 1) := by decide +kernel
theorem dX9_roundsTillRest_5 : decode cX9_roundsTillRest 5 = .ok (.getfield 15, 3) := by decide +kernel
theorem dX9_roundsTillRest_8 : decode cX9_roundsTillRest 8 = .ok (.invokevirtual 36, 3) := by decide +kernel
theorem dX9_roundsTillRest_11 : decode cX9_roundsTillRest 11 = .ok (.iconst (-1), 1) := by decide +kernel
theorem dX9_roundsTillRest_12 : decode cX9_roundsTillRest 12 = .ok (.istore_n 1, 1) := by decide +kernel
theorem dX9_roundsTillRest_13 : decode cX9_roundsTillRest 13 = .ok (.iconst 0, 1) := by decide +kernel
theorem dX9_roundsTillRest_14 : decode cX9_roundsTillRest 14 = .ok (.istore_n 2, 1) := by decide +kernel
theorem dX9_roundsTillRest_15 : decode cX9_roundsTillRest 15 = .ok (.iload_n 2, 1) := by decide +kernel
theorem dX9_roundsTillRest_16 : decode cX9_roundsTillRest 16 = .ok (.bipush 30, 2) := by decide +kernel
theorem dX9_roundsTillRest_18 : decode cX9_roundsTillRest 18 = .ok (.if_icmp .gt 48, 3) := by decide +kernel
theorem dX9_roundsTillRest_21 : decode cX9_roundsTillRest 21 = .ok (.iload_n 1, 1) := by decide +kernel
theorem dX9_roundsTillRest_22 : decode cX9_roundsTillRest 22 = .ok (.iconst (-1), 1) := by decide +kernel
theorem dX9_roundsTillRest_23 : decode cX9_roundsTillRest 23 = .ok (.if_icmp .ne 43, 3) := by decide +kernel
theorem dX9_roundsTillRest_26 : decode cX9_roundsTillRest 26 = .ok (.aload_n 0, 1) := by decide +kernel
theorem dX9_roundsTillRest_27 : decode cX9_roundsTillRest 27 = .ok (.getfield 33, 3) := by decide +kernel
theorem dX9_roundsTillRest_30 : decode cX9_roundsTillRest 30 = .ok (.aload_n 0, 1) := by decide +kernel
theorem dX9_roundsTillRest_31 : decode cX9_roundsTillRest 31 = .ok (.getfield 15, 3) := by decide +kernel
theorem dX9_roundsTillRest_34 : decode cX9_roundsTillRest 34 = .ok (.invokevirtual 36, 3) := by decide +kernel
theorem dX9_roundsTillRest_37 : decode cX9_roundsTillRest 37 = .ok (.aload_n 0, 1) := by decide +kernel
theorem dX9_roundsTillRest_38 : decode cX9_roundsTillRest 38 = .ok (.getfield 19, 3) := by decide +kernel
theorem dX9_roundsTillRest_41 : decode cX9_roundsTillRest 41 = .ok (.invokevirtual 71, 3) := by decide +kernel
theorem dX9_roundsTillRest_44 : decode cX9_roundsTillRest 44 = .ok (.aload_n 0, 1) := by decide +kernel
theorem dX9_roundsTillRest_45 : decode cX9_roundsTillRest 45 = .ok (.getfield 15, 3) := by decide +kernel
theorem dX9_roundsTillRest_48 : decode cX9_roundsTillRest 48 = .ok (.aload_n 0, 1) := by decide +kernel
theorem dX9_roundsTillRest_49 : decode cX9_roundsTillRest 49 = .ok (.getfield 33, 3) := by decide +kernel
theorem dX9_roundsTillRest_52 : decode cX9_roundsTillRest 52 = .ok (.invokevirtual 74, 3) := by decide +kernel
theorem dX9_roundsTillRest_55 : decode cX9_roundsTillRest 55 = .ok (.ifCond .eq 5, 3) := by decide +kernel
theorem dX9_roundsTillRest_58 : decode cX9_roundsTillRest 58 = .ok (.iload_n 2, 1) := by decide +kernel
theorem dX9_roundsTillRest_59 : decode cX9_roundsTillRest 59 = .ok (.istore_n 1, 1) := by decide +kernel
theorem dX9_roundsTillRest_60 : decode cX9_roundsTillRest 60 = .ok (.iinc 2 1, 3) := by decide +kernel
theorem dX9_roundsTillRest_63 : decode cX9_roundsTillRest 63 = .ok (.goto (-48), 3) := by decide +kernel
theorem dX9_roundsTillRest_66 : decode cX9_roundsTillRest 66 = .ok (.aload_n 0, 1) := by decide +kernel
theorem dX9_roundsTillRest_67 : decode cX9_roundsTillRest 67 = .ok (.getfield 15, 3) := by decide +kernel
theorem dX9_roundsTillRest_70 : decode cX9_roundsTillRest 70 = .ok (.aload_n 0, 1) := by decide +kernel
theorem dX9_roundsTillRest_71 : decode cX9_roundsTillRest 71 = .ok (.getfield 30, 3) := by decide +kernel
theorem dX9_roundsTillRest_74 : decode cX9_roundsTillRest 74 = .ok (.invokevirtual 36, 3) := by decide +kernel
theorem dX9_roundsTillRest_77 : decode cX9_roundsTillRest 77 = .ok (.iload_n 1, 1) := by decide +kernel
theorem dX9_roundsTillRest_78 : decode cX9_roundsTillRest 78 = .ok (.ireturn, 1) := by decide +kernel
def fX9_roundsTillRest (a0 : Nat) (G : Hp) : RT := bn (fX6_copyFrom ((rf a0 4)) ((rf a0 1)) G) fun _ G1 => bd ((-1)) fun v2 => bd 0 fun v3 => (lp (fun (_ : Int) (_ : Int) (_ : Hp) => (none : RT)) 5000 (fun (rc7 : Int → Int → Hp → RT) (v4 : Int) (v5 : Int) (G6 : Hp) => jn (bn (fX6_copyFrom ((rf a0 1)) ((rf a0 4)) G6) fun _ G9 => rt v4 G9) fun (K8 : RT) => if 30 < v5 then K8 else (if v4 = ((-1)) then (bn (fX6_copyFrom ((rf a0 5)) ((rf a0 1)) G6) fun _ G11 => bn (fX0_doRound ((rf a0 2)) G11) fun _ G12 => bp (fX6_isLike ((rf a0 1)) ((rf a0 5)) G12) fun v13 => jn (fun (v14 : Int) => bd (iadd v5 1) fun v16 => rc7 v14 v16 G12) fun (K15 : Int → RT) => if v13 = 0 then K15 v4 else (bd v5 fun v17 => K15 v17)) else K8))) v2 v3 G1
set_option maxRecDepth 20000 in
set_option maxHeartbeats 4000000 in
theorem tX9_roundsTillRest (l : Launch) (x : WX) (hi : Inj x.2.2) (G : Hp) (a0 : Nat) (ha0 : kd a0 = 9) : Ct l x yX9_roundsTillRest cX9_roundsTillRest 3 (some .int) 5 129 129 [vR a0] G (fX9_roundsTillRest a0 G) := by
  refine ct_of (plainFor_of_name (by decide)) hi (Nat.le_refl _) (Nat.le_refl _) (Nat.le_of_ble_eq_true rfl) (fun cx F hd hn0 hnE hl hQ => ?_)
  subst hl
  have F : Fx cx x RX9 cX9_roundsTillRest 3 (some .int) := F
  show Y cx x 3 (some .int) 129 0 [(0, vR a0)] [] G _
  unfold fX9_roundsTillRest
  refine x_aload_n F dX9_roundsTillRest_0 rfl rfl rfl ?_
  refine x_getR F flX9_30 ha0 rfl dX9_roundsTillRest_1 rfl ?_
  refine x_aload_n F dX9_roundsTillRest_4 rfl rfl rfl ?_
  refine x_getR F flX9_15 ha0 rfl dX9_roundsTillRest_5 rfl ?_
  refine s_callVv F [vR ((rf a0 1))] [] lkX9_36 mX6_copyFrom rfl (tf9_4 ha0).1 rfl hnE hn0 hd (tX6_copyFrom cx.l x hi G ((rf a0 4)) ((rf a0 1)) (tf9_4 ha0).1 (tf9_1 ha0).1) rfl rfl dX9_roundsTillRest_8 rfl rfl (fun _ G1 => ?_)
  refine x_iconst F dX9_roundsTillRest_11 ⟨by decide, by decide⟩ rfl ?_
  refine x_istore_n F dX9_roundsTillRest_12 rfl (by decide) rfl rfl (fun v2 => ?_)
  show Y cx x _ _ _ _ [(0, vR a0), (1, vI v2)] _ _ _
  refine x_iconst F dX9_roundsTillRest_13 ⟨by decide, by decide⟩ rfl ?_
  refine x_istore_n F dX9_roundsTillRest_14 rfl (by decide) rfl rfl (fun v3 => ?_)
  show Y cx x _ _ _ _ [(0, vR a0), (1, vI v2), (2, vI v3)] _ _ _
  refine x_lp (fun (rc7 : Int → Int → Hp → RT) => ∀ (v4 : Int) (v5 : Int) (G6 : Hp), Y cx x 3 (some .int) 129 15 [(0, vR a0), (1, vI v4), (2, vI v5)] [] G6 (rc7 v4 v5 G6)) (fun _ _ _ => Y_none) (fun rc7 hrc7 v4 v5 G6 => ?_) 5000 v2 v3 G1
  refine x_iload_n F dX9_roundsTillRest_15 rfl rfl rfl ?_
  refine x_bipush F dX9_roundsTillRest_16 ⟨by decide, by decide⟩ (by decide) rfl ?_
  refine x_jn (fun (K8 : RT) => Y cx x 3 (some .int) 129 66 [(0, vR a0), (1, vI v4)] [] G6 K8) ?_ (fun K8 hK8 => ?_)
  · refine x_aload_n F dX9_roundsTillRest_66 rfl rfl rfl ?_
    refine x_getR F flX9_15 ha0 rfl dX9_roundsTillRest_67 rfl ?_
    refine x_aload_n F dX9_roundsTillRest_70 rfl rfl rfl ?_
    refine x_getR F flX9_30 ha0 rfl dX9_roundsTillRest_71 rfl ?_
    refine s_callVv F [vR ((rf a0 4))] [] lkX9_36 mX6_copyFrom rfl (tf9_1 ha0).1 rfl hnE hn0 hd (tX6_copyFrom cx.l x hi G6 ((rf a0 1)) ((rf a0 4)) (tf9_1 ha0).1 (tf9_4 ha0).1) rfl rfl dX9_roundsTillRest_74 rfl rfl (fun _ G9 => ?_)
    refine x_iload_n F dX9_roundsTillRest_77 rfl rfl rfl ?_
    exact x_iret F hnE hQ dX9_roundsTillRest_78
  · refine x_icmpgt (pt := 66) F dX9_roundsTillRest_18 rfl rfl ?_ ?_
    · refine x_dp (L' := [(0, vR a0), (1, vI v4)]) [0, 1] rfl ?_
      exact hK8
    · refine x_iload_n F dX9_roundsTillRest_21 rfl rfl rfl ?_
      refine x_iconst F dX9_roundsTillRest_22 ⟨by decide, by decide⟩ rfl ?_
      refine x_icmpne (pt := 66) F dX9_roundsTillRest_23 rfl rfl ?_ ?_
      · refine x_aload_n F dX9_roundsTillRest_26 rfl rfl rfl ?_
        refine x_getR F flX9_33 ha0 rfl dX9_roundsTillRest_27 rfl ?_
        refine x_aload_n F dX9_roundsTillRest_30 rfl rfl rfl ?_
        refine x_getR F flX9_15 ha0 rfl dX9_roundsTillRest_31 rfl ?_
        refine s_callVv F [vR ((rf a0 1))] [] lkX9_36 mX6_copyFrom rfl (tf9_5 ha0).1 rfl hnE hn0 hd (tX6_copyFrom cx.l x hi G6 ((rf a0 5)) ((rf a0 1)) (tf9_5 ha0).1 (tf9_1 ha0).1) rfl rfl dX9_roundsTillRest_34 rfl rfl (fun _ G11 => ?_)
        refine x_aload_n F dX9_roundsTillRest_37 rfl rfl rfl ?_
        refine x_getR F flX9_19 ha0 rfl dX9_roundsTillRest_38 rfl ?_
        refine s_callVv F [] [] lkX9_71 mX0_doRound rfl (tf9_2 ha0).1 rfl hnE hn0 hd (tX0_doRound cx.l x hi G11 ((rf a0 2)) (tf9_2 ha0).1) rfl rfl dX9_roundsTillRest_41 rfl rfl (fun _ G12 => ?_)
        refine x_aload_n F dX9_roundsTillRest_44 rfl rfl rfl ?_
        refine x_getR F flX9_15 ha0 rfl dX9_roundsTillRest_45 rfl ?_
        refine x_aload_n F dX9_roundsTillRest_48 rfl rfl rfl ?_
        refine x_getR F flX9_33 ha0 rfl dX9_roundsTillRest_49 rfl ?_
        refine s_callVP F [vR ((rf a0 5))] [] lkX9_74 mX6_isLike rfl (tf9_1 ha0).1 rfl hnE hn0 hd pX6_isLike (tX6_isLike cx.l x hi G12 ((rf a0 1)) ((rf a0 5)) (tf9_1 ha0).1 (tf9_5 ha0).1) rfl rfl dX9_roundsTillRest_52 rfl rfl (fun v13 => ?_)
        refine x_jn (fun (K15 : Int → RT) => ∀ (v14 : Int), Y cx x 3 (some .int) 129 60 [(0, vR a0), (1, vI v14), (2, vI v5)] [] G12 (K15 v14)) ?_ (fun K15 hK15 => ?_)
        · intro v14
          refine x_iinc F dX9_roundsTillRest_60 rfl (by decide) rfl rfl (fun v16 => ?_)
          show Y cx x _ _ _ _ [(0, vR a0), (1, vI v14), (2, vI v16)] _ _ _
          refine x_goto (pc' := 15) F dX9_roundsTillRest_63 rfl ?_
          exact hrc7 v14 v16 G12
        · refine x_ifeq (pt := 60) F dX9_roundsTillRest_55 rfl rfl ?_ ?_
          · exact hK15 v4
          · refine x_iload_n F dX9_roundsTillRest_58 rfl rfl rfl ?_
            refine x_istore_n F dX9_roundsTillRest_59 rfl (by decide) rfl rfl (fun v17 => ?_)
            show Y cx x _ _ _ _ [(0, vR a0), (1, vI v17), (2, vI v5)] _ _ _
            exact hK15 v17
      · refine x_dp (L' := [(0, vR a0), (1, vI v4)]) [0, 1] rfl ?_
        exact hK8
theorem dX9_afterRounds_0 : decode cX9_afterRounds 0 = .ok (.aload_n 0, 1) := by decide +kernel
theorem dX9_afterRounds_1 : decode cX9_afterRounds 1 = .ok (.getfield 30, 3) := by decide +kernel
theorem dX9_afterRounds_4 : decode cX9_afterRounds 4 = .ok (.aload_n 0, 1) := by decide +kernel
theorem dX9_afterRounds_5 : decode cX9_afterRounds 5 = .ok (.getfield 15, 3) := by decide +kernel
theorem dX9_afterRounds_8 : decode cX9_afterRounds 8 = .ok (.invokevirtual 36, 3) := by decide +kernel
theorem dX9_afterRounds_11 : decode cX9_afterRounds 11 = .ok (.iconst 0, 1) := by decide +kernel
theorem dX9_afterRounds_12 : decode cX9_afterRounds 12 = .ok (.istore_n 3, 1) := by decide +kernel
theorem dX9_afterRounds_13 : decode cX9_afterRounds 13 = .ok (.iload_n 3, 1) := by decide +kernel
theorem dX9_afterRounds_14 : decode cX9_afterRounds 14 = .ok (.iload_n 1, 1) := by decide +kernel
theorem dX9_afterRounds_15 : decode cX9_afterRounds 15 = .ok (.if_icmp .ge 16, 3) := by decide +kernel
theorem dX9_afterRounds_18 : decode cX9_afterRounds 18 = .ok (.aload_n 0, 1) := by decide +kernel
theorem dX9_afterRounds_19 : decode cX9_afterRounds 19 = .ok (.getfield 19, 3) := by decide +kernel
theorem dX9_afterRounds_22 : decode cX9_afterRounds 22 = .ok (.invokevirtual 71, 3) := by decide +kernel
theorem dX9_afterRounds_25 : decode cX9_afterRounds 25 = .ok (.iinc 3 1, 3) := by decide +kernel
theorem dX9_afterRounds_28 : decode cX9_afterRounds 28 = .ok (.goto (-15), 3) := by decide +kernel
theorem dX9_afterRounds_31 : decode cX9_afterRounds 31 = .ok (.iload_n 2, 1) := by decide +kernel
theorem dX9_afterRounds_32 : decode cX9_afterRounds 32 = .ok (.tableswitch 69 0 2 #[28, 47, 58], 28) := by decide +kernel
theorem dX9_afterRounds_60 : decode cX9_afterRounds 60 = .ok (.aload_n 0, 1) := by decide +kernel
theorem dX9_afterRounds_61 : decode cX9_afterRounds 61 = .ok (.getfield 23, 3) := by decide +kernel
theorem dX9_afterRounds_64 : decode cX9_afterRounds 64 = .ok (.invokevirtual 78, 3) := by decide +kernel
theorem dX9_afterRounds_67 : decode cX9_afterRounds 67 = .ok (.ifCond .eq 7, 3) := by decide +kernel
theorem dX9_afterRounds_70 : decode cX9_afterRounds 70 = .ok (.iconst 1, 1) := by decide +kernel
theorem dX9_afterRounds_71 : decode cX9_afterRounds 71 = .ok (.goto 4, 3) := by decide +kernel
theorem dX9_afterRounds_74 : decode cX9_afterRounds 74 = .ok (.iconst 0, 1) := by decide +kernel
theorem dX9_afterRounds_75 : decode cX9_afterRounds 75 = .ok (.istore_n 3, 1) := by decide +kernel
theorem dX9_afterRounds_76 : decode cX9_afterRounds 76 = .ok (.goto 33, 3) := by decide +kernel
theorem dX9_afterRounds_79 : decode cX9_afterRounds 79 = .ok (.aload_n 0, 1) := by decide +kernel
theorem dX9_afterRounds_80 : decode cX9_afterRounds 80 = .ok (.getfield 23, 3) := by decide +kernel
theorem dX9_afterRounds_83 : decode cX9_afterRounds 83 = .ok (.invokevirtual 84, 3) := by decide +kernel
theorem dX9_afterRounds_86 : decode cX9_afterRounds 86 = .ok (.istore_n 3, 1) := by decide +kernel
theorem dX9_afterRounds_87 : decode cX9_afterRounds 87 = .ok (.goto 22, 3) := by decide +kernel
theorem dX9_afterRounds_90 : decode cX9_afterRounds 90 = .ok (.aload_n 0, 1) := by decide +kernel
theorem dX9_afterRounds_91 : decode cX9_afterRounds 91 = .ok (.getfield 23, 3) := by decide +kernel
theorem dX9_afterRounds_94 : decode cX9_afterRounds 94 = .ok (.invokevirtual 87, 3) := by decide +kernel
theorem dX9_afterRounds_97 : decode cX9_afterRounds 97 = .ok (.istore_n 3, 1) := by decide +kernel
theorem dX9_afterRounds_98 : decode cX9_afterRounds 98 = .ok (.goto 11, 3) := by decide +kernel
theorem dX9_afterRounds_101 : decode cX9_afterRounds 101 = .ok (.aload_n 0, 1) := by decide +kernel
theorem dX9_afterRounds_102 : decode cX9_afterRounds 102 = .ok (.getfield 23, 3) := by decide +kernel
theorem dX9_afterRounds_105 : decode cX9_afterRounds 105 = .ok (.invokevirtual 90, 3) := by decide +kernel
theorem dX9_afterRounds_108 : decode cX9_afterRounds 108 = .ok (.istore_n 3, 1) := by decide +kernel
theorem dX9_afterRounds_109 : decode cX9_afterRounds 109 = .ok (.aload_n 0, 1) := by decide +kernel
theorem dX9_afterRounds_110 : decode cX9_afterRounds 110 = .ok (.getfield 15, 3) := by decide +kernel
theorem dX9_afterRounds_113 : decode cX9_afterRounds 113 = .ok (.aload_n 0, 1) := by decide +kernel
theorem dX9_afterRounds_114 : decode cX9_afterRounds 114 = .ok (.getfield 30, 3) := by decide +kernel
theorem dX9_afterRounds_117 : decode cX9_afterRounds 117 = .ok (.invokevirtual 36, 3) := by decide +kernel
theorem dX9_afterRounds_120 : decode cX9_afterRounds 120 = .ok (.iload_n 3, 1) := by decide +kernel
theorem dX9_afterRounds_121 : decode cX9_afterRounds 121 = .ok (.ireturn, 1) := by decide +kernel
def fX9_afterRounds (a0 : Nat) (a1 : Int) (a2 : Int) (G : Hp) : RT := bn (fX6_copyFrom ((rf a0 4)) ((rf a0 1)) G) fun _ G1 => bd 0 fun v2 => (lp (fun (_ : Int) (_ : Hp) => (none : RT)) 5000 (fun (rc5 : Int → Hp → RT) (v3 : Int) (G4 : Hp) => if v3 < a1 then (bn (fX0_doRound ((rf a0 2)) G4) fun _ G23 => bd (iadd v3 1) fun v24 => rc5 v24 G23) else (jn (fun (v6 : Int) => bn (fX6_copyFrom ((rf a0 1)) ((rf a0 4)) G4) fun _ G8 => rt v6 G8) fun (K7 : Int → RT) => if a2 = 0 then (bp (fX2_isOrdered ((rf a0 3)) G4) fun v11 => jn (fun (v12 : Int) => bd v12 fun v14 => K7 v14) fun (K13 : Int → RT) => if v11 = 0 then K13 0 else K13 1) else (if a2 = 1 then (bp (fX2_amissNodes ((rf a0 3)) G4) fun v16 => bd v16 fun v17 => K7 v17) else (if a2 = 2 then (bp (fX2_behindNodes ((rf a0 3)) G4) fun v19 => bd v19 fun v20 => K7 v20) else (bp (fX2_astrayKeys ((rf a0 3)) G4) fun v21 => bd v21 fun v22 => K7 v22)))))) v2 G1
set_option maxRecDepth 20000 in
set_option maxHeartbeats 4000000 in
theorem tX9_afterRounds (l : Launch) (x : WX) (hi : Inj x.2.2) (G : Hp) (a0 : Nat) (a1 : Int) (a2 : Int) (ha0 : kd a0 = 9) : Ct l x yX9_afterRounds cX9_afterRounds 4 (some .int) 5 129 129 [vR a0, vI a1, vI a2] G (fX9_afterRounds a0 a1 a2 G) := by
  refine ct_of (plainFor_of_name (by decide)) hi (Nat.le_refl _) (Nat.le_refl _) (Nat.le_of_ble_eq_true rfl) (fun cx F hd hn0 hnE hl hQ => ?_)
  subst hl
  have F : Fx cx x RX9 cX9_afterRounds 4 (some .int) := F
  show Y cx x 4 (some .int) 129 0 [(0, vR a0), (1, vI a1), (2, vI a2)] [] G _
  unfold fX9_afterRounds
  refine x_aload_n F dX9_afterRounds_0 rfl rfl rfl ?_
  refine x_getR F flX9_30 ha0 rfl dX9_afterRounds_1 rfl ?_
  refine x_aload_n F dX9_afterRounds_4 rfl rfl rfl ?_
  refine x_getR F flX9_15 ha0 rfl dX9_afterRounds_5 rfl ?_
  refine s_callVv F [vR ((rf a0 1))] [] lkX9_36 mX6_copyFrom rfl (tf9_4 ha0).1 rfl hnE hn0 hd (tX6_copyFrom cx.l x hi G ((rf a0 4)) ((rf a0 1)) (tf9_4 ha0).1 (tf9_1 ha0).1) rfl rfl dX9_afterRounds_8 rfl rfl (fun _ G1 => ?_)
  refine x_iconst F dX9_afterRounds_11 ⟨by decide, by decide⟩ rfl ?_
  refine x_istore_n F dX9_afterRounds_12 rfl (by decide) rfl rfl (fun v2 => ?_)
  show Y cx x _ _ _ _ [(0, vR a0), (1, vI a1), (2, vI a2), (3, vI v2)] _ _ _
  refine x_lp (fun (rc5 : Int → Hp → RT) => ∀ (v3 : Int) (G4 : Hp), Y cx x 4 (some .int) 129 13 [(0, vR a0), (1, vI a1), (2, vI a2), (3, vI v3)] [] G4 (rc5 v3 G4)) (fun _ _ => Y_none) (fun rc5 hrc5 v3 G4 => ?_) 5000 v2 G1
  refine x_iload_n F dX9_afterRounds_13 rfl rfl rfl ?_
  refine x_iload_n F dX9_afterRounds_14 rfl rfl rfl ?_
  refine x_icmpge (pt := 31) F dX9_afterRounds_15 rfl rfl ?_ ?_
  · refine x_aload_n F dX9_afterRounds_18 rfl rfl rfl ?_
    refine x_getR F flX9_19 ha0 rfl dX9_afterRounds_19 rfl ?_
    refine s_callVv F [] [] lkX9_71 mX0_doRound rfl (tf9_2 ha0).1 rfl hnE hn0 hd (tX0_doRound cx.l x hi G4 ((rf a0 2)) (tf9_2 ha0).1) rfl rfl dX9_afterRounds_22 rfl rfl (fun _ G23 => ?_)
    refine x_iinc F dX9_afterRounds_25 rfl (by decide) rfl rfl (fun v24 => ?_)
    show Y cx x _ _ _ _ [(0, vR a0), (1, vI a1), (2, vI a2), (3, vI v24)] _ _ _
    refine x_goto (pc' := 13) F dX9_afterRounds_28 rfl ?_
    exact hrc5 v24 G23
  · refine x_iload_n F dX9_afterRounds_31 rfl rfl rfl ?_
    refine x_jn (fun (K7 : Int → RT) => ∀ (v6 : Int), Y cx x 4 (some .int) 129 109 [(0, vR a0), (3, vI v6)] [] G4 (K7 v6)) ?_ (fun K7 hK7 => ?_)
    · intro v6
      refine x_aload_n F dX9_afterRounds_109 rfl rfl rfl ?_
      refine x_getR F flX9_15 ha0 rfl dX9_afterRounds_110 rfl ?_
      refine x_aload_n F dX9_afterRounds_113 rfl rfl rfl ?_
      refine x_getR F flX9_30 ha0 rfl dX9_afterRounds_114 rfl ?_
      refine s_callVv F [vR ((rf a0 4))] [] lkX9_36 mX6_copyFrom rfl (tf9_1 ha0).1 rfl hnE hn0 hd (tX6_copyFrom cx.l x hi G4 ((rf a0 1)) ((rf a0 4)) (tf9_1 ha0).1 (tf9_4 ha0).1) rfl rfl dX9_afterRounds_117 rfl rfl (fun _ G8 => ?_)
      refine x_iload_n F dX9_afterRounds_120 rfl rfl rfl ?_
      exact x_iret F hnE hQ dX9_afterRounds_121
    · refine x_ite (fun h10 => ?_) (fun h10 => ?_)
      · refine x_tabIn (off := 28) (pc' := 60) F dX9_afterRounds_32 (by omega) (by omega) (by rw [h10]; rfl) rfl ?_
        refine x_aload_n F dX9_afterRounds_60 rfl rfl rfl ?_
        refine x_getR F flX9_23 ha0 rfl dX9_afterRounds_61 rfl ?_
        refine s_callVP F [] [] lkX9_78 mX2_isOrdered rfl (tf9_3 ha0).1 rfl hnE hn0 hd pX2_isOrdered (tX2_isOrdered cx.l x hi G4 ((rf a0 3)) (tf9_3 ha0).1) rfl rfl dX9_afterRounds_64 rfl rfl (fun v11 => ?_)
        refine x_jn (fun (K13 : Int → RT) => ∀ (v12 : Int), Y cx x 4 (some .int) 129 75 [(0, vR a0)] [vI v12] G4 (K13 v12)) ?_ (fun K13 hK13 => ?_)
        · intro v12
          refine x_istore_n F dX9_afterRounds_75 rfl (by decide) rfl rfl (fun v14 => ?_)
          show Y cx x _ _ _ _ [(0, vR a0), (3, vI v14)] _ _ _
          refine x_goto (pc' := 109) F dX9_afterRounds_76 rfl ?_
          exact hK7 v14
        · refine x_ifeq (pt := 74) F dX9_afterRounds_67 rfl rfl ?_ ?_
          · refine x_iconst F dX9_afterRounds_74 ⟨by decide, by decide⟩ rfl ?_
            refine x_dp (L' := [(0, vR a0)]) [0] rfl ?_
            exact hK13 0
          · refine x_iconst F dX9_afterRounds_70 ⟨by decide, by decide⟩ rfl ?_
            refine x_goto (pc' := 75) F dX9_afterRounds_71 rfl ?_
            refine x_dp (L' := [(0, vR a0)]) [0] rfl ?_
            exact hK13 1
      · refine x_ite (fun h15 => ?_) (fun h15 => ?_)
        · refine x_tabIn (off := 47) (pc' := 79) F dX9_afterRounds_32 (by omega) (by omega) (by rw [h15]; rfl) rfl ?_
          refine x_aload_n F dX9_afterRounds_79 rfl rfl rfl ?_
          refine x_getR F flX9_23 ha0 rfl dX9_afterRounds_80 rfl ?_
          refine s_callVP F [] [] lkX9_84 mX2_amissNodes rfl (tf9_3 ha0).1 rfl hnE hn0 hd pX2_amissNodes (tX2_amissNodes cx.l x hi G4 ((rf a0 3)) (tf9_3 ha0).1) rfl rfl dX9_afterRounds_83 rfl rfl (fun v16 => ?_)
          refine x_dp (L' := [(0, vR a0), (3, vI v3)]) [0, 3] rfl ?_
          refine x_istore_n F dX9_afterRounds_86 rfl (by decide) rfl rfl (fun v17 => ?_)
          show Y cx x _ _ _ _ [(0, vR a0), (3, vI v17)] _ _ _
          refine x_goto (pc' := 109) F dX9_afterRounds_87 rfl ?_
          exact hK7 v17
        · refine x_ite (fun h18 => ?_) (fun h18 => ?_)
          · refine x_tabIn (off := 58) (pc' := 90) F dX9_afterRounds_32 (by omega) (by omega) (by rw [h18]; rfl) rfl ?_
            refine x_aload_n F dX9_afterRounds_90 rfl rfl rfl ?_
            refine x_getR F flX9_23 ha0 rfl dX9_afterRounds_91 rfl ?_
            refine s_callVP F [] [] lkX9_87 mX2_behindNodes rfl (tf9_3 ha0).1 rfl hnE hn0 hd pX2_behindNodes (tX2_behindNodes cx.l x hi G4 ((rf a0 3)) (tf9_3 ha0).1) rfl rfl dX9_afterRounds_94 rfl rfl (fun v19 => ?_)
            refine x_dp (L' := [(0, vR a0), (3, vI v3)]) [0, 3] rfl ?_
            refine x_istore_n F dX9_afterRounds_97 rfl (by decide) rfl rfl (fun v20 => ?_)
            show Y cx x _ _ _ _ [(0, vR a0), (3, vI v20)] _ _ _
            refine x_goto (pc' := 109) F dX9_afterRounds_98 rfl ?_
            exact hK7 v20
          · refine x_tabOut (pc' := 101) F dX9_afterRounds_32 (by omega) rfl ?_
            refine x_aload_n F dX9_afterRounds_101 rfl rfl rfl ?_
            refine x_getR F flX9_23 ha0 rfl dX9_afterRounds_102 rfl ?_
            refine s_callVP F [] [] lkX9_90 mX2_astrayKeys rfl (tf9_3 ha0).1 rfl hnE hn0 hd pX2_astrayKeys (tX2_astrayKeys cx.l x hi G4 ((rf a0 3)) (tf9_3 ha0).1) rfl rfl dX9_afterRounds_105 rfl rfl (fun v21 => ?_)
            refine x_dp (L' := [(0, vR a0), (3, vI v3)]) [0, 3] rfl ?_
            refine x_istore_n F dX9_afterRounds_108 rfl (by decide) rfl rfl (fun v22 => ?_)
            show Y cx x _ _ _ _ [(0, vR a0), (3, vI v22)] _ _ _
            exact hK7 v22
theorem dX9_drive_0 : decode cX9_drive 0 = .ok (.aload_n 0, 1) := by decide +kernel
theorem dX9_drive_1 : decode cX9_drive 1 = .ok (.getfield 9, 3) := by decide +kernel
theorem dX9_drive_4 : decode cX9_drive 4 = .ok (.getfield 93, 3) := by decide +kernel
theorem dX9_drive_7 : decode cX9_drive 7 = .ok (.ifCond .le 13, 3) := by decide +kernel
theorem dX9_drive_10 : decode cX9_drive 10 = .ok (.aload_n 0, 1) := by decide +kernel
theorem dX9_drive_11 : decode cX9_drive 11 = .ok (.getfield 9, 3) := by decide +kernel
theorem dX9_drive_14 : decode cX9_drive 14 = .ok (.getfield 98, 3) := by decide +kernel
theorem dX9_drive_17 : decode cX9_drive 17 = .ok (.ifCond .gt 5, 3) := by decide +kernel
theorem dX9_drive_20 : decode cX9_drive 20 = .ok (.iconst 0, 1) := by decide +kernel
theorem dX9_drive_21 : decode cX9_drive 21 = .ok (.ireturn, 1) := by decide +kernel
theorem dX9_drive_22 : decode cX9_drive 22 = .ok (.aload_n 0, 1) := by decide +kernel
theorem dX9_drive_23 : decode cX9_drive 23 = .ok (.getfield 30, 3) := by decide +kernel
theorem dX9_drive_26 : decode cX9_drive 26 = .ok (.aload_n 0, 1) := by decide +kernel
theorem dX9_drive_27 : decode cX9_drive 27 = .ok (.getfield 15, 3) := by decide +kernel
theorem dX9_drive_30 : decode cX9_drive 30 = .ok (.invokevirtual 36, 3) := by decide +kernel
theorem dX9_drive_33 : decode cX9_drive 33 = .ok (.aload_n 0, 1) := by decide +kernel
theorem dX9_drive_34 : decode cX9_drive 34 = .ok (.iload_n 1, 1) := by decide +kernel
theorem dX9_drive_35 : decode cX9_drive 35 = .ok (.i2l, 1) := by decide +kernel
theorem dX9_drive_36 : decode cX9_drive 36 = .ok (.putfield 101, 3) := by decide +kernel
theorem dX9_drive_39 : decode cX9_drive 39 = .ok (.iconst 0, 1) := by decide +kernel
theorem dX9_drive_40 : decode cX9_drive 40 = .ok (.istore 4, 2) := by decide +kernel
theorem dX9_drive_42 : decode cX9_drive 42 = .ok (.iconst 0, 1) := by decide +kernel
theorem dX9_drive_43 : decode cX9_drive 43 = .ok (.istore 5, 2) := by decide +kernel
theorem dX9_drive_45 : decode cX9_drive 45 = .ok (.iload 5, 2) := by decide +kernel
theorem dX9_drive_47 : decode cX9_drive 47 = .ok (.iload_n 2, 1) := by decide +kernel
theorem dX9_drive_48 : decode cX9_drive 48 = .ok (.if_icmp .ge 26, 3) := by decide +kernel
theorem dX9_drive_51 : decode cX9_drive 51 = .ok (.iload 4, 2) := by decide +kernel
theorem dX9_drive_53 : decode cX9_drive 53 = .ok (.aload_n 0, 1) := by decide +kernel
theorem dX9_drive_54 : decode cX9_drive 54 = .ok (.invokevirtual 105, 3) := by decide +kernel
theorem dX9_drive_57 : decode cX9_drive 57 = .ok (.ifCond .eq 7, 3) := by decide +kernel
theorem dX9_drive_60 : decode cX9_drive 60 = .ok (.iconst 1, 1) := by decide +kernel
theorem dX9_drive_61 : decode cX9_drive 61 = .ok (.goto 4, 3) := by decide +kernel
theorem dX9_drive_64 : decode cX9_drive 64 = .ok (.iconst 0, 1) := by decide +kernel
theorem dX9_drive_65 : decode cX9_drive 65 = .ok (.iadd, 1) := by decide +kernel
theorem dX9_drive_66 : decode cX9_drive 66 = .ok (.istore 4, 2) := by decide +kernel
theorem dX9_drive_68 : decode cX9_drive 68 = .ok (.iinc 5 1, 3) := by decide +kernel
theorem dX9_drive_71 : decode cX9_drive 71 = .ok (.goto (-26), 3) := by decide +kernel
theorem dX9_drive_74 : decode cX9_drive 74 = .ok (.aload_n 0, 1) := by decide +kernel
theorem dX9_drive_75 : decode cX9_drive 75 = .ok (.getfield 15, 3) := by decide +kernel
theorem dX9_drive_78 : decode cX9_drive 78 = .ok (.invokevirtual 64, 3) := by decide +kernel
theorem dX9_drive_81 : decode cX9_drive 81 = .ok (.istore 5, 2) := by decide +kernel
theorem dX9_drive_83 : decode cX9_drive 83 = .ok (.aload_n 0, 1) := by decide +kernel
theorem dX9_drive_84 : decode cX9_drive 84 = .ok (.getfield 23, 3) := by decide +kernel
theorem dX9_drive_87 : decode cX9_drive 87 = .ok (.invokevirtual 84, 3) := by decide +kernel
theorem dX9_drive_90 : decode cX9_drive 90 = .ok (.istore 6, 2) := by decide +kernel
theorem dX9_drive_92 : decode cX9_drive 92 = .ok (.aload_n 0, 1) := by decide +kernel
theorem dX9_drive_93 : decode cX9_drive 93 = .ok (.getfield 15, 3) := by decide +kernel
theorem dX9_drive_96 : decode cX9_drive 96 = .ok (.aload_n 0, 1) := by decide +kernel
theorem dX9_drive_97 : decode cX9_drive 97 = .ok (.getfield 30, 3) := by decide +kernel
theorem dX9_drive_100 : decode cX9_drive 100 = .ok (.invokevirtual 36, 3) := by decide +kernel
theorem dX9_drive_103 : decode cX9_drive 103 = .ok (.iload_n 3, 1) := by decide +kernel
theorem dX9_drive_104 : decode cX9_drive 104 = .ok (.ifCond .ne 8, 3) := by decide +kernel
theorem dX9_drive_107 : decode cX9_drive 107 = .ok (.iload 4, 2) := by decide +kernel
theorem dX9_drive_109 : decode cX9_drive 109 = .ok (.goto 15, 3) := by decide +kernel
theorem dX9_drive_112 : decode cX9_drive 112 = .ok (.iload_n 3, 1) := by decide +kernel
theorem dX9_drive_113 : decode cX9_drive 113 = .ok (.iconst 1, 1) := by decide +kernel
theorem dX9_drive_114 : decode cX9_drive 114 = .ok (.if_icmp .ne 8, 3) := by decide +kernel
theorem dX9_drive_117 : decode cX9_drive 117 = .ok (.iload 5, 2) := by decide +kernel
theorem dX9_drive_119 : decode cX9_drive 119 = .ok (.goto 5, 3) := by decide +kernel
theorem dX9_drive_122 : decode cX9_drive 122 = .ok (.iload 6, 2) := by decide +kernel
theorem dX9_drive_124 : decode cX9_drive 124 = .ok (.ireturn, 1) := by decide +kernel
def fX9_drive (a0 : Nat) (a1 : Int) (a2 : Int) (a3 : Int) (G : Hp) : RT := if 0 < (G ((rf a0 0)) 0) then (if 0 < (G ((rf a0 0)) 2) then (bn (fX6_copyFrom ((rf a0 4)) ((rf a0 1)) G) fun _ G1 => bh (up G1 a0 6 a1) fun G2 => bd 0 fun v3 => bd 0 fun v4 => (lp (fun (_ : Int) (_ : Int) (_ : Hp) => (none : RT)) 5000 (fun (rc8 : Int → Int → Hp → RT) (v5 : Int) (v6 : Int) (G7 : Hp) => if v6 < a2 then (bn (fX9_driveOnce a0 G7) fun v15 G16 => jn (fun (v17 : Int) => bd (iadd v5 v17) fun v19 => bd (iadd v6 1) fun v20 => rc8 v19 v20 G16) fun (K18 : Int → RT) => if v15 = 0 then K18 0 else K18 1) else (bp (fX6_insideCount ((rf a0 1)) G7) fun v9 => bd v9 fun v10 => bp (fX2_amissNodes ((rf a0 3)) G7) fun v11 => bd v11 fun v12 => bn (fX6_copyFrom ((rf a0 1)) ((rf a0 4)) G7) fun _ G13 => if a3 = 0 then rt v5 G13 else (if a3 = 1 then rt v10 G13 else rt v12 G13)))) v3 v4 G2) else rt 0 G) else rt 0 G
set_option maxRecDepth 20000 in
set_option maxHeartbeats 4000000 in
theorem tX9_drive (l : Launch) (x : WX) (hi : Inj x.2.2) (G : Hp) (a0 : Nat) (a1 : Int) (a2 : Int) (a3 : Int) (ha0 : kd a0 = 9) : Ct l x yX9_drive cX9_drive 7 (some .int) 5 129 129 [vR a0, vI a1, vI a2, vI a3] G (fX9_drive a0 a1 a2 a3 G) := by
  refine ct_of (plainFor_of_name (by decide)) hi (Nat.le_refl _) (Nat.le_refl _) (Nat.le_of_ble_eq_true rfl) (fun cx F hd hn0 hnE hl hQ => ?_)
  subst hl
  have F : Fx cx x RX9 cX9_drive 7 (some .int) := F
  show Y cx x 7 (some .int) 129 0 [(0, vR a0), (1, vI a1), (2, vI a2), (3, vI a3)] [] G _
  unfold fX9_drive
  refine x_aload_n F dX9_drive_0 rfl rfl rfl ?_
  refine x_getR F flX9_9 ha0 rfl dX9_drive_1 rfl ?_
  refine s_getI F flX9_93 (tf9_0 ha0).1 rfl dX9_drive_4 rfl ?_
  refine x_ifle (pt := 20) F dX9_drive_7 rfl rfl ?_ ?_
  · refine x_aload_n F dX9_drive_10 rfl rfl rfl ?_
    refine x_getR F flX9_9 ha0 rfl dX9_drive_11 rfl ?_
    refine s_getI F flX9_98 (tf9_0 ha0).1 rfl dX9_drive_14 rfl ?_
    refine x_ifgt (pt := 22) F dX9_drive_17 rfl rfl ?_ ?_
    · refine x_aload_n F dX9_drive_22 rfl rfl rfl ?_
      refine x_getR F flX9_30 ha0 rfl dX9_drive_23 rfl ?_
      refine x_aload_n F dX9_drive_26 rfl rfl rfl ?_
      refine x_getR F flX9_15 ha0 rfl dX9_drive_27 rfl ?_
      refine s_callVv F [vR ((rf a0 1))] [] lkX9_36 mX6_copyFrom rfl (tf9_4 ha0).1 rfl hnE hn0 hd (tX6_copyFrom cx.l x hi G ((rf a0 4)) ((rf a0 1)) (tf9_4 ha0).1 (tf9_1 ha0).1) rfl rfl dX9_drive_30 rfl rfl (fun _ G1 => ?_)
      refine x_aload_n F dX9_drive_33 rfl rfl rfl ?_
      refine x_iload_n F dX9_drive_34 rfl rfl rfl ?_
      refine x_i2l F dX9_drive_35 rfl ?_
      refine s_putJ F fpX9_101 ha0 rfl rfl dX9_drive_36 rfl (fun G2 => ?_)
      refine x_iconst F dX9_drive_39 ⟨by decide, by decide⟩ rfl ?_
      refine x_dp (L' := [(0, vR a0), (2, vI a2), (3, vI a3)]) [0, 2, 3] rfl ?_
      refine x_istore F dX9_drive_40 (by decide) rfl rfl (fun v3 => ?_)
      show Y cx x _ _ _ _ [(0, vR a0), (2, vI a2), (3, vI a3), (4, vI v3)] _ _ _
      refine x_iconst F dX9_drive_42 ⟨by decide, by decide⟩ rfl ?_
      refine x_istore F dX9_drive_43 (by decide) rfl rfl (fun v4 => ?_)
      show Y cx x _ _ _ _ [(0, vR a0), (2, vI a2), (3, vI a3), (4, vI v3), (5, vI v4)] _ _ _
      refine x_lp (fun (rc8 : Int → Int → Hp → RT) => ∀ (v5 : Int) (v6 : Int) (G7 : Hp), Y cx x 7 (some .int) 129 45 [(0, vR a0), (2, vI a2), (3, vI a3), (4, vI v5), (5, vI v6)] [] G7 (rc8 v5 v6 G7)) (fun _ _ _ => Y_none) (fun rc8 hrc8 v5 v6 G7 => ?_) 5000 v3 v4 G2
      refine x_iload F dX9_drive_45 rfl rfl ?_
      refine x_iload_n F dX9_drive_47 rfl rfl rfl ?_
      refine x_icmpge (pt := 74) F dX9_drive_48 rfl rfl ?_ ?_
      · refine x_iload F dX9_drive_51 rfl rfl ?_
        refine x_aload_n F dX9_drive_53 rfl rfl rfl ?_
        refine s_callV F [] [vI v5] lkX9_105 mX9_driveOnce rfl ha0 rfl hnE hn0 hd (tX9_driveOnce cx.l x hi G7 a0 ha0) rfl rfl dX9_drive_54 rfl rfl (fun v15 G16 => ?_)
        refine x_jn (fun (K18 : Int → RT) => ∀ (v17 : Int), Y cx x 7 (some .int) 129 65 [(0, vR a0), (2, vI a2), (3, vI a3), (5, vI v6)] [vI v17, vI v5] G16 (K18 v17)) ?_ (fun K18 hK18 => ?_)
        · intro v17
          refine x_iadd F dX9_drive_65 rfl ?_
          refine x_istore F dX9_drive_66 (by decide) rfl rfl (fun v19 => ?_)
          show Y cx x _ _ _ _ [(0, vR a0), (2, vI a2), (3, vI a3), (5, vI v6), (4, vI v19)] _ _ _
          refine x_iinc F dX9_drive_68 rfl (by decide) rfl rfl (fun v20 => ?_)
          show Y cx x _ _ _ _ [(0, vR a0), (2, vI a2), (3, vI a3), (5, vI v20), (4, vI v19)] _ _ _
          refine x_goto (pc' := 45) F dX9_drive_71 rfl ?_
          refine x_dp (L' := [(0, vR a0), (2, vI a2), (3, vI a3), (4, vI v19), (5, vI v20)]) [0, 1, 2, 4, 3] rfl ?_
          exact hrc8 v19 v20 G16
        · refine x_ifeq (pt := 64) F dX9_drive_57 rfl rfl ?_ ?_
          · refine x_iconst F dX9_drive_64 ⟨by decide, by decide⟩ rfl ?_
            refine x_dp (L' := [(0, vR a0), (2, vI a2), (3, vI a3), (5, vI v6)]) [0, 1, 2, 4] rfl ?_
            exact hK18 0
          · refine x_iconst F dX9_drive_60 ⟨by decide, by decide⟩ rfl ?_
            refine x_goto (pc' := 65) F dX9_drive_61 rfl ?_
            refine x_dp (L' := [(0, vR a0), (2, vI a2), (3, vI a3), (5, vI v6)]) [0, 1, 2, 4] rfl ?_
            exact hK18 1
      · refine x_aload_n F dX9_drive_74 rfl rfl rfl ?_
        refine x_getR F flX9_15 ha0 rfl dX9_drive_75 rfl ?_
        refine s_callVP F [] [] lkX9_64 mX6_insideCount rfl (tf9_1 ha0).1 rfl hnE hn0 hd pX6_insideCount (tX6_insideCount cx.l x hi G7 ((rf a0 1)) (tf9_1 ha0).1) rfl rfl dX9_drive_78 rfl rfl (fun v9 => ?_)
        refine x_dp (L' := [(0, vR a0), (3, vI a3), (4, vI v5), (5, vI v6)]) [0, 2, 3, 4] rfl ?_
        refine x_istore F dX9_drive_81 (by decide) rfl rfl (fun v10 => ?_)
        show Y cx x _ _ _ _ [(0, vR a0), (3, vI a3), (4, vI v5), (5, vI v10)] _ _ _
        refine x_aload_n F dX9_drive_83 rfl rfl rfl ?_
        refine x_getR F flX9_23 ha0 rfl dX9_drive_84 rfl ?_
        refine s_callVP F [] [] lkX9_84 mX2_amissNodes rfl (tf9_3 ha0).1 rfl hnE hn0 hd pX2_amissNodes (tX2_amissNodes cx.l x hi G7 ((rf a0 3)) (tf9_3 ha0).1) rfl rfl dX9_drive_87 rfl rfl (fun v11 => ?_)
        refine x_istore F dX9_drive_90 (by decide) rfl rfl (fun v12 => ?_)
        show Y cx x _ _ _ _ [(0, vR a0), (3, vI a3), (4, vI v5), (5, vI v10), (6, vI v12)] _ _ _
        refine x_aload_n F dX9_drive_92 rfl rfl rfl ?_
        refine x_getR F flX9_15 ha0 rfl dX9_drive_93 rfl ?_
        refine x_aload_n F dX9_drive_96 rfl rfl rfl ?_
        refine x_getR F flX9_30 ha0 rfl dX9_drive_97 rfl ?_
        refine s_callVv F [vR ((rf a0 4))] [] lkX9_36 mX6_copyFrom rfl (tf9_1 ha0).1 rfl hnE hn0 hd (tX6_copyFrom cx.l x hi G7 ((rf a0 1)) ((rf a0 4)) (tf9_1 ha0).1 (tf9_4 ha0).1) rfl rfl dX9_drive_100 rfl rfl (fun _ G13 => ?_)
        refine x_iload_n F dX9_drive_103 rfl rfl rfl ?_
        refine x_ifne (pt := 112) F dX9_drive_104 rfl rfl ?_ ?_
        · refine x_iload F dX9_drive_107 rfl rfl ?_
          refine x_goto (pc' := 124) F dX9_drive_109 rfl ?_
          exact x_iret F hnE hQ dX9_drive_124
        · refine x_iload_n F dX9_drive_112 rfl rfl rfl ?_
          refine x_iconst F dX9_drive_113 ⟨by decide, by decide⟩ rfl ?_
          refine x_icmpne (pt := 122) F dX9_drive_114 rfl rfl ?_ ?_
          · refine x_iload F dX9_drive_117 rfl rfl ?_
            refine x_goto (pc' := 124) F dX9_drive_119 rfl ?_
            exact x_iret F hnE hQ dX9_drive_124
          · refine x_iload F dX9_drive_122 rfl rfl ?_
            exact x_iret F hnE hQ dX9_drive_124
    · refine x_iconst F dX9_drive_20 ⟨by decide, by decide⟩ rfl ?_
      exact x_iret F hnE hQ dX9_drive_21
  · refine x_iconst F dX9_drive_20 ⟨by decide, by decide⟩ rfl ?_
    exact x_iret F hnE hQ dX9_drive_21
