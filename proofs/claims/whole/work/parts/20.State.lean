theorem dX6_clear_0 : decode cX6_clear 0 = .ok (.aload_n 0, 1) := by decide +kernel
theorem dX6_clear_1 : decode cX6_clear 1 = .ok (.iconst 0, 1) := by decide +kernel
theorem dX6_clear_2 : decode cX6_clear 2 = .ok (.putfield 15, 3) := by decide +kernel
theorem dX6_clear_5 : decode cX6_clear 5 = .ok (.iconst 0, 1) := by decide +kernel
theorem dX6_clear_6 : decode cX6_clear 6 = .ok (.istore_n 1, 1) := by decide +kernel
theorem dX6_clear_7 : decode cX6_clear 7 = .ok (.iload_n 1, 1) := by decide +kernel
theorem dX6_clear_8 : decode cX6_clear 8 = .ok (.bipush 114, 2) := by decide +kernel
theorem dX6_clear_10 : decode cX6_clear 10 = .ok (.if_icmp .ge 16, 3) := by decide +kernel
theorem dX6_clear_13 : decode cX6_clear 13 = .ok (.aload_n 0, 1) := by decide +kernel
theorem dX6_clear_14 : decode cX6_clear 14 = .ok (.getfield 11, 3) := by decide +kernel
theorem dX6_clear_17 : decode cX6_clear 17 = .ok (.iload_n 1, 1) := by decide +kernel
theorem dX6_clear_18 : decode cX6_clear 18 = .ok (.iconst (-1), 1) := by decide +kernel
theorem dX6_clear_19 : decode cX6_clear 19 = .ok (.iastore, 1) := by decide +kernel
theorem dX6_clear_20 : decode cX6_clear 20 = .ok (.iinc 1 1, 3) := by decide +kernel
theorem dX6_clear_23 : decode cX6_clear 23 = .ok (.goto (-16), 3) := by decide +kernel
theorem dX6_clear_26 : decode cX6_clear 26 = .ok (.return_, 1) := by decide +kernel
def fX6_clear (a0 : Nat) (G : Hp) : RT := bh (up G a0 1 0) fun G1 => bd 0 fun v2 => (lp (fun (_ : Int) (_ : Hp) => (none : RT)) 5000 (fun (rc5 : Int → Hp → RT) (v3 : Int) (G4 : Hp) => if v3 < 114 then (bs (wr G4 ((rf a0 0)) 114 v3 ((-1))) fun G6 => bd (iadd v3 1) fun v7 => rc5 v7 G6) else rt 0 G4)) v2 G1
set_option maxRecDepth 20000 in
set_option maxHeartbeats 4000000 in
theorem tX6_clear (l : Launch) (x : WX) (hi : Inj x.2.2) (G : Hp) (a0 : Nat) (ha0 : kd a0 = 6) : Ct l x yX6_clear cX6_clear 2 none 0 129 129 [vR a0] G (fX6_clear a0 G) := by
  refine ct_of (plainFor_of_name (by decide)) hi (Nat.le_refl _) (Nat.le_refl _) (Nat.le_of_ble_eq_true rfl) (fun cx F hd hn0 hnE hl hQ => ?_)
  subst hl
  have F : Fx cx x RX6 cX6_clear 2 none := F
  show Y cx x 2 none 129 0 [(0, vR a0)] [] G _
  unfold fX6_clear
  refine x_aload_n F dX6_clear_0 rfl rfl rfl ?_
  refine x_iconst F dX6_clear_1 ⟨by decide, by decide⟩ rfl ?_
  refine s_putI F fpX6_15 ha0 rfl dX6_clear_2 rfl (fun G1 => ?_)
  refine x_iconst F dX6_clear_5 ⟨by decide, by decide⟩ rfl ?_
  refine x_istore_n F dX6_clear_6 rfl (by decide) rfl rfl (fun v2 => ?_)
  show Y cx x _ _ _ _ [(0, vR a0), (1, vI v2)] _ _ _
  refine x_lp (fun (rc5 : Int → Hp → RT) => ∀ (v3 : Int) (G4 : Hp), Y cx x 2 none 129 7 [(0, vR a0), (1, vI v3)] [] G4 (rc5 v3 G4)) (fun _ _ => Y_none) (fun rc5 hrc5 v3 G4 => ?_) 5000 v2 G1
  refine x_iload_n F dX6_clear_7 rfl rfl rfl ?_
  refine x_bipush F dX6_clear_8 ⟨by decide, by decide⟩ (by decide) rfl ?_
  refine x_icmpge (pt := 26) F dX6_clear_10 rfl rfl ?_ ?_
  · refine x_aload_n F dX6_clear_13 rfl rfl rfl ?_
    refine x_getR F flX6_11 ha0 rfl dX6_clear_14 rfl ?_
    refine x_iload_n F dX6_clear_17 rfl rfl rfl ?_
    refine x_iconst F dX6_clear_18 ⟨by decide, by decide⟩ rfl ?_
    refine s_iast F (tf6_0 ha0).1 (tf6_0 ha0).2 dX6_clear_19 rfl (fun G6 => ?_)
    refine x_iinc F dX6_clear_20 rfl (by decide) rfl rfl (fun v7 => ?_)
    show Y cx x _ _ _ _ [(0, vR a0), (1, vI v7)] _ _ _
    refine x_goto (pc' := 7) F dX6_clear_23 rfl ?_
    exact hrc5 v7 G6
  · exact x_vret F hnE hQ dX6_clear_26
theorem dX6_isLike_0 : decode cX6_isLike 0 = .ok (.aload_n 0, 1) := by decide +kernel
theorem dX6_isLike_1 : decode cX6_isLike 1 = .ok (.getfield 15, 3) := by decide +kernel
theorem dX6_isLike_4 : decode cX6_isLike 4 = .ok (.aload_n 1, 1) := by decide +kernel
theorem dX6_isLike_5 : decode cX6_isLike 5 = .ok (.getfield 15, 3) := by decide +kernel
theorem dX6_isLike_8 : decode cX6_isLike 8 = .ok (.if_icmp .eq 5, 3) := by decide +kernel
theorem dX6_isLike_11 : decode cX6_isLike 11 = .ok (.iconst 0, 1) := by decide +kernel
theorem dX6_isLike_12 : decode cX6_isLike 12 = .ok (.ireturn, 1) := by decide +kernel
theorem dX6_isLike_13 : decode cX6_isLike 13 = .ok (.iconst 0, 1) := by decide +kernel
theorem dX6_isLike_14 : decode cX6_isLike 14 = .ok (.istore_n 2, 1) := by decide +kernel
theorem dX6_isLike_15 : decode cX6_isLike 15 = .ok (.iload_n 2, 1) := by decide +kernel
theorem dX6_isLike_16 : decode cX6_isLike 16 = .ok (.bipush 114, 2) := by decide +kernel
theorem dX6_isLike_18 : decode cX6_isLike 18 = .ok (.if_icmp .ge 26, 3) := by decide +kernel
theorem dX6_isLike_21 : decode cX6_isLike 21 = .ok (.aload_n 0, 1) := by decide +kernel
theorem dX6_isLike_22 : decode cX6_isLike 22 = .ok (.getfield 11, 3) := by decide +kernel
theorem dX6_isLike_25 : decode cX6_isLike 25 = .ok (.iload_n 2, 1) := by decide +kernel
theorem dX6_isLike_26 : decode cX6_isLike 26 = .ok (.iaload, 1) := by decide +kernel
theorem dX6_isLike_27 : decode cX6_isLike 27 = .ok (.aload_n 1, 1) := by decide +kernel
theorem dX6_isLike_28 : decode cX6_isLike 28 = .ok (.getfield 11, 3) := by decide +kernel
theorem dX6_isLike_31 : decode cX6_isLike 31 = .ok (.iload_n 2, 1) := by decide +kernel
theorem dX6_isLike_32 : decode cX6_isLike 32 = .ok (.iaload, 1) := by decide +kernel
theorem dX6_isLike_33 : decode cX6_isLike 33 = .ok (.if_icmp .eq 5, 3) := by decide +kernel
theorem dX6_isLike_36 : decode cX6_isLike 36 = .ok (.iconst 0, 1) := by decide +kernel
theorem dX6_isLike_37 : decode cX6_isLike 37 = .ok (.ireturn, 1) := by decide +kernel
theorem dX6_isLike_38 : decode cX6_isLike 38 = .ok (.iinc 2 1, 3) := by decide +kernel
theorem dX6_isLike_41 : decode cX6_isLike 41 = .ok (.goto (-26), 3) := by decide +kernel
theorem dX6_isLike_44 : decode cX6_isLike 44 = .ok (.iconst 1, 1) := by decide +kernel
theorem dX6_isLike_45 : decode cX6_isLike 45 = .ok (.ireturn, 1) := by decide +kernel
def fX6_isLike (a0 : Nat) (a1 : Nat) (G : Hp) : RT := if (G a0 1) = (G a1 1) then (bd 0 fun v1 => (lp (fun (_ : Int) => (none : RT)) 5000 (fun (rc3 : Int → RT) (v2 : Int) => if v2 < 114 then (br (rd G ((rf a0 0)) 114 v2) fun v4 => br (rd G ((rf a1 0)) 114 v2) fun v5 => if v4 = v5 then (bd (iadd v2 1) fun v6 => rc3 v6) else rz 0 G) else rz 1 G)) v1) else rz 0 G
theorem pX6_isLike {G : Hp} {a0 : Nat} {a1 : Nat} : PU G (fX6_isLike a0 a1 G) := by
  unfold fX6_isLike
  refine PU_ite ?_ ?_
  · refine PU_bd (fun v1 => ?_)
    refine x_lp (fun (rc3 : Int → RT) => ∀ (v2 : Int), PU G (rc3 v2)) (fun _ => PU_none) (fun rc3 phrc3 v2 => ?_) 5000 v1
    refine PU_ite ?_ ?_
    · refine PU_br (fun v4 => ?_)
      refine PU_br (fun v5 => ?_)
      refine PU_ite ?_ ?_
      · refine PU_bd (fun v6 => ?_)
        exact phrc3 v6
      · exact PU_rz
    · exact PU_rz
  · exact PU_rz
set_option maxRecDepth 20000 in
set_option maxHeartbeats 4000000 in
theorem tX6_isLike (l : Launch) (x : WX) (hi : Inj x.2.2) (G : Hp) (a0 : Nat) (a1 : Nat) (ha0 : kd a0 = 6) (ha1 : kd a1 = 6) : Ct l x yX6_isLike cX6_isLike 3 (some .boolean) 0 129 129 [vR a0, vR a1] G (fX6_isLike a0 a1 G) := by
  refine ct_of (plainFor_of_name (by decide)) hi (Nat.le_refl _) (Nat.le_refl _) (Nat.le_of_ble_eq_true rfl) (fun cx F hd hn0 hnE hl hQ => ?_)
  subst hl
  have F : Fx cx x RX6 cX6_isLike 3 (some .boolean) := F
  show Y cx x 3 (some .boolean) 129 0 [(0, vR a0), (1, vR a1)] [] G _
  unfold fX6_isLike
  refine x_aload_n F dX6_isLike_0 rfl rfl rfl ?_
  refine s_getI F flX6_15 ha0 rfl dX6_isLike_1 rfl ?_
  refine x_aload_n F dX6_isLike_4 rfl rfl rfl ?_
  refine s_getI F flX6_15 ha1 rfl dX6_isLike_5 rfl ?_
  refine x_icmpeq (pt := 13) F dX6_isLike_8 rfl rfl ?_ ?_
  · refine x_iconst F dX6_isLike_13 ⟨by decide, by decide⟩ rfl ?_
    refine x_istore_n F dX6_isLike_14 rfl (by decide) rfl rfl (fun v1 => ?_)
    show Y cx x _ _ _ _ [(0, vR a0), (1, vR a1), (2, vI v1)] _ _ _
    refine x_lp (fun (rc3 : Int → RT) => ∀ (v2 : Int), Y cx x 3 (some .boolean) 129 15 [(0, vR a0), (1, vR a1), (2, vI v2)] [] G (rc3 v2)) (fun _ => Y_none) (fun rc3 hrc3 v2 => ?_) 5000 v1
    refine x_iload_n F dX6_isLike_15 rfl rfl rfl ?_
    refine x_bipush F dX6_isLike_16 ⟨by decide, by decide⟩ (by decide) rfl ?_
    refine x_icmpge (pt := 44) F dX6_isLike_18 rfl rfl ?_ ?_
    · refine x_aload_n F dX6_isLike_21 rfl rfl rfl ?_
      refine x_getR F flX6_11 ha0 rfl dX6_isLike_22 rfl ?_
      refine x_iload_n F dX6_isLike_25 rfl rfl rfl ?_
      refine s_iald F (tf6_0 ha0).1 (tf6_0 ha0).2 dX6_isLike_26 rfl (fun v4 => ?_)
      refine x_aload_n F dX6_isLike_27 rfl rfl rfl ?_
      refine x_getR F flX6_11 ha1 rfl dX6_isLike_28 rfl ?_
      refine x_iload_n F dX6_isLike_31 rfl rfl rfl ?_
      refine s_iald F (tf6_0 ha1).1 (tf6_0 ha1).2 dX6_isLike_32 rfl (fun v5 => ?_)
      refine x_icmpeq (pt := 38) F dX6_isLike_33 rfl rfl ?_ ?_
      · refine x_iinc F dX6_isLike_38 rfl (by decide) rfl rfl (fun v6 => ?_)
        show Y cx x _ _ _ _ [(0, vR a0), (1, vR a1), (2, vI v6)] _ _ _
        refine x_goto (pc' := 15) F dX6_isLike_41 rfl ?_
        exact hrc3 v6
      · refine x_iconst F dX6_isLike_36 ⟨by decide, by decide⟩ rfl ?_
        exact x_zret F hnE hQ dX6_isLike_37
    · refine x_iconst F dX6_isLike_44 ⟨by decide, by decide⟩ rfl ?_
      exact x_zret F hnE hQ dX6_isLike_45
  · refine x_iconst F dX6_isLike_11 ⟨by decide, by decide⟩ rfl ?_
    exact x_zret F hnE hQ dX6_isLike_12
theorem dX6_isIn_0 : decode cX6_isIn 0 = .ok (.iload_n 1, 1) := by decide +kernel
theorem dX6_isIn_1 : decode cX6_isIn 1 = .ok (.ifCond .lt 25, 3) := by decide +kernel
theorem dX6_isIn_4 : decode cX6_isIn 4 = .ok (.iload_n 1, 1) := by decide +kernel
theorem dX6_isIn_5 : decode cX6_isIn 5 = .ok (.bipush 8, 2) := by decide +kernel
theorem dX6_isIn_7 : decode cX6_isIn 7 = .ok (.if_icmp .ge 19, 3) := by decide +kernel
theorem dX6_isIn_10 : decode cX6_isIn 10 = .ok (.aload_n 0, 1) := by decide +kernel
theorem dX6_isIn_11 : decode cX6_isIn 11 = .ok (.getfield 15, 3) := by decide +kernel
theorem dX6_isIn_14 : decode cX6_isIn 14 = .ok (.iload_n 1, 1) := by decide +kernel
theorem dX6_isIn_15 : decode cX6_isIn 15 = .ok (.ishr, 1) := by decide +kernel
theorem dX6_isIn_16 : decode cX6_isIn 16 = .ok (.iconst 1, 1) := by decide +kernel
theorem dX6_isIn_17 : decode cX6_isIn 17 = .ok (.iand, 1) := by decide +kernel
theorem dX6_isIn_18 : decode cX6_isIn 18 = .ok (.iconst 1, 1) := by decide +kernel
theorem dX6_isIn_19 : decode cX6_isIn 19 = .ok (.if_icmp .ne 7, 3) := by decide +kernel
theorem dX6_isIn_22 : decode cX6_isIn 22 = .ok (.iconst 1, 1) := by decide +kernel
theorem dX6_isIn_23 : decode cX6_isIn 23 = .ok (.goto 4, 3) := by decide +kernel
theorem dX6_isIn_26 : decode cX6_isIn 26 = .ok (.iconst 0, 1) := by decide +kernel
theorem dX6_isIn_27 : decode cX6_isIn 27 = .ok (.ireturn, 1) := by decide +kernel
def fX6_isIn (a0 : Nat) (a1 : Int) (G : Hp) : RT := if a1 < 0 then rz 0 G else (if a1 < 8 then (if (iand (ishr (G a0 1) a1) 1) = 1 then rz 1 G else rz 0 G) else rz 0 G)
theorem pX6_isIn {G : Hp} {a0 : Nat} {a1 : Int} : PU G (fX6_isIn a0 a1 G) := by
  unfold fX6_isIn
  refine PU_ite ?_ ?_
  · exact PU_rz
  · refine PU_ite ?_ ?_
    · refine PU_ite ?_ ?_
      · exact PU_rz
      · exact PU_rz
    · exact PU_rz
set_option maxRecDepth 20000 in
set_option maxHeartbeats 4000000 in
theorem tX6_isIn (l : Launch) (x : WX) (hi : Inj x.2.2) (G : Hp) (a0 : Nat) (a1 : Int) (ha0 : kd a0 = 6) : Ct l x yX6_isIn cX6_isIn 2 (some .boolean) 0 129 129 [vR a0, vI a1] G (fX6_isIn a0 a1 G) := by
  refine ct_of (plainFor_of_name (by decide)) hi (Nat.le_refl _) (Nat.le_refl _) (Nat.le_of_ble_eq_true rfl) (fun cx F hd hn0 hnE hl hQ => ?_)
  subst hl
  have F : Fx cx x RX6 cX6_isIn 2 (some .boolean) := F
  show Y cx x 2 (some .boolean) 129 0 [(0, vR a0), (1, vI a1)] [] G _
  unfold fX6_isIn
  refine x_iload_n F dX6_isIn_0 rfl rfl rfl ?_
  refine x_iflt (pt := 26) F dX6_isIn_1 rfl rfl ?_ ?_
  · refine x_iconst F dX6_isIn_26 ⟨by decide, by decide⟩ rfl ?_
    exact x_zret F hnE hQ dX6_isIn_27
  · refine x_iload_n F dX6_isIn_4 rfl rfl rfl ?_
    refine x_bipush F dX6_isIn_5 ⟨by decide, by decide⟩ (by decide) rfl ?_
    refine x_icmpge (pt := 26) F dX6_isIn_7 rfl rfl ?_ ?_
    · refine x_aload_n F dX6_isIn_10 rfl rfl rfl ?_
      refine s_getI F flX6_15 ha0 rfl dX6_isIn_11 rfl ?_
      refine x_iload_n F dX6_isIn_14 rfl rfl rfl ?_
      refine x_ishr F dX6_isIn_15 rfl ?_
      refine x_iconst F dX6_isIn_16 ⟨by decide, by decide⟩ rfl ?_
      refine x_iand F dX6_isIn_17 rfl ?_
      refine x_iconst F dX6_isIn_18 ⟨by decide, by decide⟩ rfl ?_
      refine x_icmpne (pt := 26) F dX6_isIn_19 rfl rfl ?_ ?_
      · refine x_iconst F dX6_isIn_22 ⟨by decide, by decide⟩ rfl ?_
        refine x_goto (pc' := 27) F dX6_isIn_23 rfl ?_
        exact x_zret F hnE hQ dX6_isIn_27
      · refine x_iconst F dX6_isIn_26 ⟨by decide, by decide⟩ rfl ?_
        exact x_zret F hnE hQ dX6_isIn_27
    · refine x_iconst F dX6_isIn_26 ⟨by decide, by decide⟩ rfl ?_
      exact x_zret F hnE hQ dX6_isIn_27
theorem dX6_enter_0 : decode cX6_enter 0 = .ok (.iload_n 1, 1) := by decide +kernel
theorem dX6_enter_1 : decode cX6_enter 1 = .ok (.ifCond .lt 21, 3) := by decide +kernel
theorem dX6_enter_4 : decode cX6_enter 4 = .ok (.iload_n 1, 1) := by decide +kernel
theorem dX6_enter_5 : decode cX6_enter 5 = .ok (.bipush 8, 2) := by decide +kernel
theorem dX6_enter_7 : decode cX6_enter 7 = .ok (.if_icmp .ge 15, 3) := by decide +kernel
theorem dX6_enter_10 : decode cX6_enter 10 = .ok (.aload_n 0, 1) := by decide +kernel
theorem dX6_enter_11 : decode cX6_enter 11 = .ok (.dup, 1) := by decide +kernel
theorem dX6_enter_12 : decode cX6_enter 12 = .ok (.getfield 15, 3) := by decide +kernel
theorem dX6_enter_15 : decode cX6_enter 15 = .ok (.iconst 1, 1) := by decide +kernel
theorem dX6_enter_16 : decode cX6_enter 16 = .ok (.iload_n 1, 1) := by decide +kernel
theorem dX6_enter_17 : decode cX6_enter 17 = .ok (.ishl, 1) := by decide +kernel
theorem dX6_enter_18 : decode cX6_enter 18 = .ok (.ior, 1) := by decide +kernel
theorem dX6_enter_19 : decode cX6_enter 19 = .ok (.putfield 15, 3) := by decide +kernel
theorem dX6_enter_22 : decode cX6_enter 22 = .ok (.return_, 1) := by decide +kernel
def fX6_enter (a0 : Nat) (a1 : Int) (G : Hp) : RT := if a1 < 0 then rt 0 G else (if a1 < 8 then (bh (up G a0 1 (ior (G a0 1) (ishl 1 a1))) fun G1 => rt 0 G1) else rt 0 G)
set_option maxRecDepth 20000 in
set_option maxHeartbeats 4000000 in
theorem tX6_enter (l : Launch) (x : WX) (hi : Inj x.2.2) (G : Hp) (a0 : Nat) (a1 : Int) (ha0 : kd a0 = 6) : Ct l x yX6_enter cX6_enter 2 none 0 129 129 [vR a0, vI a1] G (fX6_enter a0 a1 G) := by
  refine ct_of (plainFor_of_name (by decide)) hi (Nat.le_refl _) (Nat.le_refl _) (Nat.le_of_ble_eq_true rfl) (fun cx F hd hn0 hnE hl hQ => ?_)
  subst hl
  have F : Fx cx x RX6 cX6_enter 2 none := F
  show Y cx x 2 none 129 0 [(0, vR a0), (1, vI a1)] [] G _
  unfold fX6_enter
  refine x_iload_n F dX6_enter_0 rfl rfl rfl ?_
  refine x_iflt (pt := 22) F dX6_enter_1 rfl rfl ?_ ?_
  · exact x_vret F hnE hQ dX6_enter_22
  · refine x_iload_n F dX6_enter_4 rfl rfl rfl ?_
    refine x_bipush F dX6_enter_5 ⟨by decide, by decide⟩ (by decide) rfl ?_
    refine x_icmpge (pt := 22) F dX6_enter_7 rfl rfl ?_ ?_
    · refine x_aload_n F dX6_enter_10 rfl rfl rfl ?_
      refine x_dup F dX6_enter_11 rfl rfl ?_
      refine s_getI F flX6_15 ha0 rfl dX6_enter_12 rfl ?_
      refine x_iconst F dX6_enter_15 ⟨by decide, by decide⟩ rfl ?_
      refine x_iload_n F dX6_enter_16 rfl rfl rfl ?_
      refine x_ishl F dX6_enter_17 rfl ?_
      refine x_ior F dX6_enter_18 rfl ?_
      refine s_putI F fpX6_15 ha0 rfl dX6_enter_19 rfl (fun G1 => ?_)
      exact x_vret F hnE hQ dX6_enter_22
    · exact x_vret F hnE hQ dX6_enter_22
theorem dX6_goOut_0 : decode cX6_goOut 0 = .ok (.iload_n 1, 1) := by decide +kernel
theorem dX6_goOut_1 : decode cX6_goOut 1 = .ok (.ifCond .lt 9, 3) := by decide +kernel
theorem dX6_goOut_4 : decode cX6_goOut 4 = .ok (.iload_n 1, 1) := by decide +kernel
theorem dX6_goOut_5 : decode cX6_goOut 5 = .ok (.bipush 8, 2) := by decide +kernel
theorem dX6_goOut_7 : decode cX6_goOut 7 = .ok (.if_icmp .lt 4, 3) := by decide +kernel
theorem dX6_goOut_10 : decode cX6_goOut 10 = .ok (.return_, 1) := by decide +kernel
theorem dX6_goOut_11 : decode cX6_goOut 11 = .ok (.aload_n 0, 1) := by decide +kernel
theorem dX6_goOut_12 : decode cX6_goOut 12 = .ok (.dup, 1) := by decide +kernel
theorem dX6_goOut_13 : decode cX6_goOut 13 = .ok (.getfield 15, 3) := by decide +kernel
theorem dX6_goOut_16 : decode cX6_goOut 16 = .ok (.iconst 1, 1) := by decide +kernel
theorem dX6_goOut_17 : decode cX6_goOut 17 = .ok (.iload_n 1, 1) := by decide +kernel
theorem dX6_goOut_18 : decode cX6_goOut 18 = .ok (.ishl, 1) := by decide +kernel
theorem dX6_goOut_19 : decode cX6_goOut 19 = .ok (.iconst (-1), 1) := by decide +kernel
theorem dX6_goOut_20 : decode cX6_goOut 20 = .ok (.ixor, 1) := by decide +kernel
theorem dX6_goOut_21 : decode cX6_goOut 21 = .ok (.iand, 1) := by decide +kernel
theorem dX6_goOut_22 : decode cX6_goOut 22 = .ok (.putfield 15, 3) := by decide +kernel
theorem dX6_goOut_25 : decode cX6_goOut 25 = .ok (.aload_n 0, 1) := by decide +kernel
theorem dX6_goOut_26 : decode cX6_goOut 26 = .ok (.getfield 11, 3) := by decide +kernel
theorem dX6_goOut_29 : decode cX6_goOut 29 = .ok (.bipush 32, 2) := by decide +kernel
theorem dX6_goOut_31 : decode cX6_goOut 31 = .ok (.iload_n 1, 1) := by decide +kernel
theorem dX6_goOut_32 : decode cX6_goOut 32 = .ok (.iadd, 1) := by decide +kernel
theorem dX6_goOut_33 : decode cX6_goOut 33 = .ok (.iconst (-1), 1) := by decide +kernel
theorem dX6_goOut_34 : decode cX6_goOut 34 = .ok (.iastore, 1) := by decide +kernel
theorem dX6_goOut_35 : decode cX6_goOut 35 = .ok (.iconst 0, 1) := by decide +kernel
theorem dX6_goOut_36 : decode cX6_goOut 36 = .ok (.istore_n 2, 1) := by decide +kernel
theorem dX6_goOut_37 : decode cX6_goOut 37 = .ok (.iload_n 2, 1) := by decide +kernel
theorem dX6_goOut_38 : decode cX6_goOut 38 = .ok (.iconst 4, 1) := by decide +kernel
theorem dX6_goOut_39 : decode cX6_goOut 39 = .ok (.if_icmp .ge 22, 3) := by decide +kernel
theorem dX6_goOut_42 : decode cX6_goOut 42 = .ok (.aload_n 0, 1) := by decide +kernel
theorem dX6_goOut_43 : decode cX6_goOut 43 = .ok (.getfield 11, 3) := by decide +kernel
theorem dX6_goOut_46 : decode cX6_goOut 46 = .ok (.iconst 0, 1) := by decide +kernel
theorem dX6_goOut_47 : decode cX6_goOut 47 = .ok (.iload_n 1, 1) := by decide +kernel
theorem dX6_goOut_48 : decode cX6_goOut 48 = .ok (.iconst 4, 1) := by decide +kernel
theorem dX6_goOut_49 : decode cX6_goOut 49 = .ok (.imul, 1) := by decide +kernel
theorem dX6_goOut_50 : decode cX6_goOut 50 = .ok (.iadd, 1) := by decide +kernel
theorem dX6_goOut_51 : decode cX6_goOut 51 = .ok (.iload_n 2, 1) := by decide +kernel
theorem dX6_goOut_52 : decode cX6_goOut 52 = .ok (.iadd, 1) := by decide +kernel
theorem dX6_goOut_53 : decode cX6_goOut 53 = .ok (.iconst (-1), 1) := by decide +kernel
theorem dX6_goOut_54 : decode cX6_goOut 54 = .ok (.iastore, 1) := by decide +kernel
theorem dX6_goOut_55 : decode cX6_goOut 55 = .ok (.iinc 2 1, 3) := by decide +kernel
theorem dX6_goOut_58 : decode cX6_goOut 58 = .ok (.goto (-21), 3) := by decide +kernel
theorem dX6_goOut_61 : decode cX6_goOut 61 = .ok (.iconst 0, 1) := by decide +kernel
theorem dX6_goOut_62 : decode cX6_goOut 62 = .ok (.istore_n 2, 1) := by decide +kernel
theorem dX6_goOut_63 : decode cX6_goOut 63 = .ok (.iload_n 2, 1) := by decide +kernel
theorem dX6_goOut_64 : decode cX6_goOut 64 = .ok (.bipush 8, 2) := by decide +kernel
theorem dX6_goOut_66 : decode cX6_goOut 66 = .ok (.if_icmp .ge 24, 3) := by decide +kernel
theorem dX6_goOut_69 : decode cX6_goOut 69 = .ok (.aload_n 0, 1) := by decide +kernel
theorem dX6_goOut_70 : decode cX6_goOut 70 = .ok (.getfield 11, 3) := by decide +kernel
theorem dX6_goOut_73 : decode cX6_goOut 73 = .ok (.bipush 40, 2) := by decide +kernel
theorem dX6_goOut_75 : decode cX6_goOut 75 = .ok (.iload_n 1, 1) := by decide +kernel
theorem dX6_goOut_76 : decode cX6_goOut 76 = .ok (.bipush 8, 2) := by decide +kernel
theorem dX6_goOut_78 : decode cX6_goOut 78 = .ok (.imul, 1) := by decide +kernel
theorem dX6_goOut_79 : decode cX6_goOut 79 = .ok (.iadd, 1) := by decide +kernel
theorem dX6_goOut_80 : decode cX6_goOut 80 = .ok (.iload_n 2, 1) := by decide +kernel
theorem dX6_goOut_81 : decode cX6_goOut 81 = .ok (.iadd, 1) := by decide +kernel
theorem dX6_goOut_82 : decode cX6_goOut 82 = .ok (.iconst (-1), 1) := by decide +kernel
theorem dX6_goOut_83 : decode cX6_goOut 83 = .ok (.iastore, 1) := by decide +kernel
theorem dX6_goOut_84 : decode cX6_goOut 84 = .ok (.iinc 2 1, 3) := by decide +kernel
theorem dX6_goOut_87 : decode cX6_goOut 87 = .ok (.goto (-24), 3) := by decide +kernel
theorem dX6_goOut_90 : decode cX6_goOut 90 = .ok (.return_, 1) := by decide +kernel
def fX6_goOut (a0 : Nat) (a1 : Int) (G : Hp) : RT := if a1 < 0 then rt 0 G else (if a1 < 8 then (bh (up G a0 1 (iand (G a0 1) (ixor (ishl 1 a1) ((-1))))) fun G1 => bs (wr G1 ((rf a0 0)) 114 (iadd 32 a1) ((-1))) fun G2 => bd 0 fun v3 => (lp (fun (_ : Int) (_ : Hp) => (none : RT)) 5000 (fun (rc6 : Int → Hp → RT) (v4 : Int) (G5 : Hp) => if v4 < 4 then (bs (wr G5 ((rf a0 0)) 114 (iadd (iadd 0 (imul a1 4)) v4) ((-1))) fun G13 => bd (iadd v4 1) fun v14 => rc6 v14 G13) else (bd 0 fun v7 => (lp (fun (_ : Int) (_ : Hp) => (none : RT)) 5000 (fun (rc10 : Int → Hp → RT) (v8 : Int) (G9 : Hp) => if v8 < 8 then (bs (wr G9 ((rf a0 0)) 114 (iadd (iadd 40 (imul a1 8)) v8) ((-1))) fun G11 => bd (iadd v8 1) fun v12 => rc10 v12 G11) else rt 0 G9)) v7 G5))) v3 G2) else rt 0 G)
set_option maxRecDepth 20000 in
set_option maxHeartbeats 4000000 in
theorem tX6_goOut (l : Launch) (x : WX) (hi : Inj x.2.2) (G : Hp) (a0 : Nat) (a1 : Int) (ha0 : kd a0 = 6) : Ct l x yX6_goOut cX6_goOut 3 none 0 129 129 [vR a0, vI a1] G (fX6_goOut a0 a1 G) := by
  refine ct_of (plainFor_of_name (by decide)) hi (Nat.le_refl _) (Nat.le_refl _) (Nat.le_of_ble_eq_true rfl) (fun cx F hd hn0 hnE hl hQ => ?_)
  subst hl
  have F : Fx cx x RX6 cX6_goOut 3 none := F
  show Y cx x 3 none 129 0 [(0, vR a0), (1, vI a1)] [] G _
  unfold fX6_goOut
  refine x_iload_n F dX6_goOut_0 rfl rfl rfl ?_
  refine x_iflt (pt := 10) F dX6_goOut_1 rfl rfl ?_ ?_
  · exact x_vret F hnE hQ dX6_goOut_10
  · refine x_iload_n F dX6_goOut_4 rfl rfl rfl ?_
    refine x_bipush F dX6_goOut_5 ⟨by decide, by decide⟩ (by decide) rfl ?_
    refine x_icmplt (pt := 11) F dX6_goOut_7 rfl rfl ?_ ?_
    · refine x_aload_n F dX6_goOut_11 rfl rfl rfl ?_
      refine x_dup F dX6_goOut_12 rfl rfl ?_
      refine s_getI F flX6_15 ha0 rfl dX6_goOut_13 rfl ?_
      refine x_iconst F dX6_goOut_16 ⟨by decide, by decide⟩ rfl ?_
      refine x_iload_n F dX6_goOut_17 rfl rfl rfl ?_
      refine x_ishl F dX6_goOut_18 rfl ?_
      refine x_iconst F dX6_goOut_19 ⟨by decide, by decide⟩ rfl ?_
      refine x_ixor F dX6_goOut_20 rfl ?_
      refine x_iand F dX6_goOut_21 rfl ?_
      refine s_putI F fpX6_15 ha0 rfl dX6_goOut_22 rfl (fun G1 => ?_)
      refine x_aload_n F dX6_goOut_25 rfl rfl rfl ?_
      refine x_getR F flX6_11 ha0 rfl dX6_goOut_26 rfl ?_
      refine x_bipush F dX6_goOut_29 ⟨by decide, by decide⟩ (by decide) rfl ?_
      refine x_iload_n F dX6_goOut_31 rfl rfl rfl ?_
      refine x_iadd F dX6_goOut_32 rfl ?_
      refine x_iconst F dX6_goOut_33 ⟨by decide, by decide⟩ rfl ?_
      refine s_iast F (tf6_0 ha0).1 (tf6_0 ha0).2 dX6_goOut_34 rfl (fun G2 => ?_)
      refine x_iconst F dX6_goOut_35 ⟨by decide, by decide⟩ rfl ?_
      refine x_istore_n F dX6_goOut_36 rfl (by decide) rfl rfl (fun v3 => ?_)
      show Y cx x _ _ _ _ [(0, vR a0), (1, vI a1), (2, vI v3)] _ _ _
      refine x_lp (fun (rc6 : Int → Hp → RT) => ∀ (v4 : Int) (G5 : Hp), Y cx x 3 none 129 37 [(0, vR a0), (1, vI a1), (2, vI v4)] [] G5 (rc6 v4 G5)) (fun _ _ => Y_none) (fun rc6 hrc6 v4 G5 => ?_) 5000 v3 G2
      refine x_iload_n F dX6_goOut_37 rfl rfl rfl ?_
      refine x_iconst F dX6_goOut_38 ⟨by decide, by decide⟩ rfl ?_
      refine x_icmpge (pt := 61) F dX6_goOut_39 rfl rfl ?_ ?_
      · refine x_aload_n F dX6_goOut_42 rfl rfl rfl ?_
        refine x_getR F flX6_11 ha0 rfl dX6_goOut_43 rfl ?_
        refine x_iconst F dX6_goOut_46 ⟨by decide, by decide⟩ rfl ?_
        refine x_iload_n F dX6_goOut_47 rfl rfl rfl ?_
        refine x_iconst F dX6_goOut_48 ⟨by decide, by decide⟩ rfl ?_
        refine x_imul F dX6_goOut_49 rfl ?_
        refine x_iadd F dX6_goOut_50 rfl ?_
        refine x_iload_n F dX6_goOut_51 rfl rfl rfl ?_
        refine x_iadd F dX6_goOut_52 rfl ?_
        refine x_iconst F dX6_goOut_53 ⟨by decide, by decide⟩ rfl ?_
        refine s_iast F (tf6_0 ha0).1 (tf6_0 ha0).2 dX6_goOut_54 rfl (fun G13 => ?_)
        refine x_iinc F dX6_goOut_55 rfl (by decide) rfl rfl (fun v14 => ?_)
        show Y cx x _ _ _ _ [(0, vR a0), (1, vI a1), (2, vI v14)] _ _ _
        refine x_goto (pc' := 37) F dX6_goOut_58 rfl ?_
        exact hrc6 v14 G13
      · refine x_iconst F dX6_goOut_61 ⟨by decide, by decide⟩ rfl ?_
        refine x_istore_n F dX6_goOut_62 rfl (by decide) rfl rfl (fun v7 => ?_)
        show Y cx x _ _ _ _ [(0, vR a0), (1, vI a1), (2, vI v7)] _ _ _
        refine x_lp (fun (rc10 : Int → Hp → RT) => ∀ (v8 : Int) (G9 : Hp), Y cx x 3 none 129 63 [(0, vR a0), (1, vI a1), (2, vI v8)] [] G9 (rc10 v8 G9)) (fun _ _ => Y_none) (fun rc10 hrc10 v8 G9 => ?_) 5000 v7 G5
        refine x_iload_n F dX6_goOut_63 rfl rfl rfl ?_
        refine x_bipush F dX6_goOut_64 ⟨by decide, by decide⟩ (by decide) rfl ?_
        refine x_icmpge (pt := 90) F dX6_goOut_66 rfl rfl ?_ ?_
        · refine x_aload_n F dX6_goOut_69 rfl rfl rfl ?_
          refine x_getR F flX6_11 ha0 rfl dX6_goOut_70 rfl ?_
          refine x_bipush F dX6_goOut_73 ⟨by decide, by decide⟩ (by decide) rfl ?_
          refine x_iload_n F dX6_goOut_75 rfl rfl rfl ?_
          refine x_bipush F dX6_goOut_76 ⟨by decide, by decide⟩ (by decide) rfl ?_
          refine x_imul F dX6_goOut_78 rfl ?_
          refine x_iadd F dX6_goOut_79 rfl ?_
          refine x_iload_n F dX6_goOut_80 rfl rfl rfl ?_
          refine x_iadd F dX6_goOut_81 rfl ?_
          refine x_iconst F dX6_goOut_82 ⟨by decide, by decide⟩ rfl ?_
          refine s_iast F (tf6_0 ha0).1 (tf6_0 ha0).2 dX6_goOut_83 rfl (fun G11 => ?_)
          refine x_iinc F dX6_goOut_84 rfl (by decide) rfl rfl (fun v12 => ?_)
          show Y cx x _ _ _ _ [(0, vR a0), (1, vI a1), (2, vI v12)] _ _ _
          refine x_goto (pc' := 63) F dX6_goOut_87 rfl ?_
          exact hrc10 v12 G11
        · exact x_vret F hnE hQ dX6_goOut_90
    · exact x_vret F hnE hQ dX6_goOut_10
theorem dX6_listAt_0 : decode cX6_listAt 0 = .ok (.iload_n 1, 1) := by decide +kernel
theorem dX6_listAt_1 : decode cX6_listAt 1 = .ok (.ifCond .lt 18, 3) := by decide +kernel
theorem dX6_listAt_4 : decode cX6_listAt 4 = .ok (.iload_n 1, 1) := by decide +kernel
theorem dX6_listAt_5 : decode cX6_listAt 5 = .ok (.bipush 8, 2) := by decide +kernel
theorem dX6_listAt_7 : decode cX6_listAt 7 = .ok (.if_icmp .ge 12, 3) := by decide +kernel
theorem dX6_listAt_10 : decode cX6_listAt 10 = .ok (.iload_n 2, 1) := by decide +kernel
theorem dX6_listAt_11 : decode cX6_listAt 11 = .ok (.ifCond .lt 8, 3) := by decide +kernel
theorem dX6_listAt_14 : decode cX6_listAt 14 = .ok (.iload_n 2, 1) := by decide +kernel
theorem dX6_listAt_15 : decode cX6_listAt 15 = .ok (.iconst 4, 1) := by decide +kernel
theorem dX6_listAt_16 : decode cX6_listAt 16 = .ok (.if_icmp .lt 5, 3) := by decide +kernel
theorem dX6_listAt_19 : decode cX6_listAt 19 = .ok (.iconst (-1), 1) := by decide +kernel
theorem dX6_listAt_20 : decode cX6_listAt 20 = .ok (.ireturn, 1) := by decide +kernel
theorem dX6_listAt_21 : decode cX6_listAt 21 = .ok (.aload_n 0, 1) := by decide +kernel
theorem dX6_listAt_22 : decode cX6_listAt 22 = .ok (.getfield 11, 3) := by decide +kernel
theorem dX6_listAt_25 : decode cX6_listAt 25 = .ok (.iconst 0, 1) := by decide +kernel
theorem dX6_listAt_26 : decode cX6_listAt 26 = .ok (.iload_n 1, 1) := by decide +kernel
theorem dX6_listAt_27 : decode cX6_listAt 27 = .ok (.iconst 4, 1) := by decide +kernel
theorem dX6_listAt_28 : decode cX6_listAt 28 = .ok (.imul, 1) := by decide +kernel
theorem dX6_listAt_29 : decode cX6_listAt 29 = .ok (.iadd, 1) := by decide +kernel
theorem dX6_listAt_30 : decode cX6_listAt 30 = .ok (.iload_n 2, 1) := by decide +kernel
theorem dX6_listAt_31 : decode cX6_listAt 31 = .ok (.iadd, 1) := by decide +kernel
theorem dX6_listAt_32 : decode cX6_listAt 32 = .ok (.iaload, 1) := by decide +kernel
theorem dX6_listAt_33 : decode cX6_listAt 33 = .ok (.ireturn, 1) := by decide +kernel
def fX6_listAt (a0 : Nat) (a1 : Int) (a2 : Int) (G : Hp) : RT := if a1 < 0 then (rt ((-1)) G) else (if a1 < 8 then (if a2 < 0 then (rt ((-1)) G) else (if a2 < 4 then (br (rd G ((rf a0 0)) 114 (iadd (iadd 0 (imul a1 4)) a2)) fun v1 => rt v1 G) else (rt ((-1)) G))) else (rt ((-1)) G))
theorem pX6_listAt {G : Hp} {a0 : Nat} {a1 : Int} {a2 : Int} : PU G (fX6_listAt a0 a1 a2 G) := by
  unfold fX6_listAt
  refine PU_ite ?_ ?_
  · exact PU_rt
  · refine PU_ite ?_ ?_
    · refine PU_ite ?_ ?_
      · exact PU_rt
      · refine PU_ite ?_ ?_
        · refine PU_br (fun v1 => ?_)
          exact PU_rt
        · exact PU_rt
    · exact PU_rt
set_option maxRecDepth 20000 in
set_option maxHeartbeats 4000000 in
theorem tX6_listAt (l : Launch) (x : WX) (hi : Inj x.2.2) (G : Hp) (a0 : Nat) (a1 : Int) (a2 : Int) (ha0 : kd a0 = 6) : Ct l x yX6_listAt cX6_listAt 3 (some .int) 0 129 129 [vR a0, vI a1, vI a2] G (fX6_listAt a0 a1 a2 G) := by
  refine ct_of (plainFor_of_name (by decide)) hi (Nat.le_refl _) (Nat.le_refl _) (Nat.le_of_ble_eq_true rfl) (fun cx F hd hn0 hnE hl hQ => ?_)
  subst hl
  have F : Fx cx x RX6 cX6_listAt 3 (some .int) := F
  show Y cx x 3 (some .int) 129 0 [(0, vR a0), (1, vI a1), (2, vI a2)] [] G _
  unfold fX6_listAt
  refine x_iload_n F dX6_listAt_0 rfl rfl rfl ?_
  refine x_iflt (pt := 19) F dX6_listAt_1 rfl rfl ?_ ?_
  · refine x_iconst F dX6_listAt_19 ⟨by decide, by decide⟩ rfl ?_
    exact x_iret F hnE hQ dX6_listAt_20
  · refine x_iload_n F dX6_listAt_4 rfl rfl rfl ?_
    refine x_bipush F dX6_listAt_5 ⟨by decide, by decide⟩ (by decide) rfl ?_
    refine x_icmpge (pt := 19) F dX6_listAt_7 rfl rfl ?_ ?_
    · refine x_iload_n F dX6_listAt_10 rfl rfl rfl ?_
      refine x_iflt (pt := 19) F dX6_listAt_11 rfl rfl ?_ ?_
      · refine x_iconst F dX6_listAt_19 ⟨by decide, by decide⟩ rfl ?_
        exact x_iret F hnE hQ dX6_listAt_20
      · refine x_iload_n F dX6_listAt_14 rfl rfl rfl ?_
        refine x_iconst F dX6_listAt_15 ⟨by decide, by decide⟩ rfl ?_
        refine x_icmplt (pt := 21) F dX6_listAt_16 rfl rfl ?_ ?_
        · refine x_aload_n F dX6_listAt_21 rfl rfl rfl ?_
          refine x_getR F flX6_11 ha0 rfl dX6_listAt_22 rfl ?_
          refine x_iconst F dX6_listAt_25 ⟨by decide, by decide⟩ rfl ?_
          refine x_iload_n F dX6_listAt_26 rfl rfl rfl ?_
          refine x_iconst F dX6_listAt_27 ⟨by decide, by decide⟩ rfl ?_
          refine x_imul F dX6_listAt_28 rfl ?_
          refine x_iadd F dX6_listAt_29 rfl ?_
          refine x_iload_n F dX6_listAt_30 rfl rfl rfl ?_
          refine x_iadd F dX6_listAt_31 rfl ?_
          refine s_iald F (tf6_0 ha0).1 (tf6_0 ha0).2 dX6_listAt_32 rfl (fun v1 => ?_)
          exact x_iret F hnE hQ dX6_listAt_33
        · refine x_iconst F dX6_listAt_19 ⟨by decide, by decide⟩ rfl ?_
          exact x_iret F hnE hQ dX6_listAt_20
    · refine x_iconst F dX6_listAt_19 ⟨by decide, by decide⟩ rfl ?_
      exact x_iret F hnE hQ dX6_listAt_20
theorem dX6_setList_0 : decode cX6_setList 0 = .ok (.iload_n 1, 1) := by decide +kernel
theorem dX6_setList_1 : decode cX6_setList 1 = .ok (.ifCond .lt 31, 3) := by decide +kernel
theorem dX6_setList_4 : decode cX6_setList 4 = .ok (.iload_n 1, 1) := by decide +kernel
theorem dX6_setList_5 : decode cX6_setList 5 = .ok (.bipush 8, 2) := by decide +kernel
theorem dX6_setList_7 : decode cX6_setList 7 = .ok (.if_icmp .ge 25, 3) := by decide +kernel
theorem dX6_setList_10 : decode cX6_setList 10 = .ok (.iload_n 2, 1) := by decide +kernel
theorem dX6_setList_11 : decode cX6_setList 11 = .ok (.ifCond .lt 21, 3) := by decide +kernel
theorem dX6_setList_14 : decode cX6_setList 14 = .ok (.iload_n 2, 1) := by decide +kernel
theorem dX6_setList_15 : decode cX6_setList 15 = .ok (.iconst 4, 1) := by decide +kernel
theorem dX6_setList_16 : decode cX6_setList 16 = .ok (.if_icmp .ge 16, 3) := by decide +kernel
theorem dX6_setList_19 : decode cX6_setList 19 = .ok (.aload_n 0, 1) := by decide +kernel
theorem dX6_setList_20 : decode cX6_setList 20 = .ok (.getfield 11, 3) := by decide +kernel
theorem dX6_setList_23 : decode cX6_setList 23 = .ok (.iconst 0, 1) := by decide +kernel
theorem dX6_setList_24 : decode cX6_setList 24 = .ok (.iload_n 1, 1) := by decide +kernel
theorem dX6_setList_25 : decode cX6_setList 25 = .ok (.iconst 4, 1) := by decide +kernel
theorem dX6_setList_26 : decode cX6_setList 26 = .ok (.imul, 1) := by decide +kernel
theorem dX6_setList_27 : decode cX6_setList 27 = .ok (.iadd, 1) := by decide +kernel
theorem dX6_setList_28 : decode cX6_setList 28 = .ok (.iload_n 2, 1) := by decide +kernel
theorem dX6_setList_29 : decode cX6_setList 29 = .ok (.iadd, 1) := by decide +kernel
theorem dX6_setList_30 : decode cX6_setList 30 = .ok (.iload_n 3, 1) := by decide +kernel
theorem dX6_setList_31 : decode cX6_setList 31 = .ok (.iastore, 1) := by decide +kernel
theorem dX6_setList_32 : decode cX6_setList 32 = .ok (.return_, 1) := by decide +kernel
def fX6_setList (a0 : Nat) (a1 : Int) (a2 : Int) (a3 : Int) (G : Hp) : RT := if a1 < 0 then rt 0 G else (if a1 < 8 then (if a2 < 0 then rt 0 G else (if a2 < 4 then (bs (wr G ((rf a0 0)) 114 (iadd (iadd 0 (imul a1 4)) a2) a3) fun G1 => rt 0 G1) else rt 0 G)) else rt 0 G)
set_option maxRecDepth 20000 in
set_option maxHeartbeats 4000000 in
theorem tX6_setList (l : Launch) (x : WX) (hi : Inj x.2.2) (G : Hp) (a0 : Nat) (a1 : Int) (a2 : Int) (a3 : Int) (ha0 : kd a0 = 6) : Ct l x yX6_setList cX6_setList 4 none 0 129 129 [vR a0, vI a1, vI a2, vI a3] G (fX6_setList a0 a1 a2 a3 G) := by
  refine ct_of (plainFor_of_name (by decide)) hi (Nat.le_refl _) (Nat.le_refl _) (Nat.le_of_ble_eq_true rfl) (fun cx F hd hn0 hnE hl hQ => ?_)
  subst hl
  have F : Fx cx x RX6 cX6_setList 4 none := F
  show Y cx x 4 none 129 0 [(0, vR a0), (1, vI a1), (2, vI a2), (3, vI a3)] [] G _
  unfold fX6_setList
  refine x_iload_n F dX6_setList_0 rfl rfl rfl ?_
  refine x_iflt (pt := 32) F dX6_setList_1 rfl rfl ?_ ?_
  · exact x_vret F hnE hQ dX6_setList_32
  · refine x_iload_n F dX6_setList_4 rfl rfl rfl ?_
    refine x_bipush F dX6_setList_5 ⟨by decide, by decide⟩ (by decide) rfl ?_
    refine x_icmpge (pt := 32) F dX6_setList_7 rfl rfl ?_ ?_
    · refine x_iload_n F dX6_setList_10 rfl rfl rfl ?_
      refine x_iflt (pt := 32) F dX6_setList_11 rfl rfl ?_ ?_
      · exact x_vret F hnE hQ dX6_setList_32
      · refine x_iload_n F dX6_setList_14 rfl rfl rfl ?_
        refine x_iconst F dX6_setList_15 ⟨by decide, by decide⟩ rfl ?_
        refine x_icmpge (pt := 32) F dX6_setList_16 rfl rfl ?_ ?_
        · refine x_aload_n F dX6_setList_19 rfl rfl rfl ?_
          refine x_getR F flX6_11 ha0 rfl dX6_setList_20 rfl ?_
          refine x_iconst F dX6_setList_23 ⟨by decide, by decide⟩ rfl ?_
          refine x_iload_n F dX6_setList_24 rfl rfl rfl ?_
          refine x_iconst F dX6_setList_25 ⟨by decide, by decide⟩ rfl ?_
          refine x_imul F dX6_setList_26 rfl ?_
          refine x_iadd F dX6_setList_27 rfl ?_
          refine x_iload_n F dX6_setList_28 rfl rfl rfl ?_
          refine x_iadd F dX6_setList_29 rfl ?_
          refine x_iload_n F dX6_setList_30 rfl rfl rfl ?_
          refine s_iast F (tf6_0 ha0).1 (tf6_0 ha0).2 dX6_setList_31 rfl (fun G1 => ?_)
          exact x_vret F hnE hQ dX6_setList_32
        · exact x_vret F hnE hQ dX6_setList_32
    · exact x_vret F hnE hQ dX6_setList_32
theorem dX6_aheadOf_0 : decode cX6_aheadOf 0 = .ok (.iload_n 1, 1) := by decide +kernel
theorem dX6_aheadOf_1 : decode cX6_aheadOf 1 = .ok (.ifCond .lt 21, 3) := by decide +kernel
theorem dX6_aheadOf_4 : decode cX6_aheadOf 4 = .ok (.iload_n 1, 1) := by decide +kernel
theorem dX6_aheadOf_5 : decode cX6_aheadOf 5 = .ok (.bipush 8, 2) := by decide +kernel
theorem dX6_aheadOf_7 : decode cX6_aheadOf 7 = .ok (.if_icmp .ge 15, 3) := by decide +kernel
theorem dX6_aheadOf_10 : decode cX6_aheadOf 10 = .ok (.aload_n 0, 1) := by decide +kernel
theorem dX6_aheadOf_11 : decode cX6_aheadOf 11 = .ok (.getfield 11, 3) := by decide +kernel
theorem dX6_aheadOf_14 : decode cX6_aheadOf 14 = .ok (.bipush 32, 2) := by decide +kernel
theorem dX6_aheadOf_16 : decode cX6_aheadOf 16 = .ok (.iload_n 1, 1) := by decide +kernel
theorem dX6_aheadOf_17 : decode cX6_aheadOf 17 = .ok (.iadd, 1) := by decide +kernel
theorem dX6_aheadOf_18 : decode cX6_aheadOf 18 = .ok (.iaload, 1) := by decide +kernel
theorem dX6_aheadOf_19 : decode cX6_aheadOf 19 = .ok (.goto 4, 3) := by decide +kernel
theorem dX6_aheadOf_22 : decode cX6_aheadOf 22 = .ok (.iconst (-1), 1) := by decide +kernel
theorem dX6_aheadOf_23 : decode cX6_aheadOf 23 = .ok (.ireturn, 1) := by decide +kernel
def fX6_aheadOf (a0 : Nat) (a1 : Int) (G : Hp) : RT := if a1 < 0 then (rt ((-1)) G) else (if a1 < 8 then (br (rd G ((rf a0 0)) 114 (iadd 32 a1)) fun v1 => rt v1 G) else (rt ((-1)) G))
theorem pX6_aheadOf {G : Hp} {a0 : Nat} {a1 : Int} : PU G (fX6_aheadOf a0 a1 G) := by
  unfold fX6_aheadOf
  refine PU_ite ?_ ?_
  · exact PU_rt
  · refine PU_ite ?_ ?_
    · refine PU_br (fun v1 => ?_)
      exact PU_rt
    · exact PU_rt
set_option maxRecDepth 20000 in
set_option maxHeartbeats 4000000 in
theorem tX6_aheadOf (l : Launch) (x : WX) (hi : Inj x.2.2) (G : Hp) (a0 : Nat) (a1 : Int) (ha0 : kd a0 = 6) : Ct l x yX6_aheadOf cX6_aheadOf 2 (some .int) 0 129 129 [vR a0, vI a1] G (fX6_aheadOf a0 a1 G) := by
  refine ct_of (plainFor_of_name (by decide)) hi (Nat.le_refl _) (Nat.le_refl _) (Nat.le_of_ble_eq_true rfl) (fun cx F hd hn0 hnE hl hQ => ?_)
  subst hl
  have F : Fx cx x RX6 cX6_aheadOf 2 (some .int) := F
  show Y cx x 2 (some .int) 129 0 [(0, vR a0), (1, vI a1)] [] G _
  unfold fX6_aheadOf
  refine x_iload_n F dX6_aheadOf_0 rfl rfl rfl ?_
  refine x_iflt (pt := 22) F dX6_aheadOf_1 rfl rfl ?_ ?_
  · refine x_iconst F dX6_aheadOf_22 ⟨by decide, by decide⟩ rfl ?_
    exact x_iret F hnE hQ dX6_aheadOf_23
  · refine x_iload_n F dX6_aheadOf_4 rfl rfl rfl ?_
    refine x_bipush F dX6_aheadOf_5 ⟨by decide, by decide⟩ (by decide) rfl ?_
    refine x_icmpge (pt := 22) F dX6_aheadOf_7 rfl rfl ?_ ?_
    · refine x_aload_n F dX6_aheadOf_10 rfl rfl rfl ?_
      refine x_getR F flX6_11 ha0 rfl dX6_aheadOf_11 rfl ?_
      refine x_bipush F dX6_aheadOf_14 ⟨by decide, by decide⟩ (by decide) rfl ?_
      refine x_iload_n F dX6_aheadOf_16 rfl rfl rfl ?_
      refine x_iadd F dX6_aheadOf_17 rfl ?_
      refine s_iald F (tf6_0 ha0).1 (tf6_0 ha0).2 dX6_aheadOf_18 rfl (fun v1 => ?_)
      refine x_goto (pc' := 23) F dX6_aheadOf_19 rfl ?_
      exact x_iret F hnE hQ dX6_aheadOf_23
    · refine x_iconst F dX6_aheadOf_22 ⟨by decide, by decide⟩ rfl ?_
      exact x_iret F hnE hQ dX6_aheadOf_23
theorem dX6_setAhead_0 : decode cX6_setAhead 0 = .ok (.iload_n 1, 1) := by decide +kernel
theorem dX6_setAhead_1 : decode cX6_setAhead 1 = .ok (.ifCond .lt 19, 3) := by decide +kernel
theorem dX6_setAhead_4 : decode cX6_setAhead 4 = .ok (.iload_n 1, 1) := by decide +kernel
theorem dX6_setAhead_5 : decode cX6_setAhead 5 = .ok (.bipush 8, 2) := by decide +kernel
theorem dX6_setAhead_7 : decode cX6_setAhead 7 = .ok (.if_icmp .ge 13, 3) := by decide +kernel
theorem dX6_setAhead_10 : decode cX6_setAhead 10 = .ok (.aload_n 0, 1) := by decide +kernel
theorem dX6_setAhead_11 : decode cX6_setAhead 11 = .ok (.getfield 11, 3) := by decide +kernel
theorem dX6_setAhead_14 : decode cX6_setAhead 14 = .ok (.bipush 32, 2) := by decide +kernel
theorem dX6_setAhead_16 : decode cX6_setAhead 16 = .ok (.iload_n 1, 1) := by decide +kernel
theorem dX6_setAhead_17 : decode cX6_setAhead 17 = .ok (.iadd, 1) := by decide +kernel
theorem dX6_setAhead_18 : decode cX6_setAhead 18 = .ok (.iload_n 2, 1) := by decide +kernel
theorem dX6_setAhead_19 : decode cX6_setAhead 19 = .ok (.iastore, 1) := by decide +kernel
theorem dX6_setAhead_20 : decode cX6_setAhead 20 = .ok (.return_, 1) := by decide +kernel
def fX6_setAhead (a0 : Nat) (a1 : Int) (a2 : Int) (G : Hp) : RT := if a1 < 0 then rt 0 G else (if a1 < 8 then (bs (wr G ((rf a0 0)) 114 (iadd 32 a1) a2) fun G1 => rt 0 G1) else rt 0 G)
set_option maxRecDepth 20000 in
set_option maxHeartbeats 4000000 in
theorem tX6_setAhead (l : Launch) (x : WX) (hi : Inj x.2.2) (G : Hp) (a0 : Nat) (a1 : Int) (a2 : Int) (ha0 : kd a0 = 6) : Ct l x yX6_setAhead cX6_setAhead 3 none 0 129 129 [vR a0, vI a1, vI a2] G (fX6_setAhead a0 a1 a2 G) := by
  refine ct_of (plainFor_of_name (by decide)) hi (Nat.le_refl _) (Nat.le_refl _) (Nat.le_of_ble_eq_true rfl) (fun cx F hd hn0 hnE hl hQ => ?_)
  subst hl
  have F : Fx cx x RX6 cX6_setAhead 3 none := F
  show Y cx x 3 none 129 0 [(0, vR a0), (1, vI a1), (2, vI a2)] [] G _
  unfold fX6_setAhead
  refine x_iload_n F dX6_setAhead_0 rfl rfl rfl ?_
  refine x_iflt (pt := 20) F dX6_setAhead_1 rfl rfl ?_ ?_
  · exact x_vret F hnE hQ dX6_setAhead_20
  · refine x_iload_n F dX6_setAhead_4 rfl rfl rfl ?_
    refine x_bipush F dX6_setAhead_5 ⟨by decide, by decide⟩ (by decide) rfl ?_
    refine x_icmpge (pt := 20) F dX6_setAhead_7 rfl rfl ?_ ?_
    · refine x_aload_n F dX6_setAhead_10 rfl rfl rfl ?_
      refine x_getR F flX6_11 ha0 rfl dX6_setAhead_11 rfl ?_
      refine x_bipush F dX6_setAhead_14 ⟨by decide, by decide⟩ (by decide) rfl ?_
      refine x_iload_n F dX6_setAhead_16 rfl rfl rfl ?_
      refine x_iadd F dX6_setAhead_17 rfl ?_
      refine x_iload_n F dX6_setAhead_18 rfl rfl rfl ?_
      refine s_iast F (tf6_0 ha0).1 (tf6_0 ha0).2 dX6_setAhead_19 rfl (fun G1 => ?_)
      exact x_vret F hnE hQ dX6_setAhead_20
    · exact x_vret F hnE hQ dX6_setAhead_20
theorem dX6_fingerAt_0 : decode cX6_fingerAt 0 = .ok (.iload_n 1, 1) := by decide +kernel
theorem dX6_fingerAt_1 : decode cX6_fingerAt 1 = .ok (.ifCond .lt 19, 3) := by decide +kernel
theorem dX6_fingerAt_4 : decode cX6_fingerAt 4 = .ok (.iload_n 1, 1) := by decide +kernel
theorem dX6_fingerAt_5 : decode cX6_fingerAt 5 = .ok (.bipush 8, 2) := by decide +kernel
theorem dX6_fingerAt_7 : decode cX6_fingerAt 7 = .ok (.if_icmp .ge 13, 3) := by decide +kernel
theorem dX6_fingerAt_10 : decode cX6_fingerAt 10 = .ok (.iload_n 2, 1) := by decide +kernel
theorem dX6_fingerAt_11 : decode cX6_fingerAt 11 = .ok (.ifCond .lt 9, 3) := by decide +kernel
theorem dX6_fingerAt_14 : decode cX6_fingerAt 14 = .ok (.iload_n 2, 1) := by decide +kernel
theorem dX6_fingerAt_15 : decode cX6_fingerAt 15 = .ok (.bipush 8, 2) := by decide +kernel
theorem dX6_fingerAt_17 : decode cX6_fingerAt 17 = .ok (.if_icmp .lt 5, 3) := by decide +kernel
theorem dX6_fingerAt_20 : decode cX6_fingerAt 20 = .ok (.iconst (-1), 1) := by decide +kernel
theorem dX6_fingerAt_21 : decode cX6_fingerAt 21 = .ok (.ireturn, 1) := by decide +kernel
theorem dX6_fingerAt_22 : decode cX6_fingerAt 22 = .ok (.aload_n 0, 1) := by decide +kernel
theorem dX6_fingerAt_23 : decode cX6_fingerAt 23 = .ok (.getfield 11, 3) := by decide +kernel
theorem dX6_fingerAt_26 : decode cX6_fingerAt 26 = .ok (.bipush 40, 2) := by decide +kernel
theorem dX6_fingerAt_28 : decode cX6_fingerAt 28 = .ok (.iload_n 1, 1) := by decide +kernel
theorem dX6_fingerAt_29 : decode cX6_fingerAt 29 = .ok (.bipush 8, 2) := by decide +kernel
theorem dX6_fingerAt_31 : decode cX6_fingerAt 31 = .ok (.imul, 1) := by decide +kernel
theorem dX6_fingerAt_32 : decode cX6_fingerAt 32 = .ok (.iadd, 1) := by decide +kernel
theorem dX6_fingerAt_33 : decode cX6_fingerAt 33 = .ok (.iload_n 2, 1) := by decide +kernel
theorem dX6_fingerAt_34 : decode cX6_fingerAt 34 = .ok (.iadd, 1) := by decide +kernel
theorem dX6_fingerAt_35 : decode cX6_fingerAt 35 = .ok (.iaload, 1) := by decide +kernel
theorem dX6_fingerAt_36 : decode cX6_fingerAt 36 = .ok (.ireturn, 1) := by decide +kernel
def fX6_fingerAt (a0 : Nat) (a1 : Int) (a2 : Int) (G : Hp) : RT := if a1 < 0 then (rt ((-1)) G) else (if a1 < 8 then (if a2 < 0 then (rt ((-1)) G) else (if a2 < 8 then (br (rd G ((rf a0 0)) 114 (iadd (iadd 40 (imul a1 8)) a2)) fun v1 => rt v1 G) else (rt ((-1)) G))) else (rt ((-1)) G))
theorem pX6_fingerAt {G : Hp} {a0 : Nat} {a1 : Int} {a2 : Int} : PU G (fX6_fingerAt a0 a1 a2 G) := by
  unfold fX6_fingerAt
  refine PU_ite ?_ ?_
  · exact PU_rt
  · refine PU_ite ?_ ?_
    · refine PU_ite ?_ ?_
      · exact PU_rt
      · refine PU_ite ?_ ?_
        · refine PU_br (fun v1 => ?_)
          exact PU_rt
        · exact PU_rt
    · exact PU_rt
set_option maxRecDepth 20000 in
set_option maxHeartbeats 4000000 in
theorem tX6_fingerAt (l : Launch) (x : WX) (hi : Inj x.2.2) (G : Hp) (a0 : Nat) (a1 : Int) (a2 : Int) (ha0 : kd a0 = 6) : Ct l x yX6_fingerAt cX6_fingerAt 3 (some .int) 0 129 129 [vR a0, vI a1, vI a2] G (fX6_fingerAt a0 a1 a2 G) := by
  refine ct_of (plainFor_of_name (by decide)) hi (Nat.le_refl _) (Nat.le_refl _) (Nat.le_of_ble_eq_true rfl) (fun cx F hd hn0 hnE hl hQ => ?_)
  subst hl
  have F : Fx cx x RX6 cX6_fingerAt 3 (some .int) := F
  show Y cx x 3 (some .int) 129 0 [(0, vR a0), (1, vI a1), (2, vI a2)] [] G _
  unfold fX6_fingerAt
  refine x_iload_n F dX6_fingerAt_0 rfl rfl rfl ?_
  refine x_iflt (pt := 20) F dX6_fingerAt_1 rfl rfl ?_ ?_
  · refine x_iconst F dX6_fingerAt_20 ⟨by decide, by decide⟩ rfl ?_
    exact x_iret F hnE hQ dX6_fingerAt_21
  · refine x_iload_n F dX6_fingerAt_4 rfl rfl rfl ?_
    refine x_bipush F dX6_fingerAt_5 ⟨by decide, by decide⟩ (by decide) rfl ?_
    refine x_icmpge (pt := 20) F dX6_fingerAt_7 rfl rfl ?_ ?_
    · refine x_iload_n F dX6_fingerAt_10 rfl rfl rfl ?_
      refine x_iflt (pt := 20) F dX6_fingerAt_11 rfl rfl ?_ ?_
      · refine x_iconst F dX6_fingerAt_20 ⟨by decide, by decide⟩ rfl ?_
        exact x_iret F hnE hQ dX6_fingerAt_21
      · refine x_iload_n F dX6_fingerAt_14 rfl rfl rfl ?_
        refine x_bipush F dX6_fingerAt_15 ⟨by decide, by decide⟩ (by decide) rfl ?_
        refine x_icmplt (pt := 22) F dX6_fingerAt_17 rfl rfl ?_ ?_
        · refine x_aload_n F dX6_fingerAt_22 rfl rfl rfl ?_
          refine x_getR F flX6_11 ha0 rfl dX6_fingerAt_23 rfl ?_
          refine x_bipush F dX6_fingerAt_26 ⟨by decide, by decide⟩ (by decide) rfl ?_
          refine x_iload_n F dX6_fingerAt_28 rfl rfl rfl ?_
          refine x_bipush F dX6_fingerAt_29 ⟨by decide, by decide⟩ (by decide) rfl ?_
          refine x_imul F dX6_fingerAt_31 rfl ?_
          refine x_iadd F dX6_fingerAt_32 rfl ?_
          refine x_iload_n F dX6_fingerAt_33 rfl rfl rfl ?_
          refine x_iadd F dX6_fingerAt_34 rfl ?_
          refine s_iald F (tf6_0 ha0).1 (tf6_0 ha0).2 dX6_fingerAt_35 rfl (fun v1 => ?_)
          exact x_iret F hnE hQ dX6_fingerAt_36
        · refine x_iconst F dX6_fingerAt_20 ⟨by decide, by decide⟩ rfl ?_
          exact x_iret F hnE hQ dX6_fingerAt_21
    · refine x_iconst F dX6_fingerAt_20 ⟨by decide, by decide⟩ rfl ?_
      exact x_iret F hnE hQ dX6_fingerAt_21
theorem dX6_setFinger_0 : decode cX6_setFinger 0 = .ok (.iload_n 1, 1) := by decide +kernel
theorem dX6_setFinger_1 : decode cX6_setFinger 1 = .ok (.ifCond .lt 34, 3) := by decide +kernel
theorem dX6_setFinger_4 : decode cX6_setFinger 4 = .ok (.iload_n 1, 1) := by decide +kernel
theorem dX6_setFinger_5 : decode cX6_setFinger 5 = .ok (.bipush 8, 2) := by decide +kernel
theorem dX6_setFinger_7 : decode cX6_setFinger 7 = .ok (.if_icmp .ge 28, 3) := by decide +kernel
theorem dX6_setFinger_10 : decode cX6_setFinger 10 = .ok (.iload_n 2, 1) := by decide +kernel
theorem dX6_setFinger_11 : decode cX6_setFinger 11 = .ok (.ifCond .lt 24, 3) := by decide +kernel
theorem dX6_setFinger_14 : decode cX6_setFinger 14 = .ok (.iload_n 2, 1) := by decide +kernel
theorem dX6_setFinger_15 : decode cX6_setFinger 15 = .ok (.bipush 8, 2) := by decide +kernel
theorem dX6_setFinger_17 : decode cX6_setFinger 17 = .ok (.if_icmp .ge 18, 3) := by decide +kernel
theorem dX6_setFinger_20 : decode cX6_setFinger 20 = .ok (.aload_n 0, 1) := by decide +kernel
theorem dX6_setFinger_21 : decode cX6_setFinger 21 = .ok (.getfield 11, 3) := by decide +kernel
theorem dX6_setFinger_24 : decode cX6_setFinger 24 = .ok (.bipush 40, 2) := by decide +kernel
theorem dX6_setFinger_26 : decode cX6_setFinger 26 = .ok (.iload_n 1, 1) := by decide +kernel
theorem dX6_setFinger_27 : decode cX6_setFinger 27 = .ok (.bipush 8, 2) := by decide +kernel
theorem dX6_setFinger_29 : decode cX6_setFinger 29 = .ok (.imul, 1) := by decide +kernel
theorem dX6_setFinger_30 : decode cX6_setFinger 30 = .ok (.iadd, 1) := by decide +kernel
theorem dX6_setFinger_31 : decode cX6_setFinger 31 = .ok (.iload_n 2, 1) := by decide +kernel
theorem dX6_setFinger_32 : decode cX6_setFinger 32 = .ok (.iadd, 1) := by decide +kernel
theorem dX6_setFinger_33 : decode cX6_setFinger 33 = .ok (.iload_n 3, 1) := by decide +kernel
theorem dX6_setFinger_34 : decode cX6_setFinger 34 = .ok (.iastore, 1) := by decide +kernel
theorem dX6_setFinger_35 : decode cX6_setFinger 35 = .ok (.return_, 1) := by decide +kernel
def fX6_setFinger (a0 : Nat) (a1 : Int) (a2 : Int) (a3 : Int) (G : Hp) : RT := if a1 < 0 then rt 0 G else (if a1 < 8 then (if a2 < 0 then rt 0 G else (if a2 < 8 then (bs (wr G ((rf a0 0)) 114 (iadd (iadd 40 (imul a1 8)) a2) a3) fun G1 => rt 0 G1) else rt 0 G)) else rt 0 G)
set_option maxRecDepth 20000 in
set_option maxHeartbeats 4000000 in
theorem tX6_setFinger (l : Launch) (x : WX) (hi : Inj x.2.2) (G : Hp) (a0 : Nat) (a1 : Int) (a2 : Int) (a3 : Int) (ha0 : kd a0 = 6) : Ct l x yX6_setFinger cX6_setFinger 4 none 0 129 129 [vR a0, vI a1, vI a2, vI a3] G (fX6_setFinger a0 a1 a2 a3 G) := by
  refine ct_of (plainFor_of_name (by decide)) hi (Nat.le_refl _) (Nat.le_refl _) (Nat.le_of_ble_eq_true rfl) (fun cx F hd hn0 hnE hl hQ => ?_)
  subst hl
  have F : Fx cx x RX6 cX6_setFinger 4 none := F
  show Y cx x 4 none 129 0 [(0, vR a0), (1, vI a1), (2, vI a2), (3, vI a3)] [] G _
  unfold fX6_setFinger
  refine x_iload_n F dX6_setFinger_0 rfl rfl rfl ?_
  refine x_iflt (pt := 35) F dX6_setFinger_1 rfl rfl ?_ ?_
  · exact x_vret F hnE hQ dX6_setFinger_35
  · refine x_iload_n F dX6_setFinger_4 rfl rfl rfl ?_
    refine x_bipush F dX6_setFinger_5 ⟨by decide, by decide⟩ (by decide) rfl ?_
    refine x_icmpge (pt := 35) F dX6_setFinger_7 rfl rfl ?_ ?_
    · refine x_iload_n F dX6_setFinger_10 rfl rfl rfl ?_
      refine x_iflt (pt := 35) F dX6_setFinger_11 rfl rfl ?_ ?_
      · exact x_vret F hnE hQ dX6_setFinger_35
      · refine x_iload_n F dX6_setFinger_14 rfl rfl rfl ?_
        refine x_bipush F dX6_setFinger_15 ⟨by decide, by decide⟩ (by decide) rfl ?_
        refine x_icmpge (pt := 35) F dX6_setFinger_17 rfl rfl ?_ ?_
        · refine x_aload_n F dX6_setFinger_20 rfl rfl rfl ?_
          refine x_getR F flX6_11 ha0 rfl dX6_setFinger_21 rfl ?_
          refine x_bipush F dX6_setFinger_24 ⟨by decide, by decide⟩ (by decide) rfl ?_
          refine x_iload_n F dX6_setFinger_26 rfl rfl rfl ?_
          refine x_bipush F dX6_setFinger_27 ⟨by decide, by decide⟩ (by decide) rfl ?_
          refine x_imul F dX6_setFinger_29 rfl ?_
          refine x_iadd F dX6_setFinger_30 rfl ?_
          refine x_iload_n F dX6_setFinger_31 rfl rfl rfl ?_
          refine x_iadd F dX6_setFinger_32 rfl ?_
          refine x_iload_n F dX6_setFinger_33 rfl rfl rfl ?_
          refine s_iast F (tf6_0 ha0).1 (tf6_0 ha0).2 dX6_setFinger_34 rfl (fun G1 => ?_)
          exact x_vret F hnE hQ dX6_setFinger_35
        · exact x_vret F hnE hQ dX6_setFinger_35
    · exact x_vret F hnE hQ dX6_setFinger_35
theorem dX6_holderOf_0 : decode cX6_holderOf 0 = .ok (.iload_n 1, 1) := by decide +kernel
theorem dX6_holderOf_1 : decode cX6_holderOf 1 = .ok (.ifCond .lt 21, 3) := by decide +kernel
theorem dX6_holderOf_4 : decode cX6_holderOf 4 = .ok (.iload_n 1, 1) := by decide +kernel
theorem dX6_holderOf_5 : decode cX6_holderOf 5 = .ok (.bipush 10, 2) := by decide +kernel
theorem dX6_holderOf_7 : decode cX6_holderOf 7 = .ok (.if_icmp .ge 15, 3) := by decide +kernel
theorem dX6_holderOf_10 : decode cX6_holderOf 10 = .ok (.aload_n 0, 1) := by decide +kernel
theorem dX6_holderOf_11 : decode cX6_holderOf 11 = .ok (.getfield 11, 3) := by decide +kernel
theorem dX6_holderOf_14 : decode cX6_holderOf 14 = .ok (.bipush 104, 2) := by decide +kernel
theorem dX6_holderOf_16 : decode cX6_holderOf 16 = .ok (.iload_n 1, 1) := by decide +kernel
theorem dX6_holderOf_17 : decode cX6_holderOf 17 = .ok (.iadd, 1) := by decide +kernel
theorem dX6_holderOf_18 : decode cX6_holderOf 18 = .ok (.iaload, 1) := by decide +kernel
theorem dX6_holderOf_19 : decode cX6_holderOf 19 = .ok (.goto 4, 3) := by decide +kernel
theorem dX6_holderOf_22 : decode cX6_holderOf 22 = .ok (.iconst (-1), 1) := by decide +kernel
theorem dX6_holderOf_23 : decode cX6_holderOf 23 = .ok (.ireturn, 1) := by decide +kernel
def fX6_holderOf (a0 : Nat) (a1 : Int) (G : Hp) : RT := if a1 < 0 then (rt ((-1)) G) else (if a1 < 10 then (br (rd G ((rf a0 0)) 114 (iadd 104 a1)) fun v1 => rt v1 G) else (rt ((-1)) G))
theorem pX6_holderOf {G : Hp} {a0 : Nat} {a1 : Int} : PU G (fX6_holderOf a0 a1 G) := by
  unfold fX6_holderOf
  refine PU_ite ?_ ?_
  · exact PU_rt
  · refine PU_ite ?_ ?_
    · refine PU_br (fun v1 => ?_)
      exact PU_rt
    · exact PU_rt
set_option maxRecDepth 20000 in
set_option maxHeartbeats 4000000 in
theorem tX6_holderOf (l : Launch) (x : WX) (hi : Inj x.2.2) (G : Hp) (a0 : Nat) (a1 : Int) (ha0 : kd a0 = 6) : Ct l x yX6_holderOf cX6_holderOf 2 (some .int) 0 129 129 [vR a0, vI a1] G (fX6_holderOf a0 a1 G) := by
  refine ct_of (plainFor_of_name (by decide)) hi (Nat.le_refl _) (Nat.le_refl _) (Nat.le_of_ble_eq_true rfl) (fun cx F hd hn0 hnE hl hQ => ?_)
  subst hl
  have F : Fx cx x RX6 cX6_holderOf 2 (some .int) := F
  show Y cx x 2 (some .int) 129 0 [(0, vR a0), (1, vI a1)] [] G _
  unfold fX6_holderOf
  refine x_iload_n F dX6_holderOf_0 rfl rfl rfl ?_
  refine x_iflt (pt := 22) F dX6_holderOf_1 rfl rfl ?_ ?_
  · refine x_iconst F dX6_holderOf_22 ⟨by decide, by decide⟩ rfl ?_
    exact x_iret F hnE hQ dX6_holderOf_23
  · refine x_iload_n F dX6_holderOf_4 rfl rfl rfl ?_
    refine x_bipush F dX6_holderOf_5 ⟨by decide, by decide⟩ (by decide) rfl ?_
    refine x_icmpge (pt := 22) F dX6_holderOf_7 rfl rfl ?_ ?_
    · refine x_aload_n F dX6_holderOf_10 rfl rfl rfl ?_
      refine x_getR F flX6_11 ha0 rfl dX6_holderOf_11 rfl ?_
      refine x_bipush F dX6_holderOf_14 ⟨by decide, by decide⟩ (by decide) rfl ?_
      refine x_iload_n F dX6_holderOf_16 rfl rfl rfl ?_
      refine x_iadd F dX6_holderOf_17 rfl ?_
      refine s_iald F (tf6_0 ha0).1 (tf6_0 ha0).2 dX6_holderOf_18 rfl (fun v1 => ?_)
      refine x_goto (pc' := 23) F dX6_holderOf_19 rfl ?_
      exact x_iret F hnE hQ dX6_holderOf_23
    · refine x_iconst F dX6_holderOf_22 ⟨by decide, by decide⟩ rfl ?_
      exact x_iret F hnE hQ dX6_holderOf_23
theorem dX6_setHolder_0 : decode cX6_setHolder 0 = .ok (.iload_n 1, 1) := by decide +kernel
theorem dX6_setHolder_1 : decode cX6_setHolder 1 = .ok (.ifCond .lt 19, 3) := by decide +kernel
theorem dX6_setHolder_4 : decode cX6_setHolder 4 = .ok (.iload_n 1, 1) := by decide +kernel
theorem dX6_setHolder_5 : decode cX6_setHolder 5 = .ok (.bipush 10, 2) := by decide +kernel
theorem dX6_setHolder_7 : decode cX6_setHolder 7 = .ok (.if_icmp .ge 13, 3) := by decide +kernel
theorem dX6_setHolder_10 : decode cX6_setHolder 10 = .ok (.aload_n 0, 1) := by decide +kernel
theorem dX6_setHolder_11 : decode cX6_setHolder 11 = .ok (.getfield 11, 3) := by decide +kernel
theorem dX6_setHolder_14 : decode cX6_setHolder 14 = .ok (.bipush 104, 2) := by decide +kernel
theorem dX6_setHolder_16 : decode cX6_setHolder 16 = .ok (.iload_n 1, 1) := by decide +kernel
theorem dX6_setHolder_17 : decode cX6_setHolder 17 = .ok (.iadd, 1) := by decide +kernel
theorem dX6_setHolder_18 : decode cX6_setHolder 18 = .ok (.iload_n 2, 1) := by decide +kernel
theorem dX6_setHolder_19 : decode cX6_setHolder 19 = .ok (.iastore, 1) := by decide +kernel
theorem dX6_setHolder_20 : decode cX6_setHolder 20 = .ok (.return_, 1) := by decide +kernel
def fX6_setHolder (a0 : Nat) (a1 : Int) (a2 : Int) (G : Hp) : RT := if a1 < 0 then rt 0 G else (if a1 < 10 then (bs (wr G ((rf a0 0)) 114 (iadd 104 a1) a2) fun G1 => rt 0 G1) else rt 0 G)
set_option maxRecDepth 20000 in
set_option maxHeartbeats 4000000 in
theorem tX6_setHolder (l : Launch) (x : WX) (hi : Inj x.2.2) (G : Hp) (a0 : Nat) (a1 : Int) (a2 : Int) (ha0 : kd a0 = 6) : Ct l x yX6_setHolder cX6_setHolder 3 none 0 129 129 [vR a0, vI a1, vI a2] G (fX6_setHolder a0 a1 a2 G) := by
  refine ct_of (plainFor_of_name (by decide)) hi (Nat.le_refl _) (Nat.le_refl _) (Nat.le_of_ble_eq_true rfl) (fun cx F hd hn0 hnE hl hQ => ?_)
  subst hl
  have F : Fx cx x RX6 cX6_setHolder 3 none := F
  show Y cx x 3 none 129 0 [(0, vR a0), (1, vI a1), (2, vI a2)] [] G _
  unfold fX6_setHolder
  refine x_iload_n F dX6_setHolder_0 rfl rfl rfl ?_
  refine x_iflt (pt := 20) F dX6_setHolder_1 rfl rfl ?_ ?_
  · exact x_vret F hnE hQ dX6_setHolder_20
  · refine x_iload_n F dX6_setHolder_4 rfl rfl rfl ?_
    refine x_bipush F dX6_setHolder_5 ⟨by decide, by decide⟩ (by decide) rfl ?_
    refine x_icmpge (pt := 20) F dX6_setHolder_7 rfl rfl ?_ ?_
    · refine x_aload_n F dX6_setHolder_10 rfl rfl rfl ?_
      refine x_getR F flX6_11 ha0 rfl dX6_setHolder_11 rfl ?_
      refine x_bipush F dX6_setHolder_14 ⟨by decide, by decide⟩ (by decide) rfl ?_
      refine x_iload_n F dX6_setHolder_16 rfl rfl rfl ?_
      refine x_iadd F dX6_setHolder_17 rfl ?_
      refine x_iload_n F dX6_setHolder_18 rfl rfl rfl ?_
      refine s_iast F (tf6_0 ha0).1 (tf6_0 ha0).2 dX6_setHolder_19 rfl (fun G1 => ?_)
      exact x_vret F hnE hQ dX6_setHolder_20
    · exact x_vret F hnE hQ dX6_setHolder_20
theorem dX6_heldBy_0 : decode cX6_heldBy 0 = .ok (.iconst 0, 1) := by decide +kernel
theorem dX6_heldBy_1 : decode cX6_heldBy 1 = .ok (.istore_n 2, 1) := by decide +kernel
theorem dX6_heldBy_2 : decode cX6_heldBy 2 = .ok (.iconst 0, 1) := by decide +kernel
theorem dX6_heldBy_3 : decode cX6_heldBy 3 = .ok (.istore_n 3, 1) := by decide +kernel
theorem dX6_heldBy_4 : decode cX6_heldBy 4 = .ok (.iload_n 3, 1) := by decide +kernel
theorem dX6_heldBy_5 : decode cX6_heldBy 5 = .ok (.bipush 10, 2) := by decide +kernel
theorem dX6_heldBy_7 : decode cX6_heldBy 7 = .ok (.if_icmp .ge 28, 3) := by decide +kernel
theorem dX6_heldBy_10 : decode cX6_heldBy 10 = .ok (.aload_n 0, 1) := by decide +kernel
theorem dX6_heldBy_11 : decode cX6_heldBy 11 = .ok (.getfield 11, 3) := by decide +kernel
theorem dX6_heldBy_14 : decode cX6_heldBy 14 = .ok (.bipush 104, 2) := by decide +kernel
theorem dX6_heldBy_16 : decode cX6_heldBy 16 = .ok (.iload_n 3, 1) := by decide +kernel
theorem dX6_heldBy_17 : decode cX6_heldBy 17 = .ok (.iadd, 1) := by decide +kernel
theorem dX6_heldBy_18 : decode cX6_heldBy 18 = .ok (.iaload, 1) := by decide +kernel
theorem dX6_heldBy_19 : decode cX6_heldBy 19 = .ok (.iload_n 1, 1) := by decide +kernel
theorem dX6_heldBy_20 : decode cX6_heldBy 20 = .ok (.if_icmp .ne 9, 3) := by decide +kernel
theorem dX6_heldBy_23 : decode cX6_heldBy 23 = .ok (.iload_n 2, 1) := by decide +kernel
theorem dX6_heldBy_24 : decode cX6_heldBy 24 = .ok (.iconst 1, 1) := by decide +kernel
theorem dX6_heldBy_25 : decode cX6_heldBy 25 = .ok (.iload_n 3, 1) := by decide +kernel
theorem dX6_heldBy_26 : decode cX6_heldBy 26 = .ok (.ishl, 1) := by decide +kernel
theorem dX6_heldBy_27 : decode cX6_heldBy 27 = .ok (.ior, 1) := by decide +kernel
theorem dX6_heldBy_28 : decode cX6_heldBy 28 = .ok (.istore_n 2, 1) := by decide +kernel
theorem dX6_heldBy_29 : decode cX6_heldBy 29 = .ok (.iinc 3 1, 3) := by decide +kernel
theorem dX6_heldBy_32 : decode cX6_heldBy 32 = .ok (.goto (-28), 3) := by decide +kernel
theorem dX6_heldBy_35 : decode cX6_heldBy 35 = .ok (.iload_n 2, 1) := by decide +kernel
theorem dX6_heldBy_36 : decode cX6_heldBy 36 = .ok (.ireturn, 1) := by decide +kernel
def fX6_heldBy (a0 : Nat) (a1 : Int) (G : Hp) : RT := bd 0 fun v1 => bd 0 fun v2 => (lp (fun (_ : Int) (_ : Int) => (none : RT)) 5000 (fun (rc5 : Int → Int → RT) (v3 : Int) (v4 : Int) => if v4 < 10 then (br (rd G ((rf a0 0)) 114 (iadd 104 v4)) fun v6 => jn (fun (v7 : Int) => bd (iadd v4 1) fun v9 => rc5 v7 v9) fun (K8 : Int → RT) => if v6 = a1 then (bd (ior v3 (ishl 1 v4)) fun v10 => K8 v10) else K8 v3) else rt v3 G)) v1 v2
theorem pX6_heldBy {G : Hp} {a0 : Nat} {a1 : Int} : PU G (fX6_heldBy a0 a1 G) := by
  unfold fX6_heldBy
  refine PU_bd (fun v1 => ?_)
  refine PU_bd (fun v2 => ?_)
  refine x_lp (fun (rc5 : Int → Int → RT) => ∀ (v3 : Int) (v4 : Int), PU G (rc5 v3 v4)) (fun _ _ => PU_none) (fun rc5 phrc5 v3 v4 => ?_) 5000 v1 v2
  refine PU_ite ?_ ?_
  · refine PU_br (fun v6 => ?_)
    refine PU_jn (fun (K8 : Int → RT) => ∀ (v7 : Int), PU G (K8 v7)) ?_ (fun K8 phK8 => ?_)
    · intro v7
      refine PU_bd (fun v9 => ?_)
      exact phrc5 v7 v9
    · refine PU_ite ?_ ?_
      · refine PU_bd (fun v10 => ?_)
        exact phK8 v10
      · exact phK8 v3
  · exact PU_rt
set_option maxRecDepth 20000 in
set_option maxHeartbeats 4000000 in
theorem tX6_heldBy (l : Launch) (x : WX) (hi : Inj x.2.2) (G : Hp) (a0 : Nat) (a1 : Int) (ha0 : kd a0 = 6) : Ct l x yX6_heldBy cX6_heldBy 4 (some .int) 0 129 129 [vR a0, vI a1] G (fX6_heldBy a0 a1 G) := by
  refine ct_of (plainFor_of_name (by decide)) hi (Nat.le_refl _) (Nat.le_refl _) (Nat.le_of_ble_eq_true rfl) (fun cx F hd hn0 hnE hl hQ => ?_)
  subst hl
  have F : Fx cx x RX6 cX6_heldBy 4 (some .int) := F
  show Y cx x 4 (some .int) 129 0 [(0, vR a0), (1, vI a1)] [] G _
  unfold fX6_heldBy
  refine x_iconst F dX6_heldBy_0 ⟨by decide, by decide⟩ rfl ?_
  refine x_istore_n F dX6_heldBy_1 rfl (by decide) rfl rfl (fun v1 => ?_)
  show Y cx x _ _ _ _ [(0, vR a0), (1, vI a1), (2, vI v1)] _ _ _
  refine x_iconst F dX6_heldBy_2 ⟨by decide, by decide⟩ rfl ?_
  refine x_istore_n F dX6_heldBy_3 rfl (by decide) rfl rfl (fun v2 => ?_)
  show Y cx x _ _ _ _ [(0, vR a0), (1, vI a1), (2, vI v1), (3, vI v2)] _ _ _
  refine x_lp (fun (rc5 : Int → Int → RT) => ∀ (v3 : Int) (v4 : Int), Y cx x 4 (some .int) 129 4 [(0, vR a0), (1, vI a1), (2, vI v3), (3, vI v4)] [] G (rc5 v3 v4)) (fun _ _ => Y_none) (fun rc5 hrc5 v3 v4 => ?_) 5000 v1 v2
  refine x_iload_n F dX6_heldBy_4 rfl rfl rfl ?_
  refine x_bipush F dX6_heldBy_5 ⟨by decide, by decide⟩ (by decide) rfl ?_
  refine x_icmpge (pt := 35) F dX6_heldBy_7 rfl rfl ?_ ?_
  · refine x_aload_n F dX6_heldBy_10 rfl rfl rfl ?_
    refine x_getR F flX6_11 ha0 rfl dX6_heldBy_11 rfl ?_
    refine x_bipush F dX6_heldBy_14 ⟨by decide, by decide⟩ (by decide) rfl ?_
    refine x_iload_n F dX6_heldBy_16 rfl rfl rfl ?_
    refine x_iadd F dX6_heldBy_17 rfl ?_
    refine s_iald F (tf6_0 ha0).1 (tf6_0 ha0).2 dX6_heldBy_18 rfl (fun v6 => ?_)
    refine x_iload_n F dX6_heldBy_19 rfl rfl rfl ?_
    refine x_jn (fun (K8 : Int → RT) => ∀ (v7 : Int), Y cx x 4 (some .int) 129 29 [(0, vR a0), (1, vI a1), (2, vI v7), (3, vI v4)] [] G (K8 v7)) ?_ (fun K8 hK8 => ?_)
    · intro v7
      refine x_iinc F dX6_heldBy_29 rfl (by decide) rfl rfl (fun v9 => ?_)
      show Y cx x _ _ _ _ [(0, vR a0), (1, vI a1), (2, vI v7), (3, vI v9)] _ _ _
      refine x_goto (pc' := 4) F dX6_heldBy_32 rfl ?_
      exact hrc5 v7 v9
    · refine x_icmpne (pt := 29) F dX6_heldBy_20 rfl rfl ?_ ?_
      · refine x_iload_n F dX6_heldBy_23 rfl rfl rfl ?_
        refine x_iconst F dX6_heldBy_24 ⟨by decide, by decide⟩ rfl ?_
        refine x_iload_n F dX6_heldBy_25 rfl rfl rfl ?_
        refine x_ishl F dX6_heldBy_26 rfl ?_
        refine x_ior F dX6_heldBy_27 rfl ?_
        refine x_istore_n F dX6_heldBy_28 rfl (by decide) rfl rfl (fun v10 => ?_)
        show Y cx x _ _ _ _ [(0, vR a0), (1, vI a1), (2, vI v10), (3, vI v4)] _ _ _
        exact hK8 v10
      · exact hK8 v3
  · refine x_iload_n F dX6_heldBy_35 rfl rfl rfl ?_
    exact x_iret F hnE hQ dX6_heldBy_36
theorem dX6_heldKeys_0 : decode cX6_heldKeys 0 = .ok (.iconst 0, 1) := by decide +kernel
theorem dX6_heldKeys_1 : decode cX6_heldKeys 1 = .ok (.istore_n 1, 1) := by decide +kernel
theorem dX6_heldKeys_2 : decode cX6_heldKeys 2 = .ok (.iconst 0, 1) := by decide +kernel
theorem dX6_heldKeys_3 : decode cX6_heldKeys 3 = .ok (.istore_n 2, 1) := by decide +kernel
theorem dX6_heldKeys_4 : decode cX6_heldKeys 4 = .ok (.iload_n 2, 1) := by decide +kernel
theorem dX6_heldKeys_5 : decode cX6_heldKeys 5 = .ok (.bipush 10, 2) := by decide +kernel
theorem dX6_heldKeys_7 : decode cX6_heldKeys 7 = .ok (.if_icmp .ge 25, 3) := by decide +kernel
theorem dX6_heldKeys_10 : decode cX6_heldKeys 10 = .ok (.aload_n 0, 1) := by decide +kernel
theorem dX6_heldKeys_11 : decode cX6_heldKeys 11 = .ok (.getfield 11, 3) := by decide +kernel
theorem dX6_heldKeys_14 : decode cX6_heldKeys 14 = .ok (.bipush 104, 2) := by decide +kernel
theorem dX6_heldKeys_16 : decode cX6_heldKeys 16 = .ok (.iload_n 2, 1) := by decide +kernel
theorem dX6_heldKeys_17 : decode cX6_heldKeys 17 = .ok (.iadd, 1) := by decide +kernel
theorem dX6_heldKeys_18 : decode cX6_heldKeys 18 = .ok (.iaload, 1) := by decide +kernel
theorem dX6_heldKeys_19 : decode cX6_heldKeys 19 = .ok (.iconst (-1), 1) := by decide +kernel
theorem dX6_heldKeys_20 : decode cX6_heldKeys 20 = .ok (.if_icmp .eq 6, 3) := by decide +kernel
theorem dX6_heldKeys_23 : decode cX6_heldKeys 23 = .ok (.iinc 1 1, 3) := by decide +kernel
theorem dX6_heldKeys_26 : decode cX6_heldKeys 26 = .ok (.iinc 2 1, 3) := by decide +kernel
theorem dX6_heldKeys_29 : decode cX6_heldKeys 29 = .ok (.goto (-25), 3) := by decide +kernel
theorem dX6_heldKeys_32 : decode cX6_heldKeys 32 = .ok (.iload_n 1, 1) := by decide +kernel
theorem dX6_heldKeys_33 : decode cX6_heldKeys 33 = .ok (.ireturn, 1) := by decide +kernel
def fX6_heldKeys (a0 : Nat) (G : Hp) : RT := bd 0 fun v1 => bd 0 fun v2 => (lp (fun (_ : Int) (_ : Int) => (none : RT)) 5000 (fun (rc5 : Int → Int → RT) (v3 : Int) (v4 : Int) => if v4 < 10 then (br (rd G ((rf a0 0)) 114 (iadd 104 v4)) fun v6 => jn (fun (v7 : Int) => bd (iadd v4 1) fun v9 => rc5 v7 v9) fun (K8 : Int → RT) => if v6 = ((-1)) then K8 v3 else (bd (iadd v3 1) fun v10 => K8 v10)) else rt v3 G)) v1 v2
theorem pX6_heldKeys {G : Hp} {a0 : Nat} : PU G (fX6_heldKeys a0 G) := by
  unfold fX6_heldKeys
  refine PU_bd (fun v1 => ?_)
  refine PU_bd (fun v2 => ?_)
  refine x_lp (fun (rc5 : Int → Int → RT) => ∀ (v3 : Int) (v4 : Int), PU G (rc5 v3 v4)) (fun _ _ => PU_none) (fun rc5 phrc5 v3 v4 => ?_) 5000 v1 v2
  refine PU_ite ?_ ?_
  · refine PU_br (fun v6 => ?_)
    refine PU_jn (fun (K8 : Int → RT) => ∀ (v7 : Int), PU G (K8 v7)) ?_ (fun K8 phK8 => ?_)
    · intro v7
      refine PU_bd (fun v9 => ?_)
      exact phrc5 v7 v9
    · refine PU_ite ?_ ?_
      · exact phK8 v3
      · refine PU_bd (fun v10 => ?_)
        exact phK8 v10
  · exact PU_rt
set_option maxRecDepth 20000 in
set_option maxHeartbeats 4000000 in
theorem tX6_heldKeys (l : Launch) (x : WX) (hi : Inj x.2.2) (G : Hp) (a0 : Nat) (ha0 : kd a0 = 6) : Ct l x yX6_heldKeys cX6_heldKeys 3 (some .int) 0 129 129 [vR a0] G (fX6_heldKeys a0 G) := by
  refine ct_of (plainFor_of_name (by decide)) hi (Nat.le_refl _) (Nat.le_refl _) (Nat.le_of_ble_eq_true rfl) (fun cx F hd hn0 hnE hl hQ => ?_)
  subst hl
  have F : Fx cx x RX6 cX6_heldKeys 3 (some .int) := F
  show Y cx x 3 (some .int) 129 0 [(0, vR a0)] [] G _
  unfold fX6_heldKeys
  refine x_iconst F dX6_heldKeys_0 ⟨by decide, by decide⟩ rfl ?_
  refine x_istore_n F dX6_heldKeys_1 rfl (by decide) rfl rfl (fun v1 => ?_)
  show Y cx x _ _ _ _ [(0, vR a0), (1, vI v1)] _ _ _
  refine x_iconst F dX6_heldKeys_2 ⟨by decide, by decide⟩ rfl ?_
  refine x_istore_n F dX6_heldKeys_3 rfl (by decide) rfl rfl (fun v2 => ?_)
  show Y cx x _ _ _ _ [(0, vR a0), (1, vI v1), (2, vI v2)] _ _ _
  refine x_lp (fun (rc5 : Int → Int → RT) => ∀ (v3 : Int) (v4 : Int), Y cx x 3 (some .int) 129 4 [(0, vR a0), (1, vI v3), (2, vI v4)] [] G (rc5 v3 v4)) (fun _ _ => Y_none) (fun rc5 hrc5 v3 v4 => ?_) 5000 v1 v2
  refine x_iload_n F dX6_heldKeys_4 rfl rfl rfl ?_
  refine x_bipush F dX6_heldKeys_5 ⟨by decide, by decide⟩ (by decide) rfl ?_
  refine x_icmpge (pt := 32) F dX6_heldKeys_7 rfl rfl ?_ ?_
  · refine x_aload_n F dX6_heldKeys_10 rfl rfl rfl ?_
    refine x_getR F flX6_11 ha0 rfl dX6_heldKeys_11 rfl ?_
    refine x_bipush F dX6_heldKeys_14 ⟨by decide, by decide⟩ (by decide) rfl ?_
    refine x_iload_n F dX6_heldKeys_16 rfl rfl rfl ?_
    refine x_iadd F dX6_heldKeys_17 rfl ?_
    refine s_iald F (tf6_0 ha0).1 (tf6_0 ha0).2 dX6_heldKeys_18 rfl (fun v6 => ?_)
    refine x_iconst F dX6_heldKeys_19 ⟨by decide, by decide⟩ rfl ?_
    refine x_jn (fun (K8 : Int → RT) => ∀ (v7 : Int), Y cx x 3 (some .int) 129 26 [(0, vR a0), (1, vI v7), (2, vI v4)] [] G (K8 v7)) ?_ (fun K8 hK8 => ?_)
    · intro v7
      refine x_iinc F dX6_heldKeys_26 rfl (by decide) rfl rfl (fun v9 => ?_)
      show Y cx x _ _ _ _ [(0, vR a0), (1, vI v7), (2, vI v9)] _ _ _
      refine x_goto (pc' := 4) F dX6_heldKeys_29 rfl ?_
      exact hrc5 v7 v9
    · refine x_icmpeq (pt := 26) F dX6_heldKeys_20 rfl rfl ?_ ?_
      · exact hK8 v3
      · refine x_iinc F dX6_heldKeys_23 rfl (by decide) rfl rfl (fun v10 => ?_)
        show Y cx x _ _ _ _ [(0, vR a0), (1, vI v10), (2, vI v4)] _ _ _
        exact hK8 v10
  · refine x_iload_n F dX6_heldKeys_32 rfl rfl rfl ?_
    exact x_iret F hnE hQ dX6_heldKeys_33
theorem dX6_passKeys_0 : decode cX6_passKeys 0 = .ok (.iconst 0, 1) := by decide +kernel
theorem dX6_passKeys_1 : decode cX6_passKeys 1 = .ok (.istore_n 3, 1) := by decide +kernel
theorem dX6_passKeys_2 : decode cX6_passKeys 2 = .ok (.iload_n 3, 1) := by decide +kernel
theorem dX6_passKeys_3 : decode cX6_passKeys 3 = .ok (.bipush 10, 2) := by decide +kernel
theorem dX6_passKeys_5 : decode cX6_passKeys 5 = .ok (.if_icmp .ge 32, 3) := by decide +kernel
theorem dX6_passKeys_8 : decode cX6_passKeys 8 = .ok (.aload_n 0, 1) := by decide +kernel
theorem dX6_passKeys_9 : decode cX6_passKeys 9 = .ok (.getfield 11, 3) := by decide +kernel
theorem dX6_passKeys_12 : decode cX6_passKeys 12 = .ok (.bipush 104, 2) := by decide +kernel
theorem dX6_passKeys_14 : decode cX6_passKeys 14 = .ok (.iload_n 3, 1) := by decide +kernel
theorem dX6_passKeys_15 : decode cX6_passKeys 15 = .ok (.iadd, 1) := by decide +kernel
theorem dX6_passKeys_16 : decode cX6_passKeys 16 = .ok (.iaload, 1) := by decide +kernel
theorem dX6_passKeys_17 : decode cX6_passKeys 17 = .ok (.iload_n 1, 1) := by decide +kernel
theorem dX6_passKeys_18 : decode cX6_passKeys 18 = .ok (.if_icmp .ne 13, 3) := by decide +kernel
theorem dX6_passKeys_21 : decode cX6_passKeys 21 = .ok (.aload_n 0, 1) := by decide +kernel
theorem dX6_passKeys_22 : decode cX6_passKeys 22 = .ok (.getfield 11, 3) := by decide +kernel
theorem dX6_passKeys_25 : decode cX6_passKeys 25 = .ok (.bipush 104, 2) := by decide +kernel
theorem dX6_passKeys_27 : decode cX6_passKeys 27 = .ok (.iload_n 3, 1) := by decide +kernel
theorem dX6_passKeys_28 : decode cX6_passKeys 28 = .ok (.iadd, 1) := by decide +kernel
theorem dX6_passKeys_29 : decode cX6_passKeys 29 = .ok (.iload_n 2, 1) := by decide +kernel
theorem dX6_passKeys_30 : decode cX6_passKeys 30 = .ok (.iastore, 1) := by decide +kernel
theorem dX6_passKeys_31 : decode cX6_passKeys 31 = .ok (.iinc 3 1, 3) := by decide +kernel
theorem dX6_passKeys_34 : decode cX6_passKeys 34 = .ok (.goto (-32), 3) := by decide +kernel
theorem dX6_passKeys_37 : decode cX6_passKeys 37 = .ok (.return_, 1) := by decide +kernel
def fX6_passKeys (a0 : Nat) (a1 : Int) (a2 : Int) (G : Hp) : RT := bd 0 fun v1 => (lp (fun (_ : Int) (_ : Hp) => (none : RT)) 5000 (fun (rc4 : Int → Hp → RT) (v2 : Int) (G3 : Hp) => if v2 < 10 then (br (rd G3 ((rf a0 0)) 114 (iadd 104 v2)) fun v5 => jn (fun (G6 : Hp) => bd (iadd v2 1) fun v8 => rc4 v8 G6) fun (K7 : Hp → RT) => if v5 = a1 then (bs (wr G3 ((rf a0 0)) 114 (iadd 104 v2) a2) fun G9 => K7 G9) else K7 G3) else rt 0 G3)) v1 G
set_option maxRecDepth 20000 in
set_option maxHeartbeats 4000000 in
theorem tX6_passKeys (l : Launch) (x : WX) (hi : Inj x.2.2) (G : Hp) (a0 : Nat) (a1 : Int) (a2 : Int) (ha0 : kd a0 = 6) : Ct l x yX6_passKeys cX6_passKeys 4 none 0 129 129 [vR a0, vI a1, vI a2] G (fX6_passKeys a0 a1 a2 G) := by
  refine ct_of (plainFor_of_name (by decide)) hi (Nat.le_refl _) (Nat.le_refl _) (Nat.le_of_ble_eq_true rfl) (fun cx F hd hn0 hnE hl hQ => ?_)
  subst hl
  have F : Fx cx x RX6 cX6_passKeys 4 none := F
  show Y cx x 4 none 129 0 [(0, vR a0), (1, vI a1), (2, vI a2)] [] G _
  unfold fX6_passKeys
  refine x_iconst F dX6_passKeys_0 ⟨by decide, by decide⟩ rfl ?_
  refine x_istore_n F dX6_passKeys_1 rfl (by decide) rfl rfl (fun v1 => ?_)
  show Y cx x _ _ _ _ [(0, vR a0), (1, vI a1), (2, vI a2), (3, vI v1)] _ _ _
  refine x_lp (fun (rc4 : Int → Hp → RT) => ∀ (v2 : Int) (G3 : Hp), Y cx x 4 none 129 2 [(0, vR a0), (1, vI a1), (2, vI a2), (3, vI v2)] [] G3 (rc4 v2 G3)) (fun _ _ => Y_none) (fun rc4 hrc4 v2 G3 => ?_) 5000 v1 G
  refine x_iload_n F dX6_passKeys_2 rfl rfl rfl ?_
  refine x_bipush F dX6_passKeys_3 ⟨by decide, by decide⟩ (by decide) rfl ?_
  refine x_icmpge (pt := 37) F dX6_passKeys_5 rfl rfl ?_ ?_
  · refine x_aload_n F dX6_passKeys_8 rfl rfl rfl ?_
    refine x_getR F flX6_11 ha0 rfl dX6_passKeys_9 rfl ?_
    refine x_bipush F dX6_passKeys_12 ⟨by decide, by decide⟩ (by decide) rfl ?_
    refine x_iload_n F dX6_passKeys_14 rfl rfl rfl ?_
    refine x_iadd F dX6_passKeys_15 rfl ?_
    refine s_iald F (tf6_0 ha0).1 (tf6_0 ha0).2 dX6_passKeys_16 rfl (fun v5 => ?_)
    refine x_iload_n F dX6_passKeys_17 rfl rfl rfl ?_
    refine x_jn (fun (K7 : Hp → RT) => ∀ (G6 : Hp), Y cx x 4 none 129 31 [(0, vR a0), (1, vI a1), (2, vI a2), (3, vI v2)] [] G6 (K7 G6)) ?_ (fun K7 hK7 => ?_)
    · intro G6
      refine x_iinc F dX6_passKeys_31 rfl (by decide) rfl rfl (fun v8 => ?_)
      show Y cx x _ _ _ _ [(0, vR a0), (1, vI a1), (2, vI a2), (3, vI v8)] _ _ _
      refine x_goto (pc' := 2) F dX6_passKeys_34 rfl ?_
      exact hrc4 v8 G6
    · refine x_icmpne (pt := 31) F dX6_passKeys_18 rfl rfl ?_ ?_
      · refine x_aload_n F dX6_passKeys_21 rfl rfl rfl ?_
        refine x_getR F flX6_11 ha0 rfl dX6_passKeys_22 rfl ?_
        refine x_bipush F dX6_passKeys_25 ⟨by decide, by decide⟩ (by decide) rfl ?_
        refine x_iload_n F dX6_passKeys_27 rfl rfl rfl ?_
        refine x_iadd F dX6_passKeys_28 rfl ?_
        refine x_iload_n F dX6_passKeys_29 rfl rfl rfl ?_
        refine s_iast F (tf6_0 ha0).1 (tf6_0 ha0).2 dX6_passKeys_30 rfl (fun G9 => ?_)
        exact hK7 G9
      · exact hK7 G3
  · exact x_vret F hnE hQ dX6_passKeys_37
theorem dX6_copyFrom_0 : decode cX6_copyFrom 0 = .ok (.aload_n 0, 1) := by decide +kernel
theorem dX6_copyFrom_1 : decode cX6_copyFrom 1 = .ok (.aload_n 1, 1) := by decide +kernel
theorem dX6_copyFrom_2 : decode cX6_copyFrom 2 = .ok (.getfield 15, 3) := by decide +kernel
theorem dX6_copyFrom_5 : decode cX6_copyFrom 5 = .ok (.putfield 15, 3) := by decide +kernel
theorem dX6_copyFrom_8 : decode cX6_copyFrom 8 = .ok (.aload_n 1, 1) := by decide +kernel
theorem dX6_copyFrom_9 : decode cX6_copyFrom 9 = .ok (.getfield 11, 3) := by decide +kernel
theorem dX6_copyFrom_12 : decode cX6_copyFrom 12 = .ok (.iconst 0, 1) := by decide +kernel
theorem dX6_copyFrom_13 : decode cX6_copyFrom 13 = .ok (.aload_n 0, 1) := by decide +kernel
theorem dX6_copyFrom_14 : decode cX6_copyFrom 14 = .ok (.getfield 11, 3) := by decide +kernel
theorem dX6_copyFrom_17 : decode cX6_copyFrom 17 = .ok (.iconst 0, 1) := by decide +kernel
theorem dX6_copyFrom_18 : decode cX6_copyFrom 18 = .ok (.bipush 114, 2) := by decide +kernel
theorem dX6_copyFrom_20 : decode cX6_copyFrom 20 = .ok (.invokestatic 19, 3) := by decide +kernel
theorem dX6_copyFrom_23 : decode cX6_copyFrom 23 = .ok (.return_, 1) := by decide +kernel
def fX6_copyFrom (a0 : Nat) (a1 : Nat) (G : Hp) : RT := bh (up G a0 1 (G a1 1)) fun G1 => bs (cpO G1 ((rf a1 0)) 114 0 ((rf a0 0)) 114 0 114) fun G2 => rt 0 G2
set_option maxRecDepth 20000 in
set_option maxHeartbeats 4000000 in
theorem tX6_copyFrom (l : Launch) (x : WX) (hi : Inj x.2.2) (G : Hp) (a0 : Nat) (a1 : Nat) (ha0 : kd a0 = 6) (ha1 : kd a1 = 6) : Ct l x yX6_copyFrom cX6_copyFrom 2 none 1 129 129 [vR a0, vR a1] G (fX6_copyFrom a0 a1 G) := by
  refine ct_of (plainFor_of_name (by decide)) hi (Nat.le_refl _) (Nat.le_refl _) (Nat.le_of_ble_eq_true rfl) (fun cx F hd hn0 hnE hl hQ => ?_)
  subst hl
  have F : Fx cx x RX6 cX6_copyFrom 2 none := F
  show Y cx x 2 none 129 0 [(0, vR a0), (1, vR a1)] [] G _
  unfold fX6_copyFrom
  refine x_aload_n F dX6_copyFrom_0 rfl rfl rfl ?_
  refine x_aload_n F dX6_copyFrom_1 rfl rfl rfl ?_
  refine s_getI F flX6_15 ha1 rfl dX6_copyFrom_2 rfl ?_
  refine s_putI F fpX6_15 ha0 rfl dX6_copyFrom_5 rfl (fun G1 => ?_)
  refine x_aload_n F dX6_copyFrom_8 rfl rfl rfl ?_
  refine x_getR F flX6_11 ha1 rfl dX6_copyFrom_9 rfl ?_
  refine x_iconst F dX6_copyFrom_12 ⟨by decide, by decide⟩ rfl ?_
  refine x_aload_n F dX6_copyFrom_13 rfl rfl rfl ?_
  refine x_getR F flX6_11 ha0 rfl dX6_copyFrom_14 rfl ?_
  refine x_iconst F dX6_copyFrom_17 ⟨by decide, by decide⟩ rfl ?_
  refine x_bipush F dX6_copyFrom_18 ⟨by decide, by decide⟩ (by decide) rfl ?_
  refine x_cpyI F lkX6_19 acw (tf6_0 ha1).1 (tf6_0 ha0).1 (tf6_0 ha1).2 (tf6_0 ha0).2 (kl (tf6_0 ha1).1 rfl) (kl (tf6_0 ha0).1 rfl) (Nat.le_refl _) (le_d (d' := 0) hd rfl) (Nat.le_of_ble_eq_true rfl) dX6_copyFrom_20 rfl (fun G2 => ?_)
  exact x_vret F hnE hQ dX6_copyFrom_23
theorem dX6_insideCount_0 : decode cX6_insideCount 0 = .ok (.aload_n 0, 1) := by decide +kernel
theorem dX6_insideCount_1 : decode cX6_insideCount 1 = .ok (.getfield 15, 3) := by decide +kernel
theorem dX6_insideCount_4 : decode cX6_insideCount 4 = .ok (.invokestatic 25, 3) := by decide +kernel
theorem dX6_insideCount_7 : decode cX6_insideCount 7 = .ok (.ireturn, 1) := by decide +kernel
def fX6_insideCount (a0 : Nat) (G : Hp) : RT := bp (fJ6_bitCount_0f7a4 (G a0 1) G) fun v1 => rt v1 G
theorem pX6_insideCount {G : Hp} {a0 : Nat} : PU G (fX6_insideCount a0 G) := by
  unfold fX6_insideCount
  refine PU_bp (fun v1 => ?_)
  exact PU_rt
set_option maxRecDepth 20000 in
set_option maxHeartbeats 4000000 in
theorem tX6_insideCount (l : Launch) (x : WX) (hi : Inj x.2.2) (G : Hp) (a0 : Nat) (ha0 : kd a0 = 6) : Ct l x yX6_insideCount cX6_insideCount 1 (some .int) 1 129 129 [vR a0] G (fX6_insideCount a0 G) := by
  refine ct_of (plainFor_of_name (by decide)) hi (Nat.le_refl _) (Nat.le_refl _) (Nat.le_of_ble_eq_true rfl) (fun cx F hd hn0 hnE hl hQ => ?_)
  subst hl
  have F : Fx cx x RX6 cX6_insideCount 1 (some .int) := F
  show Y cx x 1 (some .int) 129 0 [(0, vR a0)] [] G _
  unfold fX6_insideCount
  refine x_aload_n F dX6_insideCount_0 rfl rfl rfl ?_
  refine s_getI F flX6_15 ha0 rfl dX6_insideCount_1 rfl ?_
  refine s_callSP F [vI (G a0 1)] [] lkX6_25 mJ6_bitCount_0f7a4 hnE hn0 hd pJ6_bitCount_0f7a4 (tJ6_bitCount_0f7a4 cx.l x hi G (G a0 1)) rfl rfl dX6_insideCount_4 rfl rfl (fun v1 => ?_)
  exact x_iret F hnE hQ dX6_insideCount_7
theorem dX6_firstOf_0 : decode cX6_firstOf 0 = .ok (.iconst 0, 1) := by decide +kernel
theorem dX6_firstOf_1 : decode cX6_firstOf 1 = .ok (.istore_n 3, 1) := by decide +kernel
theorem dX6_firstOf_2 : decode cX6_firstOf 2 = .ok (.iload_n 3, 1) := by decide +kernel
theorem dX6_firstOf_3 : decode cX6_firstOf 3 = .ok (.iconst 4, 1) := by decide +kernel
theorem dX6_firstOf_4 : decode cX6_firstOf 4 = .ok (.if_icmp .ge 36, 3) := by decide +kernel
theorem dX6_firstOf_7 : decode cX6_firstOf 7 = .ok (.aload_n 0, 1) := by decide +kernel
theorem dX6_firstOf_8 : decode cX6_firstOf 8 = .ok (.iload_n 1, 1) := by decide +kernel
theorem dX6_firstOf_9 : decode cX6_firstOf 9 = .ok (.iload_n 3, 1) := by decide +kernel
theorem dX6_firstOf_10 : decode cX6_firstOf 10 = .ok (.invokevirtual 31, 3) := by decide +kernel
theorem dX6_firstOf_13 : decode cX6_firstOf 13 = .ok (.istore 4, 2) := by decide +kernel
theorem dX6_firstOf_15 : decode cX6_firstOf 15 = .ok (.iload 4, 2) := by decide +kernel
theorem dX6_firstOf_17 : decode cX6_firstOf 17 = .ok (.iconst (-1), 1) := by decide +kernel
theorem dX6_firstOf_18 : decode cX6_firstOf 18 = .ok (.if_icmp .eq 16, 3) := by decide +kernel
theorem dX6_firstOf_21 : decode cX6_firstOf 21 = .ok (.iload_n 2, 1) := by decide +kernel
theorem dX6_firstOf_22 : decode cX6_firstOf 22 = .ok (.iload 4, 2) := by decide +kernel
theorem dX6_firstOf_24 : decode cX6_firstOf 24 = .ok (.ishr, 1) := by decide +kernel
theorem dX6_firstOf_25 : decode cX6_firstOf 25 = .ok (.iconst 1, 1) := by decide +kernel
theorem dX6_firstOf_26 : decode cX6_firstOf 26 = .ok (.iand, 1) := by decide +kernel
theorem dX6_firstOf_27 : decode cX6_firstOf 27 = .ok (.iconst 1, 1) := by decide +kernel
theorem dX6_firstOf_28 : decode cX6_firstOf 28 = .ok (.if_icmp .ne 6, 3) := by decide +kernel
theorem dX6_firstOf_31 : decode cX6_firstOf 31 = .ok (.iload 4, 2) := by decide +kernel
theorem dX6_firstOf_33 : decode cX6_firstOf 33 = .ok (.ireturn, 1) := by decide +kernel
theorem dX6_firstOf_34 : decode cX6_firstOf 34 = .ok (.iinc 3 1, 3) := by decide +kernel
theorem dX6_firstOf_37 : decode cX6_firstOf 37 = .ok (.goto (-35), 3) := by decide +kernel
theorem dX6_firstOf_40 : decode cX6_firstOf 40 = .ok (.iconst (-1), 1) := by decide +kernel
theorem dX6_firstOf_41 : decode cX6_firstOf 41 = .ok (.ireturn, 1) := by decide +kernel
def fX6_firstOf (a0 : Nat) (a1 : Int) (a2 : Int) (G : Hp) : RT := bd 0 fun v1 => (lp (fun (_ : Int) => (none : RT)) 5000 (fun (rc3 : Int → RT) (v2 : Int) => if v2 < 4 then (bp (fX6_listAt a0 a1 v2 G) fun v4 => bd v4 fun v5 => jn (bd (iadd v2 1) fun v7 => rc3 v7) fun (K6 : RT) => if v5 = ((-1)) then K6 else (if (iand (ishr a2 v5) 1) = 1 then rt v5 G else K6)) else (rt ((-1)) G))) v1
theorem pX6_firstOf {G : Hp} {a0 : Nat} {a1 : Int} {a2 : Int} : PU G (fX6_firstOf a0 a1 a2 G) := by
  unfold fX6_firstOf
  refine PU_bd (fun v1 => ?_)
  refine x_lp (fun (rc3 : Int → RT) => ∀ (v2 : Int), PU G (rc3 v2)) (fun _ => PU_none) (fun rc3 phrc3 v2 => ?_) 5000 v1
  refine PU_ite ?_ ?_
  · refine PU_bp (fun v4 => ?_)
    refine PU_bd (fun v5 => ?_)
    refine PU_jn (fun (K6 : RT) => PU G (K6)) ?_ (fun K6 phK6 => ?_)
    · refine PU_bd (fun v7 => ?_)
      exact phrc3 v7
    · refine PU_ite ?_ ?_
      · exact phK6
      · refine PU_ite ?_ ?_
        · exact PU_rt
        · exact phK6
  · exact PU_rt
set_option maxRecDepth 20000 in
set_option maxHeartbeats 4000000 in
theorem tX6_firstOf (l : Launch) (x : WX) (hi : Inj x.2.2) (G : Hp) (a0 : Nat) (a1 : Int) (a2 : Int) (ha0 : kd a0 = 6) : Ct l x yX6_firstOf cX6_firstOf 5 (some .int) 1 129 129 [vR a0, vI a1, vI a2] G (fX6_firstOf a0 a1 a2 G) := by
  refine ct_of (plainFor_of_name (by decide)) hi (Nat.le_refl _) (Nat.le_refl _) (Nat.le_of_ble_eq_true rfl) (fun cx F hd hn0 hnE hl hQ => ?_)
  subst hl
  have F : Fx cx x RX6 cX6_firstOf 5 (some .int) := F
  show Y cx x 5 (some .int) 129 0 [(0, vR a0), (1, vI a1), (2, vI a2)] [] G _
  unfold fX6_firstOf
  refine x_iconst F dX6_firstOf_0 ⟨by decide, by decide⟩ rfl ?_
  refine x_istore_n F dX6_firstOf_1 rfl (by decide) rfl rfl (fun v1 => ?_)
  show Y cx x _ _ _ _ [(0, vR a0), (1, vI a1), (2, vI a2), (3, vI v1)] _ _ _
  refine x_lp (fun (rc3 : Int → RT) => ∀ (v2 : Int), Y cx x 5 (some .int) 129 2 [(0, vR a0), (1, vI a1), (2, vI a2), (3, vI v2)] [] G (rc3 v2)) (fun _ => Y_none) (fun rc3 hrc3 v2 => ?_) 5000 v1
  refine x_iload_n F dX6_firstOf_2 rfl rfl rfl ?_
  refine x_iconst F dX6_firstOf_3 ⟨by decide, by decide⟩ rfl ?_
  refine x_icmpge (pt := 40) F dX6_firstOf_4 rfl rfl ?_ ?_
  · refine x_aload_n F dX6_firstOf_7 rfl rfl rfl ?_
    refine x_iload_n F dX6_firstOf_8 rfl rfl rfl ?_
    refine x_iload_n F dX6_firstOf_9 rfl rfl rfl ?_
    refine s_callVP F [vI a1, vI v2] [] lkX6_31 mX6_listAt rfl ha0 rfl hnE hn0 hd pX6_listAt (tX6_listAt cx.l x hi G a0 a1 v2 ha0) rfl rfl dX6_firstOf_10 rfl rfl (fun v4 => ?_)
    refine x_istore F dX6_firstOf_13 (by decide) rfl rfl (fun v5 => ?_)
    show Y cx x _ _ _ _ [(0, vR a0), (1, vI a1), (2, vI a2), (3, vI v2), (4, vI v5)] _ _ _
    refine x_iload F dX6_firstOf_15 rfl rfl ?_
    refine x_iconst F dX6_firstOf_17 ⟨by decide, by decide⟩ rfl ?_
    refine x_jn (fun (K6 : RT) => Y cx x 5 (some .int) 129 34 [(0, vR a0), (1, vI a1), (2, vI a2), (3, vI v2)] [] G K6) ?_ (fun K6 hK6 => ?_)
    · refine x_iinc F dX6_firstOf_34 rfl (by decide) rfl rfl (fun v7 => ?_)
      show Y cx x _ _ _ _ [(0, vR a0), (1, vI a1), (2, vI a2), (3, vI v7)] _ _ _
      refine x_goto (pc' := 2) F dX6_firstOf_37 rfl ?_
      exact hrc3 v7
    · refine x_icmpeq (pt := 34) F dX6_firstOf_18 rfl rfl ?_ ?_
      · refine x_dp (L' := [(0, vR a0), (1, vI a1), (2, vI a2), (3, vI v2)]) [0, 1, 2, 3] rfl ?_
        exact hK6
      · refine x_iload_n F dX6_firstOf_21 rfl rfl rfl ?_
        refine x_iload F dX6_firstOf_22 rfl rfl ?_
        refine x_ishr F dX6_firstOf_24 rfl ?_
        refine x_iconst F dX6_firstOf_25 ⟨by decide, by decide⟩ rfl ?_
        refine x_iand F dX6_firstOf_26 rfl ?_
        refine x_iconst F dX6_firstOf_27 ⟨by decide, by decide⟩ rfl ?_
        refine x_icmpne (pt := 34) F dX6_firstOf_28 rfl rfl ?_ ?_
        · refine x_iload F dX6_firstOf_31 rfl rfl ?_
          exact x_iret F hnE hQ dX6_firstOf_33
        · refine x_dp (L' := [(0, vR a0), (1, vI a1), (2, vI a2), (3, vI v2)]) [0, 1, 2, 3] rfl ?_
          exact hK6
  · refine x_iconst F dX6_firstOf_40 ⟨by decide, by decide⟩ rfl ?_
    exact x_iret F hnE hQ dX6_firstOf_41
