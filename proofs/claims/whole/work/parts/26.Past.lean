theorem dX3_clear_0 : decode cX3_clear 0 = .ok (.aload_n 0, 1) := by decide +kernel
theorem dX3_clear_1 : decode cX3_clear 1 = .ok (.iconst 0, 1) := by decide +kernel
theorem dX3_clear_2 : decode cX3_clear 2 = .ok (.putfield 32, 3) := by decide +kernel
theorem dX3_clear_5 : decode cX3_clear 5 = .ok (.iconst 0, 1) := by decide +kernel
theorem dX3_clear_6 : decode cX3_clear 6 = .ok (.istore_n 1, 1) := by decide +kernel
theorem dX3_clear_7 : decode cX3_clear 7 = .ok (.iload_n 1, 1) := by decide +kernel
theorem dX3_clear_8 : decode cX3_clear 8 = .ok (.iconst 4, 1) := by decide +kernel
theorem dX3_clear_9 : decode cX3_clear 9 = .ok (.if_icmp .ge 16, 3) := by decide +kernel
theorem dX3_clear_12 : decode cX3_clear 12 = .ok (.aload_n 0, 1) := by decide +kernel
theorem dX3_clear_13 : decode cX3_clear 13 = .ok (.getfield 27, 3) := by decide +kernel
theorem dX3_clear_16 : decode cX3_clear 16 = .ok (.iload_n 1, 1) := by decide +kernel
theorem dX3_clear_17 : decode cX3_clear 17 = .ok (.iconst 0, 1) := by decide +kernel
theorem dX3_clear_18 : decode cX3_clear 18 = .ok (.bastore, 1) := by decide +kernel
theorem dX3_clear_19 : decode cX3_clear 19 = .ok (.iinc 1 1, 3) := by decide +kernel
theorem dX3_clear_22 : decode cX3_clear 22 = .ok (.goto (-15), 3) := by decide +kernel
theorem dX3_clear_25 : decode cX3_clear 25 = .ok (.return_, 1) := by decide +kernel
def fX3_clear (a0 : Nat) (G : Hp) : RT := bh (up G a0 5 0) fun G1 => bd 0 fun v2 => (lp (fun (_ : Int) (_ : Hp) => (none : RT)) 5000 (fun (rc5 : Int → Hp → RT) (v3 : Int) (G4 : Hp) => if v3 < 4 then (bs (wrZ G4 ((rf a0 3)) 4 v3 0) fun G6 => bd (iadd v3 1) fun v7 => rc5 v7 G6) else rt 0 G4)) v2 G1
set_option maxRecDepth 20000 in
set_option maxHeartbeats 4000000 in
theorem tX3_clear (l : Launch) (x : WX) (hi : Inj x.2.2) (G : Hp) (a0 : Nat) (ha0 : kd a0 = 3) : Ct l x yX3_clear cX3_clear 2 none 0 129 129 [vR a0] G (fX3_clear a0 G) := by
  refine ct_of (plainFor_of_name (by decide)) hi (Nat.le_refl _) (Nat.le_refl _) (Nat.le_of_ble_eq_true rfl) (fun cx F hd hn0 hnE hl hQ => ?_)
  subst hl
  have F : Fx cx x RX3 cX3_clear 2 none := F
  show Y cx x 2 none 129 0 [(0, vR a0)] [] G _
  unfold fX3_clear
  refine x_aload_n F dX3_clear_0 rfl rfl rfl ?_
  refine x_iconst F dX3_clear_1 ⟨by decide, by decide⟩ rfl ?_
  refine s_putI F fpX3_32 ha0 rfl dX3_clear_2 rfl (fun G1 => ?_)
  refine x_iconst F dX3_clear_5 ⟨by decide, by decide⟩ rfl ?_
  refine x_istore_n F dX3_clear_6 rfl (by decide) rfl rfl (fun v2 => ?_)
  show Y cx x _ _ _ _ [(0, vR a0), (1, vI v2)] _ _ _
  refine x_lp (fun (rc5 : Int → Hp → RT) => ∀ (v3 : Int) (G4 : Hp), Y cx x 2 none 129 7 [(0, vR a0), (1, vI v3)] [] G4 (rc5 v3 G4)) (fun _ _ => Y_none) (fun rc5 hrc5 v3 G4 => ?_) 5000 v2 G1
  refine x_iload_n F dX3_clear_7 rfl rfl rfl ?_
  refine x_iconst F dX3_clear_8 ⟨by decide, by decide⟩ rfl ?_
  refine x_icmpge (pt := 25) F dX3_clear_9 rfl rfl ?_ ?_
  · refine x_aload_n F dX3_clear_12 rfl rfl rfl ?_
    refine x_getR F flX3_27 ha0 rfl dX3_clear_13 rfl ?_
    refine x_iload_n F dX3_clear_16 rfl rfl rfl ?_
    refine x_iconst F dX3_clear_17 ⟨by decide, by decide⟩ rfl ?_
    refine s_zast F (tf3_3 ha0).1 (tf3_3 ha0).2 dX3_clear_18 rfl (fun G6 => ?_)
    refine x_iinc F dX3_clear_19 rfl (by decide) rfl rfl (fun v7 => ?_)
    show Y cx x _ _ _ _ [(0, vR a0), (1, vI v7)] _ _ _
    refine x_goto (pc' := 7) F dX3_clear_22 rfl ?_
    exact hrc5 v7 G6
  · exact x_vret F hnE hQ dX3_clear_25
theorem dX3_keepIf_0 : decode cX3_keepIf 0 = .ok (.iload_n 1, 1) := by decide +kernel
theorem dX3_keepIf_1 : decode cX3_keepIf 1 = .ok (.ifCond .eq 43, 3) := by decide +kernel
theorem dX3_keepIf_4 : decode cX3_keepIf 4 = .ok (.aload_n 0, 1) := by decide +kernel
theorem dX3_keepIf_5 : decode cX3_keepIf 5 = .ok (.aload_n 0, 1) := by decide +kernel
theorem dX3_keepIf_6 : decode cX3_keepIf 6 = .ok (.getfield 36, 3) := by decide +kernel
theorem dX3_keepIf_9 : decode cX3_keepIf 9 = .ok (.iconst 1, 1) := by decide +kernel
theorem dX3_keepIf_10 : decode cX3_keepIf 10 = .ok (.iadd, 1) := by decide +kernel
theorem dX3_keepIf_11 : decode cX3_keepIf 11 = .ok (.bipush 17, 2) := by decide +kernel
theorem dX3_keepIf_13 : decode cX3_keepIf 13 = .ok (.if_icmp .ge 12, 3) := by decide +kernel
theorem dX3_keepIf_16 : decode cX3_keepIf 16 = .ok (.aload_n 0, 1) := by decide +kernel
theorem dX3_keepIf_17 : decode cX3_keepIf 17 = .ok (.getfield 36, 3) := by decide +kernel
theorem dX3_keepIf_20 : decode cX3_keepIf 20 = .ok (.iconst 1, 1) := by decide +kernel
theorem dX3_keepIf_21 : decode cX3_keepIf 21 = .ok (.iadd, 1) := by decide +kernel
theorem dX3_keepIf_22 : decode cX3_keepIf 22 = .ok (.goto 4, 3) := by decide +kernel
theorem dX3_keepIf_25 : decode cX3_keepIf 25 = .ok (.iconst 0, 1) := by decide +kernel
theorem dX3_keepIf_26 : decode cX3_keepIf 26 = .ok (.putfield 36, 3) := by decide +kernel
theorem dX3_keepIf_29 : decode cX3_keepIf 29 = .ok (.aload_n 0, 1) := by decide +kernel
theorem dX3_keepIf_30 : decode cX3_keepIf 30 = .ok (.aload_n 0, 1) := by decide +kernel
theorem dX3_keepIf_31 : decode cX3_keepIf 31 = .ok (.getfield 32, 3) := by decide +kernel
theorem dX3_keepIf_34 : decode cX3_keepIf 34 = .ok (.iconst 1, 1) := by decide +kernel
theorem dX3_keepIf_35 : decode cX3_keepIf 35 = .ok (.iadd, 1) := by decide +kernel
theorem dX3_keepIf_36 : decode cX3_keepIf 36 = .ok (.bipush 16, 2) := by decide +kernel
theorem dX3_keepIf_38 : decode cX3_keepIf 38 = .ok (.invokestatic 43, 3) := by decide +kernel
theorem dX3_keepIf_41 : decode cX3_keepIf 41 = .ok (.putfield 32, 3) := by decide +kernel
theorem dX3_keepIf_44 : decode cX3_keepIf 44 = .ok (.iload_n 1, 1) := by decide +kernel
theorem dX3_keepIf_45 : decode cX3_keepIf 45 = .ok (.ireturn, 1) := by decide +kernel
def fX3_keepIf (a0 : Nat) (a1 : Int) (G : Hp) : RT := if a1 = 0 then rz a1 G else (jn (fun (v1 : Int) => bh (up G a0 4 v1) fun G3 => bh (up G3 a0 5 ((if 16 < (iadd (G3 a0 5) 1) then 16 else iadd (G3 a0 5) 1))) fun G4 => rz a1 G4) fun (K2 : Int → RT) => if (iadd (G a0 4) 1) < 17 then (K2 (iadd (G a0 4) 1)) else K2 0)
set_option maxRecDepth 20000 in
set_option maxHeartbeats 4000000 in
theorem tX3_keepIf (l : Launch) (x : WX) (hi : Inj x.2.2) (G : Hp) (a0 : Nat) (a1 : Int) (ha0 : kd a0 = 3) : Ct l x yX3_keepIf cX3_keepIf 2 (some .boolean) 1 129 129 [vR a0, vI a1] G (fX3_keepIf a0 a1 G) := by
  refine ct_of (plainFor_of_name (by decide)) hi (Nat.le_refl _) (Nat.le_refl _) (Nat.le_of_ble_eq_true rfl) (fun cx F hd hn0 hnE hl hQ => ?_)
  subst hl
  have F : Fx cx x RX3 cX3_keepIf 2 (some .boolean) := F
  show Y cx x 2 (some .boolean) 129 0 [(0, vR a0), (1, vI a1)] [] G _
  unfold fX3_keepIf
  refine x_iload_n F dX3_keepIf_0 rfl rfl rfl ?_
  refine x_ifeq (pt := 44) F dX3_keepIf_1 rfl rfl ?_ ?_
  · refine x_iload_n F dX3_keepIf_44 rfl rfl rfl ?_
    exact x_zret F hnE hQ dX3_keepIf_45
  · refine x_aload_n F dX3_keepIf_4 rfl rfl rfl ?_
    refine x_aload_n F dX3_keepIf_5 rfl rfl rfl ?_
    refine s_getI F flX3_36 ha0 rfl dX3_keepIf_6 rfl ?_
    refine x_iconst F dX3_keepIf_9 ⟨by decide, by decide⟩ rfl ?_
    refine x_iadd F dX3_keepIf_10 rfl ?_
    refine x_bipush F dX3_keepIf_11 ⟨by decide, by decide⟩ (by decide) rfl ?_
    refine x_jn (fun (K2 : Int → RT) => ∀ (v1 : Int), Y cx x 2 (some .boolean) 129 26 [(0, vR a0), (1, vI a1)] [vI v1, vR a0] G (K2 v1)) ?_ (fun K2 hK2 => ?_)
    · intro v1
      refine s_putI F fpX3_36 ha0 rfl dX3_keepIf_26 rfl (fun G3 => ?_)
      refine x_aload_n F dX3_keepIf_29 rfl rfl rfl ?_
      refine x_aload_n F dX3_keepIf_30 rfl rfl rfl ?_
      refine s_getI F flX3_32 ha0 rfl dX3_keepIf_31 rfl ?_
      refine x_iconst F dX3_keepIf_34 ⟨by decide, by decide⟩ rfl ?_
      refine x_iadd F dX3_keepIf_35 rfl ?_
      refine x_bipush F dX3_keepIf_36 ⟨by decide, by decide⟩ (by decide) rfl ?_
      refine x_mmin F lkX3_43 mmmin1 mmIni mmmin2 (Nat.le_of_eq hnE.symm) (le_d (d' := 0) hd rfl) (Nat.le_of_ble_eq_true rfl) dX3_keepIf_38 rfl ?_
      refine s_putI F fpX3_32 ha0 rfl dX3_keepIf_41 rfl (fun G4 => ?_)
      refine x_iload_n F dX3_keepIf_44 rfl rfl rfl ?_
      exact x_zret F hnE hQ dX3_keepIf_45
    · refine x_icmpge (pt := 25) F dX3_keepIf_13 rfl rfl ?_ ?_
      · refine x_aload_n F dX3_keepIf_16 rfl rfl rfl ?_
        refine s_getI F flX3_36 ha0 rfl dX3_keepIf_17 rfl ?_
        refine x_iconst F dX3_keepIf_20 ⟨by decide, by decide⟩ rfl ?_
        refine x_iadd F dX3_keepIf_21 rfl ?_
        refine x_goto (pc' := 26) F dX3_keepIf_22 rfl ?_
        exact hK2 (iadd (G a0 4) 1)
      · refine x_iconst F dX3_keepIf_25 ⟨by decide, by decide⟩ rfl ?_
        exact hK2 0
theorem dX3_lay_0 : decode cX3_lay 0 = .ok (.aload_n 0, 1) := by decide +kernel
theorem dX3_lay_1 : decode cX3_lay 1 = .ok (.getfield 36, 3) := by decide +kernel
theorem dX3_lay_4 : decode cX3_lay 4 = .ok (.ifCond .lt 25, 3) := by decide +kernel
theorem dX3_lay_7 : decode cX3_lay 7 = .ok (.aload_n 0, 1) := by decide +kernel
theorem dX3_lay_8 : decode cX3_lay 8 = .ok (.getfield 36, 3) := by decide +kernel
theorem dX3_lay_11 : decode cX3_lay 11 = .ok (.bipush 17, 2) := by decide +kernel
theorem dX3_lay_13 : decode cX3_lay 13 = .ok (.if_icmp .ge 16, 3) := by decide +kernel
theorem dX3_lay_16 : decode cX3_lay 16 = .ok (.aload_n 0, 1) := by decide +kernel
theorem dX3_lay_17 : decode cX3_lay 17 = .ok (.getfield 13, 3) := by decide +kernel
theorem dX3_lay_20 : decode cX3_lay 20 = .ok (.aload_n 0, 1) := by decide +kernel
theorem dX3_lay_21 : decode cX3_lay 21 = .ok (.getfield 36, 3) := by decide +kernel
theorem dX3_lay_24 : decode cX3_lay 24 = .ok (.aaload, 1) := by decide +kernel
theorem dX3_lay_25 : decode cX3_lay 25 = .ok (.aload_n 1, 1) := by decide +kernel
theorem dX3_lay_26 : decode cX3_lay 26 = .ok (.invokevirtual 39, 3) := by decide +kernel
theorem dX3_lay_29 : decode cX3_lay 29 = .ok (.return_, 1) := by decide +kernel
def fX3_lay (a0 : Nat) (a1 : Nat) (G : Hp) : RT := if (G a0 4) < 0 then rt 0 G else (if (G a0 4) < 17 then (ra ((rf a0 0)) 17 (G a0 4) fun t1 => bn (fX6_copyFrom t1 a1 G) fun _ G3 => rt 0 G3) else rt 0 G)
set_option maxRecDepth 20000 in
set_option maxHeartbeats 4000000 in
theorem tX3_lay (l : Launch) (x : WX) (hi : Inj x.2.2) (G : Hp) (a0 : Nat) (a1 : Nat) (ha0 : kd a0 = 3) (ha1 : kd a1 = 6) : Ct l x yX3_lay cX3_lay 2 none 2 129 129 [vR a0, vR a1] G (fX3_lay a0 a1 G) := by
  refine ct_of (plainFor_of_name (by decide)) hi (Nat.le_refl _) (Nat.le_refl _) (Nat.le_of_ble_eq_true rfl) (fun cx F hd hn0 hnE hl hQ => ?_)
  subst hl
  have F : Fx cx x RX3 cX3_lay 2 none := F
  show Y cx x 2 none 129 0 [(0, vR a0), (1, vR a1)] [] G _
  unfold fX3_lay
  refine x_aload_n F dX3_lay_0 rfl rfl rfl ?_
  refine s_getI F flX3_36 ha0 rfl dX3_lay_1 rfl ?_
  refine x_iflt (pt := 29) F dX3_lay_4 rfl rfl ?_ ?_
  · exact x_vret F hnE hQ dX3_lay_29
  · refine x_aload_n F dX3_lay_7 rfl rfl rfl ?_
    refine s_getI F flX3_36 ha0 rfl dX3_lay_8 rfl ?_
    refine x_bipush F dX3_lay_11 ⟨by decide, by decide⟩ (by decide) rfl ?_
    refine x_icmpge (pt := 29) F dX3_lay_13 rfl rfl ?_ ?_
    · refine x_aload_n F dX3_lay_16 rfl rfl rfl ?_
      refine x_getR F flX3_13 ha0 rfl dX3_lay_17 rfl ?_
      refine x_aload_n F dX3_lay_20 rfl rfl rfl ?_
      refine s_getI F flX3_36 ha0 rfl dX3_lay_21 rfl ?_
      refine x_aaldS F (tf3_0 ha0).1 (tf3_0 ha0).2 (tE24 (tf3_0 ha0).1) dX3_lay_24 rfl (fun t1 h2 => ?_)
      refine x_aload_n F dX3_lay_25 rfl rfl rfl ?_
      refine s_callVv F [vR a1] [] lkX3_39 mX6_copyFrom rfl h2 rfl hnE hn0 hd (tX6_copyFrom cx.l x hi G t1 a1 h2 ha1) rfl rfl dX3_lay_26 rfl rfl (fun _ G3 => ?_)
      exact x_vret F hnE hQ dX3_lay_29
    · exact x_vret F hnE hQ dX3_lay_29
theorem dX3_keepUnlessNone_0 : decode cX3_keepUnlessNone 0 = .ok (.aload_n 0, 1) := by decide +kernel
theorem dX3_keepUnlessNone_1 : decode cX3_keepUnlessNone 1 = .ok (.iload_n 1, 1) := by decide +kernel
theorem dX3_keepUnlessNone_2 : decode cX3_keepUnlessNone 2 = .ok (.iconst (-1), 1) := by decide +kernel
theorem dX3_keepUnlessNone_3 : decode cX3_keepUnlessNone 3 = .ok (.if_icmp .eq 7, 3) := by decide +kernel
theorem dX3_keepUnlessNone_6 : decode cX3_keepUnlessNone 6 = .ok (.iconst 1, 1) := by decide +kernel
theorem dX3_keepUnlessNone_7 : decode cX3_keepUnlessNone 7 = .ok (.goto 4, 3) := by decide +kernel
theorem dX3_keepUnlessNone_10 : decode cX3_keepUnlessNone 10 = .ok (.iconst 0, 1) := by decide +kernel
theorem dX3_keepUnlessNone_11 : decode cX3_keepUnlessNone 11 = .ok (.invokevirtual 49, 3) := by decide +kernel
theorem dX3_keepUnlessNone_14 : decode cX3_keepUnlessNone 14 = .ok (.pop, 1) := by decide +kernel
theorem dX3_keepUnlessNone_15 : decode cX3_keepUnlessNone 15 = .ok (.iload_n 1, 1) := by decide +kernel
theorem dX3_keepUnlessNone_16 : decode cX3_keepUnlessNone 16 = .ok (.ireturn, 1) := by decide +kernel
def fX3_keepUnlessNone (a0 : Nat) (a1 : Int) (G : Hp) : RT := jn (fun (v1 : Int) => bn (fX3_keepIf a0 v1 G) fun v3 G4 => rt a1 G4) fun (K2 : Int → RT) => if a1 = ((-1)) then K2 0 else K2 1
set_option maxRecDepth 20000 in
set_option maxHeartbeats 4000000 in
theorem tX3_keepUnlessNone (l : Launch) (x : WX) (hi : Inj x.2.2) (G : Hp) (a0 : Nat) (a1 : Int) (ha0 : kd a0 = 3) : Ct l x yX3_keepUnlessNone cX3_keepUnlessNone 2 (some .int) 2 129 129 [vR a0, vI a1] G (fX3_keepUnlessNone a0 a1 G) := by
  refine ct_of (plainFor_of_name (by decide)) hi (Nat.le_refl _) (Nat.le_refl _) (Nat.le_of_ble_eq_true rfl) (fun cx F hd hn0 hnE hl hQ => ?_)
  subst hl
  have F : Fx cx x RX3 cX3_keepUnlessNone 2 (some .int) := F
  show Y cx x 2 (some .int) 129 0 [(0, vR a0), (1, vI a1)] [] G _
  unfold fX3_keepUnlessNone
  refine x_aload_n F dX3_keepUnlessNone_0 rfl rfl rfl ?_
  refine x_iload_n F dX3_keepUnlessNone_1 rfl rfl rfl ?_
  refine x_iconst F dX3_keepUnlessNone_2 ⟨by decide, by decide⟩ rfl ?_
  refine x_jn (fun (K2 : Int → RT) => ∀ (v1 : Int), Y cx x 2 (some .int) 129 11 [(1, vI a1)] [vI v1, vR a0] G (K2 v1)) ?_ (fun K2 hK2 => ?_)
  · intro v1
    refine s_callV F [vI v1] [] lkX3_49 mX3_keepIf rfl ha0 rfl hnE hn0 hd (tX3_keepIf cx.l x hi G a0 v1 ha0) rfl rfl dX3_keepUnlessNone_11 rfl rfl (fun v3 G4 => ?_)
    refine x_pop F dX3_keepUnlessNone_14 rfl rfl ?_
    refine x_iload_n F dX3_keepUnlessNone_15 rfl rfl rfl ?_
    exact x_iret F hnE hQ dX3_keepUnlessNone_16
  · refine x_icmpeq (pt := 10) F dX3_keepUnlessNone_3 rfl rfl ?_ ?_
    · refine x_iconst F dX3_keepUnlessNone_10 ⟨by decide, by decide⟩ rfl ?_
      refine x_dp (L' := [(1, vI a1)]) [1] rfl ?_
      exact hK2 0
    · refine x_iconst F dX3_keepUnlessNone_6 ⟨by decide, by decide⟩ rfl ?_
      refine x_goto (pc' := 11) F dX3_keepUnlessNone_7 rfl ?_
      refine x_dp (L' := [(1, vI a1)]) [1] rfl ?_
      exact hK2 1
theorem dX3_takeBack_0 : decode cX3_takeBack 0 = .ok (.aload_n 0, 1) := by decide +kernel
theorem dX3_takeBack_1 : decode cX3_takeBack 1 = .ok (.getfield 32, 3) := by decide +kernel
theorem dX3_takeBack_4 : decode cX3_takeBack 4 = .ok (.ifCond .gt 5, 3) := by decide +kernel
theorem dX3_takeBack_7 : decode cX3_takeBack 7 = .ok (.iconst 0, 1) := by decide +kernel
theorem dX3_takeBack_8 : decode cX3_takeBack 8 = .ok (.ireturn, 1) := by decide +kernel
theorem dX3_takeBack_9 : decode cX3_takeBack 9 = .ok (.aload_n 0, 1) := by decide +kernel
theorem dX3_takeBack_10 : decode cX3_takeBack 10 = .ok (.dup, 1) := by decide +kernel
theorem dX3_takeBack_11 : decode cX3_takeBack 11 = .ok (.getfield 32, 3) := by decide +kernel
theorem dX3_takeBack_14 : decode cX3_takeBack 14 = .ok (.iconst 1, 1) := by decide +kernel
theorem dX3_takeBack_15 : decode cX3_takeBack 15 = .ok (.isub, 1) := by decide +kernel
theorem dX3_takeBack_16 : decode cX3_takeBack 16 = .ok (.putfield 32, 3) := by decide +kernel
theorem dX3_takeBack_19 : decode cX3_takeBack 19 = .ok (.aload_n 0, 1) := by decide +kernel
theorem dX3_takeBack_20 : decode cX3_takeBack 20 = .ok (.aload_n 0, 1) := by decide +kernel
theorem dX3_takeBack_21 : decode cX3_takeBack 21 = .ok (.getfield 36, 3) := by decide +kernel
theorem dX3_takeBack_24 : decode cX3_takeBack 24 = .ok (.ifCond .le 12, 3) := by decide +kernel
theorem dX3_takeBack_27 : decode cX3_takeBack 27 = .ok (.aload_n 0, 1) := by decide +kernel
theorem dX3_takeBack_28 : decode cX3_takeBack 28 = .ok (.getfield 36, 3) := by decide +kernel
theorem dX3_takeBack_31 : decode cX3_takeBack 31 = .ok (.iconst 1, 1) := by decide +kernel
theorem dX3_takeBack_32 : decode cX3_takeBack 32 = .ok (.isub, 1) := by decide +kernel
theorem dX3_takeBack_33 : decode cX3_takeBack 33 = .ok (.goto 5, 3) := by decide +kernel
theorem dX3_takeBack_36 : decode cX3_takeBack 36 = .ok (.bipush 16, 2) := by decide +kernel
theorem dX3_takeBack_38 : decode cX3_takeBack 38 = .ok (.putfield 36, 3) := by decide +kernel
theorem dX3_takeBack_41 : decode cX3_takeBack 41 = .ok (.aload_n 1, 1) := by decide +kernel
theorem dX3_takeBack_42 : decode cX3_takeBack 42 = .ok (.aload_n 0, 1) := by decide +kernel
theorem dX3_takeBack_43 : decode cX3_takeBack 43 = .ok (.getfield 13, 3) := by decide +kernel
theorem dX3_takeBack_46 : decode cX3_takeBack 46 = .ok (.aload_n 0, 1) := by decide +kernel
theorem dX3_takeBack_47 : decode cX3_takeBack 47 = .ok (.getfield 36, 3) := by decide +kernel
theorem dX3_takeBack_50 : decode cX3_takeBack 50 = .ok (.aaload, 1) := by decide +kernel
theorem dX3_takeBack_51 : decode cX3_takeBack 51 = .ok (.invokevirtual 39, 3) := by decide +kernel
theorem dX3_takeBack_54 : decode cX3_takeBack 54 = .ok (.iconst 1, 1) := by decide +kernel
theorem dX3_takeBack_55 : decode cX3_takeBack 55 = .ok (.ireturn, 1) := by decide +kernel
def fX3_takeBack (a0 : Nat) (a1 : Nat) (G : Hp) : RT := if 0 < (G a0 5) then (bh (up G a0 5 (isub (G a0 5) 1)) fun G1 => jn (fun (v2 : Int) => bh (up G1 a0 4 v2) fun G4 => ra ((rf a0 0)) 17 (G4 a0 4) fun t5 => bn (fX6_copyFrom a1 t5 G4) fun _ G7 => rz 1 G7) fun (K3 : Int → RT) => if 0 < (G1 a0 4) then (K3 (isub (G1 a0 4) 1)) else K3 16) else rz 0 G
set_option maxRecDepth 20000 in
set_option maxHeartbeats 4000000 in
theorem tX3_takeBack (l : Launch) (x : WX) (hi : Inj x.2.2) (G : Hp) (a0 : Nat) (a1 : Nat) (ha0 : kd a0 = 3) (ha1 : kd a1 = 6) : Ct l x yX3_takeBack cX3_takeBack 2 (some .boolean) 2 129 129 [vR a0, vR a1] G (fX3_takeBack a0 a1 G) := by
  refine ct_of (plainFor_of_name (by decide)) hi (Nat.le_refl _) (Nat.le_refl _) (Nat.le_of_ble_eq_true rfl) (fun cx F hd hn0 hnE hl hQ => ?_)
  subst hl
  have F : Fx cx x RX3 cX3_takeBack 2 (some .boolean) := F
  show Y cx x 2 (some .boolean) 129 0 [(0, vR a0), (1, vR a1)] [] G _
  unfold fX3_takeBack
  refine x_aload_n F dX3_takeBack_0 rfl rfl rfl ?_
  refine s_getI F flX3_32 ha0 rfl dX3_takeBack_1 rfl ?_
  refine x_ifgt (pt := 9) F dX3_takeBack_4 rfl rfl ?_ ?_
  · refine x_aload_n F dX3_takeBack_9 rfl rfl rfl ?_
    refine x_dup F dX3_takeBack_10 rfl rfl ?_
    refine s_getI F flX3_32 ha0 rfl dX3_takeBack_11 rfl ?_
    refine x_iconst F dX3_takeBack_14 ⟨by decide, by decide⟩ rfl ?_
    refine x_isub F dX3_takeBack_15 rfl ?_
    refine s_putI F fpX3_32 ha0 rfl dX3_takeBack_16 rfl (fun G1 => ?_)
    refine x_aload_n F dX3_takeBack_19 rfl rfl rfl ?_
    refine x_aload_n F dX3_takeBack_20 rfl rfl rfl ?_
    refine s_getI F flX3_36 ha0 rfl dX3_takeBack_21 rfl ?_
    refine x_jn (fun (K3 : Int → RT) => ∀ (v2 : Int), Y cx x 2 (some .boolean) 129 38 [(0, vR a0), (1, vR a1)] [vI v2, vR a0] G1 (K3 v2)) ?_ (fun K3 hK3 => ?_)
    · intro v2
      refine s_putI F fpX3_36 ha0 rfl dX3_takeBack_38 rfl (fun G4 => ?_)
      refine x_aload_n F dX3_takeBack_41 rfl rfl rfl ?_
      refine x_aload_n F dX3_takeBack_42 rfl rfl rfl ?_
      refine x_getR F flX3_13 ha0 rfl dX3_takeBack_43 rfl ?_
      refine x_aload_n F dX3_takeBack_46 rfl rfl rfl ?_
      refine s_getI F flX3_36 ha0 rfl dX3_takeBack_47 rfl ?_
      refine x_aaldS F (tf3_0 ha0).1 (tf3_0 ha0).2 (tE24 (tf3_0 ha0).1) dX3_takeBack_50 rfl (fun t5 h6 => ?_)
      refine s_callVv F [vR t5] [] lkX3_39 mX6_copyFrom rfl ha1 rfl hnE hn0 hd (tX6_copyFrom cx.l x hi G4 a1 t5 ha1 h6) rfl rfl dX3_takeBack_51 rfl rfl (fun _ G7 => ?_)
      refine x_iconst F dX3_takeBack_54 ⟨by decide, by decide⟩ rfl ?_
      exact x_zret F hnE hQ dX3_takeBack_55
    · refine x_ifle (pt := 36) F dX3_takeBack_24 rfl rfl ?_ ?_
      · refine x_aload_n F dX3_takeBack_27 rfl rfl rfl ?_
        refine s_getI F flX3_36 ha0 rfl dX3_takeBack_28 rfl ?_
        refine x_iconst F dX3_takeBack_31 ⟨by decide, by decide⟩ rfl ?_
        refine x_isub F dX3_takeBack_32 rfl ?_
        refine x_goto (pc' := 38) F dX3_takeBack_33 rfl ?_
        exact hK3 (isub (G1 a0 4) 1)
      · refine x_bipush F dX3_takeBack_36 ⟨by decide, by decide⟩ (by decide) rfl ?_
        exact hK3 16
  · refine x_iconst F dX3_takeBack_7 ⟨by decide, by decide⟩ rfl ?_
    exact x_zret F hnE hQ dX3_takeBack_8
theorem dX3_layMark_0 : decode cX3_layMark 0 = .ok (.aload_n 0, 1) := by decide +kernel
theorem dX3_layMark_1 : decode cX3_layMark 1 = .ok (.getfield 18, 3) := by decide +kernel
theorem dX3_layMark_4 : decode cX3_layMark 4 = .ok (.iload_n 1, 1) := by decide +kernel
theorem dX3_layMark_5 : decode cX3_layMark 5 = .ok (.aaload, 1) := by decide +kernel
theorem dX3_layMark_6 : decode cX3_layMark 6 = .ok (.aload_n 2, 1) := by decide +kernel
theorem dX3_layMark_7 : decode cX3_layMark 7 = .ok (.invokevirtual 39, 3) := by decide +kernel
theorem dX3_layMark_10 : decode cX3_layMark 10 = .ok (.aload_n 0, 1) := by decide +kernel
theorem dX3_layMark_11 : decode cX3_layMark 11 = .ok (.getfield 23, 3) := by decide +kernel
theorem dX3_layMark_14 : decode cX3_layMark 14 = .ok (.iload_n 1, 1) := by decide +kernel
theorem dX3_layMark_15 : decode cX3_layMark 15 = .ok (.aaload, 1) := by decide +kernel
theorem dX3_layMark_16 : decode cX3_layMark 16 = .ok (.aload_n 3, 1) := by decide +kernel
theorem dX3_layMark_17 : decode cX3_layMark 17 = .ok (.invokevirtual 53, 3) := by decide +kernel
theorem dX3_layMark_20 : decode cX3_layMark 20 = .ok (.aload_n 0, 1) := by decide +kernel
theorem dX3_layMark_21 : decode cX3_layMark 21 = .ok (.getfield 27, 3) := by decide +kernel
theorem dX3_layMark_24 : decode cX3_layMark 24 = .ok (.iload_n 1, 1) := by decide +kernel
theorem dX3_layMark_25 : decode cX3_layMark 25 = .ok (.iconst 1, 1) := by decide +kernel
theorem dX3_layMark_26 : decode cX3_layMark 26 = .ok (.bastore, 1) := by decide +kernel
theorem dX3_layMark_27 : decode cX3_layMark 27 = .ok (.return_, 1) := by decide +kernel
def fX3_layMark (a0 : Nat) (a1 : Int) (a2 : Nat) (a3 : Nat) (G : Hp) : RT := ra ((rf a0 1)) 4 a1 fun t1 => bn (fX6_copyFrom t1 a2 G) fun _ G3 => ra ((rf a0 2)) 4 a1 fun t4 => bn (fX5_copyFrom t4 a3 G3) fun _ G6 => bs (wrZ G6 ((rf a0 3)) 4 a1 1) fun G7 => rt 0 G7
set_option maxRecDepth 20000 in
set_option maxHeartbeats 4000000 in
theorem tX3_layMark (l : Launch) (x : WX) (hi : Inj x.2.2) (G : Hp) (a0 : Nat) (a1 : Int) (a2 : Nat) (a3 : Nat) (ha0 : kd a0 = 3) (ha2 : kd a2 = 6) (ha3 : kd a3 = 5) : Ct l x yX3_layMark cX3_layMark 4 none 2 129 129 [vR a0, vI a1, vR a2, vR a3] G (fX3_layMark a0 a1 a2 a3 G) := by
  refine ct_of (plainFor_of_name (by decide)) hi (Nat.le_refl _) (Nat.le_refl _) (Nat.le_of_ble_eq_true rfl) (fun cx F hd hn0 hnE hl hQ => ?_)
  subst hl
  have F : Fx cx x RX3 cX3_layMark 4 none := F
  show Y cx x 4 none 129 0 [(0, vR a0), (1, vI a1), (2, vR a2), (3, vR a3)] [] G _
  unfold fX3_layMark
  refine x_aload_n F dX3_layMark_0 rfl rfl rfl ?_
  refine x_getR F flX3_18 ha0 rfl dX3_layMark_1 rfl ?_
  refine x_iload_n F dX3_layMark_4 rfl rfl rfl ?_
  refine x_aaldS F (tf3_1 ha0).1 (tf3_1 ha0).2 (tE24 (tf3_1 ha0).1) dX3_layMark_5 rfl (fun t1 h2 => ?_)
  refine x_aload_n F dX3_layMark_6 rfl rfl rfl ?_
  refine s_callVv F [vR a2] [] lkX3_39 mX6_copyFrom rfl h2 rfl hnE hn0 hd (tX6_copyFrom cx.l x hi G t1 a2 h2 ha2) rfl rfl dX3_layMark_7 rfl rfl (fun _ G3 => ?_)
  refine x_aload_n F dX3_layMark_10 rfl rfl rfl ?_
  refine x_getR F flX3_23 ha0 rfl dX3_layMark_11 rfl ?_
  refine x_iload_n F dX3_layMark_14 rfl rfl rfl ?_
  refine x_aaldN F (tf3_2 ha0).1 (tf3_2 ha0).2 (tE25 (tf3_2 ha0).1) dX3_layMark_15 rfl (fun t4 h5 => ?_)
  refine x_aload_n F dX3_layMark_16 rfl rfl rfl ?_
  refine s_callVv F [vR a3] [] lkX3_53 mX5_copyFrom rfl h5 rfl hnE hn0 hd (tX5_copyFrom cx.l x hi G3 t4 a3 h5 ha3) rfl rfl dX3_layMark_17 rfl rfl (fun _ G6 => ?_)
  refine x_aload_n F dX3_layMark_20 rfl rfl rfl ?_
  refine x_getR F flX3_27 ha0 rfl dX3_layMark_21 rfl ?_
  refine x_iload_n F dX3_layMark_24 rfl rfl rfl ?_
  refine x_iconst F dX3_layMark_25 ⟨by decide, by decide⟩ rfl ?_
  refine s_zast F (tf3_3 ha0).1 (tf3_3 ha0).2 dX3_layMark_26 rfl (fun G7 => ?_)
  exact x_vret F hnE hQ dX3_layMark_27
theorem dX3_goBack_0 : decode cX3_goBack 0 = .ok (.aload_n 0, 1) := by decide +kernel
theorem dX3_goBack_1 : decode cX3_goBack 1 = .ok (.getfield 27, 3) := by decide +kernel
theorem dX3_goBack_4 : decode cX3_goBack 4 = .ok (.iload_n 1, 1) := by decide +kernel
theorem dX3_goBack_5 : decode cX3_goBack 5 = .ok (.baload, 1) := by decide +kernel
theorem dX3_goBack_6 : decode cX3_goBack 6 = .ok (.ifCond .ne 5, 3) := by decide +kernel
theorem dX3_goBack_9 : decode cX3_goBack 9 = .ok (.iconst 0, 1) := by decide +kernel
theorem dX3_goBack_10 : decode cX3_goBack 10 = .ok (.ireturn, 1) := by decide +kernel
theorem dX3_goBack_11 : decode cX3_goBack 11 = .ok (.aload_n 2, 1) := by decide +kernel
theorem dX3_goBack_12 : decode cX3_goBack 12 = .ok (.aload_n 0, 1) := by decide +kernel
theorem dX3_goBack_13 : decode cX3_goBack 13 = .ok (.getfield 18, 3) := by decide +kernel
theorem dX3_goBack_16 : decode cX3_goBack 16 = .ok (.iload_n 1, 1) := by decide +kernel
theorem dX3_goBack_17 : decode cX3_goBack 17 = .ok (.aaload, 1) := by decide +kernel
theorem dX3_goBack_18 : decode cX3_goBack 18 = .ok (.invokevirtual 39, 3) := by decide +kernel
theorem dX3_goBack_21 : decode cX3_goBack 21 = .ok (.aload_n 3, 1) := by decide +kernel
theorem dX3_goBack_22 : decode cX3_goBack 22 = .ok (.aload_n 0, 1) := by decide +kernel
theorem dX3_goBack_23 : decode cX3_goBack 23 = .ok (.getfield 23, 3) := by decide +kernel
theorem dX3_goBack_26 : decode cX3_goBack 26 = .ok (.iload_n 1, 1) := by decide +kernel
theorem dX3_goBack_27 : decode cX3_goBack 27 = .ok (.aaload, 1) := by decide +kernel
theorem dX3_goBack_28 : decode cX3_goBack 28 = .ok (.invokevirtual 53, 3) := by decide +kernel
theorem dX3_goBack_31 : decode cX3_goBack 31 = .ok (.aload_n 0, 1) := by decide +kernel
theorem dX3_goBack_32 : decode cX3_goBack 32 = .ok (.iconst 0, 1) := by decide +kernel
theorem dX3_goBack_33 : decode cX3_goBack 33 = .ok (.putfield 32, 3) := by decide +kernel
theorem dX3_goBack_36 : decode cX3_goBack 36 = .ok (.iconst 1, 1) := by decide +kernel
theorem dX3_goBack_37 : decode cX3_goBack 37 = .ok (.ireturn, 1) := by decide +kernel
def fX3_goBack (a0 : Nat) (a1 : Int) (a2 : Nat) (a3 : Nat) (G : Hp) : RT := br (rd G ((rf a0 3)) 4 a1) fun v1 => if v1 = 0 then rz 0 G else (ra ((rf a0 1)) 4 a1 fun t2 => bn (fX6_copyFrom a2 t2 G) fun _ G4 => ra ((rf a0 2)) 4 a1 fun t5 => bn (fX5_copyFrom a3 t5 G4) fun _ G7 => bh (up G7 a0 5 0) fun G8 => rz 1 G8)
set_option maxRecDepth 20000 in
set_option maxHeartbeats 4000000 in
theorem tX3_goBack (l : Launch) (x : WX) (hi : Inj x.2.2) (G : Hp) (a0 : Nat) (a1 : Int) (a2 : Nat) (a3 : Nat) (ha0 : kd a0 = 3) (ha2 : kd a2 = 6) (ha3 : kd a3 = 5) : Ct l x yX3_goBack cX3_goBack 4 (some .boolean) 2 129 129 [vR a0, vI a1, vR a2, vR a3] G (fX3_goBack a0 a1 a2 a3 G) := by
  refine ct_of (plainFor_of_name (by decide)) hi (Nat.le_refl _) (Nat.le_refl _) (Nat.le_of_ble_eq_true rfl) (fun cx F hd hn0 hnE hl hQ => ?_)
  subst hl
  have F : Fx cx x RX3 cX3_goBack 4 (some .boolean) := F
  show Y cx x 4 (some .boolean) 129 0 [(0, vR a0), (1, vI a1), (2, vR a2), (3, vR a3)] [] G _
  unfold fX3_goBack
  refine x_aload_n F dX3_goBack_0 rfl rfl rfl ?_
  refine x_getR F flX3_27 ha0 rfl dX3_goBack_1 rfl ?_
  refine x_iload_n F dX3_goBack_4 rfl rfl rfl ?_
  refine s_zald F (tf3_3 ha0).1 (tf3_3 ha0).2 dX3_goBack_5 rfl (fun v1 => ?_)
  refine x_ifne (pt := 11) F dX3_goBack_6 rfl rfl ?_ ?_
  · refine x_iconst F dX3_goBack_9 ⟨by decide, by decide⟩ rfl ?_
    exact x_zret F hnE hQ dX3_goBack_10
  · refine x_aload_n F dX3_goBack_11 rfl rfl rfl ?_
    refine x_aload_n F dX3_goBack_12 rfl rfl rfl ?_
    refine x_getR F flX3_18 ha0 rfl dX3_goBack_13 rfl ?_
    refine x_iload_n F dX3_goBack_16 rfl rfl rfl ?_
    refine x_aaldS F (tf3_1 ha0).1 (tf3_1 ha0).2 (tE24 (tf3_1 ha0).1) dX3_goBack_17 rfl (fun t2 h3 => ?_)
    refine s_callVv F [vR t2] [] lkX3_39 mX6_copyFrom rfl ha2 rfl hnE hn0 hd (tX6_copyFrom cx.l x hi G a2 t2 ha2 h3) rfl rfl dX3_goBack_18 rfl rfl (fun _ G4 => ?_)
    refine x_aload_n F dX3_goBack_21 rfl rfl rfl ?_
    refine x_aload_n F dX3_goBack_22 rfl rfl rfl ?_
    refine x_getR F flX3_23 ha0 rfl dX3_goBack_23 rfl ?_
    refine x_iload_n F dX3_goBack_26 rfl rfl rfl ?_
    refine x_aaldN F (tf3_2 ha0).1 (tf3_2 ha0).2 (tE25 (tf3_2 ha0).1) dX3_goBack_27 rfl (fun t5 h6 => ?_)
    refine s_callVv F [vR t5] [] lkX3_53 mX5_copyFrom rfl ha3 rfl hnE hn0 hd (tX5_copyFrom cx.l x hi G4 a3 t5 ha3 h6) rfl rfl dX3_goBack_28 rfl rfl (fun _ G7 => ?_)
    refine x_aload_n F dX3_goBack_31 rfl rfl rfl ?_
    refine x_iconst F dX3_goBack_32 ⟨by decide, by decide⟩ rfl ?_
    refine s_putI F fpX3_32 ha0 rfl dX3_goBack_33 rfl (fun G8 => ?_)
    refine x_iconst F dX3_goBack_36 ⟨by decide, by decide⟩ rfl ?_
    exact x_zret F hnE hQ dX3_goBack_37
