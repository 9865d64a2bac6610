theorem dX5_clear_0 : decode cX5_clear 0 = .ok (.aload_n 0, 1) := by decide +kernel
theorem dX5_clear_1 : decode cX5_clear 1 = .ok (.iconst 0, 1) := by decide +kernel
theorem dX5_clear_2 : decode cX5_clear 2 = .ok (.putfield 25, 3) := by decide +kernel
theorem dX5_clear_5 : decode cX5_clear 5 = .ok (.return_, 1) := by decide +kernel
def fX5_clear (a0 : Nat) (G : Hp) : RT := bh (up G a0 4 0) fun G1 => rt 0 G1
set_option maxRecDepth 20000 in
set_option maxHeartbeats 4000000 in
theorem tX5_clear (l : Launch) (x : WX) (hi : Inj x.2.2) (G : Hp) (a0 : Nat) (ha0 : kd a0 = 5) : Ct l x yX5_clear cX5_clear 1 none 0 129 129 [vR a0] G (fX5_clear a0 G) := by
  refine ct_of (plainFor_of_name (by decide)) hi (Nat.le_refl _) (Nat.le_refl _) (Nat.le_of_ble_eq_true rfl) (fun cx F hd hn0 hnE hl hQ => ?_)
  subst hl
  have F : Fx cx x RX5 cX5_clear 1 none := F
  show Y cx x 1 none 129 0 [(0, vR a0)] [] G _
  unfold fX5_clear
  refine x_aload_n F dX5_clear_0 rfl rfl rfl ?_
  refine x_iconst F dX5_clear_1 ⟨by decide, by decide⟩ rfl ?_
  refine s_putI F fpX5_25 ha0 rfl dX5_clear_2 rfl (fun G1 => ?_)
  exact x_vret F hnE hQ dX5_clear_5
theorem dX5_copyFrom_0 : decode cX5_copyFrom 0 = .ok (.aload_n 0, 1) := by decide +kernel
theorem dX5_copyFrom_1 : decode cX5_copyFrom 1 = .ok (.aload_n 1, 1) := by decide +kernel
theorem dX5_copyFrom_2 : decode cX5_copyFrom 2 = .ok (.getfield 25, 3) := by decide +kernel
theorem dX5_copyFrom_5 : decode cX5_copyFrom 5 = .ok (.putfield 25, 3) := by decide +kernel
theorem dX5_copyFrom_8 : decode cX5_copyFrom 8 = .ok (.iconst 0, 1) := by decide +kernel
theorem dX5_copyFrom_9 : decode cX5_copyFrom 9 = .ok (.istore_n 2, 1) := by decide +kernel
theorem dX5_copyFrom_10 : decode cX5_copyFrom 10 = .ok (.iload_n 2, 1) := by decide +kernel
theorem dX5_copyFrom_11 : decode cX5_copyFrom 11 = .ok (.bipush 8, 2) := by decide +kernel
theorem dX5_copyFrom_13 : decode cX5_copyFrom 13 = .ok (.if_icmp .ge 45, 3) := by decide +kernel
theorem dX5_copyFrom_16 : decode cX5_copyFrom 16 = .ok (.aload_n 0, 1) := by decide +kernel
theorem dX5_copyFrom_17 : decode cX5_copyFrom 17 = .ok (.getfield 9, 3) := by decide +kernel
theorem dX5_copyFrom_20 : decode cX5_copyFrom 20 = .ok (.iload_n 2, 1) := by decide +kernel
theorem dX5_copyFrom_21 : decode cX5_copyFrom 21 = .ok (.aload_n 1, 1) := by decide +kernel
theorem dX5_copyFrom_22 : decode cX5_copyFrom 22 = .ok (.getfield 9, 3) := by decide +kernel
theorem dX5_copyFrom_25 : decode cX5_copyFrom 25 = .ok (.iload_n 2, 1) := by decide +kernel
theorem dX5_copyFrom_26 : decode cX5_copyFrom 26 = .ok (.iaload, 1) := by decide +kernel
theorem dX5_copyFrom_27 : decode cX5_copyFrom 27 = .ok (.iastore, 1) := by decide +kernel
theorem dX5_copyFrom_28 : decode cX5_copyFrom 28 = .ok (.aload_n 0, 1) := by decide +kernel
theorem dX5_copyFrom_29 : decode cX5_copyFrom 29 = .ok (.getfield 15, 3) := by decide +kernel
theorem dX5_copyFrom_32 : decode cX5_copyFrom 32 = .ok (.iload_n 2, 1) := by decide +kernel
theorem dX5_copyFrom_33 : decode cX5_copyFrom 33 = .ok (.aload_n 1, 1) := by decide +kernel
theorem dX5_copyFrom_34 : decode cX5_copyFrom 34 = .ok (.getfield 15, 3) := by decide +kernel
theorem dX5_copyFrom_37 : decode cX5_copyFrom 37 = .ok (.iload_n 2, 1) := by decide +kernel
theorem dX5_copyFrom_38 : decode cX5_copyFrom 38 = .ok (.iaload, 1) := by decide +kernel
theorem dX5_copyFrom_39 : decode cX5_copyFrom 39 = .ok (.iastore, 1) := by decide +kernel
theorem dX5_copyFrom_40 : decode cX5_copyFrom 40 = .ok (.aload_n 0, 1) := by decide +kernel
theorem dX5_copyFrom_41 : decode cX5_copyFrom 41 = .ok (.getfield 18, 3) := by decide +kernel
theorem dX5_copyFrom_44 : decode cX5_copyFrom 44 = .ok (.iload_n 2, 1) := by decide +kernel
theorem dX5_copyFrom_45 : decode cX5_copyFrom 45 = .ok (.aload_n 1, 1) := by decide +kernel
theorem dX5_copyFrom_46 : decode cX5_copyFrom 46 = .ok (.getfield 18, 3) := by decide +kernel
theorem dX5_copyFrom_49 : decode cX5_copyFrom 49 = .ok (.iload_n 2, 1) := by decide +kernel
theorem dX5_copyFrom_50 : decode cX5_copyFrom 50 = .ok (.baload, 1) := by decide +kernel
theorem dX5_copyFrom_51 : decode cX5_copyFrom 51 = .ok (.bastore, 1) := by decide +kernel
theorem dX5_copyFrom_52 : decode cX5_copyFrom 52 = .ok (.iinc 2 1, 3) := by decide +kernel
theorem dX5_copyFrom_55 : decode cX5_copyFrom 55 = .ok (.goto (-45), 3) := by decide +kernel
theorem dX5_copyFrom_58 : decode cX5_copyFrom 58 = .ok (.return_, 1) := by decide +kernel
def fX5_copyFrom (a0 : Nat) (a1 : Nat) (G : Hp) : RT := bh (up G a0 4 (G a1 4)) fun G1 => bd 0 fun v2 => (lp (fun (_ : Int) (_ : Hp) => (none : RT)) 5000 (fun (rc5 : Int → Hp → RT) (v3 : Int) (G4 : Hp) => if v3 < 8 then (br (rd G4 ((rf a1 0)) 8 v3) fun v6 => bs (wr G4 ((rf a0 0)) 8 v3 v6) fun G7 => br (rd G7 ((rf a1 1)) 8 v3) fun v8 => bs (wr G7 ((rf a0 1)) 8 v3 v8) fun G9 => br (rd G9 ((rf a1 2)) 8 v3) fun v10 => bs (wrZ G9 ((rf a0 2)) 8 v3 v10) fun G11 => bd (iadd v3 1) fun v12 => rc5 v12 G11) else rt 0 G4)) v2 G1
set_option maxRecDepth 20000 in
set_option maxHeartbeats 4000000 in
theorem tX5_copyFrom (l : Launch) (x : WX) (hi : Inj x.2.2) (G : Hp) (a0 : Nat) (a1 : Nat) (ha0 : kd a0 = 5) (ha1 : kd a1 = 5) : Ct l x yX5_copyFrom cX5_copyFrom 3 none 0 129 129 [vR a0, vR a1] G (fX5_copyFrom a0 a1 G) := by
  refine ct_of (plainFor_of_name (by decide)) hi (Nat.le_refl _) (Nat.le_refl _) (Nat.le_of_ble_eq_true rfl) (fun cx F hd hn0 hnE hl hQ => ?_)
  subst hl
  have F : Fx cx x RX5 cX5_copyFrom 3 none := F
  show Y cx x 3 none 129 0 [(0, vR a0), (1, vR a1)] [] G _
  unfold fX5_copyFrom
  refine x_aload_n F dX5_copyFrom_0 rfl rfl rfl ?_
  refine x_aload_n F dX5_copyFrom_1 rfl rfl rfl ?_
  refine s_getI F flX5_25 ha1 rfl dX5_copyFrom_2 rfl ?_
  refine s_putI F fpX5_25 ha0 rfl dX5_copyFrom_5 rfl (fun G1 => ?_)
  refine x_iconst F dX5_copyFrom_8 ⟨by decide, by decide⟩ rfl ?_
  refine x_istore_n F dX5_copyFrom_9 rfl (by decide) rfl rfl (fun v2 => ?_)
  show Y cx x _ _ _ _ [(0, vR a0), (1, vR a1), (2, vI v2)] _ _ _
  refine x_lp (fun (rc5 : Int → Hp → RT) => ∀ (v3 : Int) (G4 : Hp), Y cx x 3 none 129 10 [(0, vR a0), (1, vR a1), (2, vI v3)] [] G4 (rc5 v3 G4)) (fun _ _ => Y_none) (fun rc5 hrc5 v3 G4 => ?_) 5000 v2 G1
  refine x_iload_n F dX5_copyFrom_10 rfl rfl rfl ?_
  refine x_bipush F dX5_copyFrom_11 ⟨by decide, by decide⟩ (by decide) rfl ?_
  refine x_icmpge (pt := 58) F dX5_copyFrom_13 rfl rfl ?_ ?_
  · refine x_aload_n F dX5_copyFrom_16 rfl rfl rfl ?_
    refine x_getR F flX5_9 ha0 rfl dX5_copyFrom_17 rfl ?_
    refine x_iload_n F dX5_copyFrom_20 rfl rfl rfl ?_
    refine x_aload_n F dX5_copyFrom_21 rfl rfl rfl ?_
    refine x_getR F flX5_9 ha1 rfl dX5_copyFrom_22 rfl ?_
    refine x_iload_n F dX5_copyFrom_25 rfl rfl rfl ?_
    refine s_iald F (tf5_0 ha1).1 (tf5_0 ha1).2 dX5_copyFrom_26 rfl (fun v6 => ?_)
    refine s_iast F (tf5_0 ha0).1 (tf5_0 ha0).2 dX5_copyFrom_27 rfl (fun G7 => ?_)
    refine x_aload_n F dX5_copyFrom_28 rfl rfl rfl ?_
    refine x_getR F flX5_15 ha0 rfl dX5_copyFrom_29 rfl ?_
    refine x_iload_n F dX5_copyFrom_32 rfl rfl rfl ?_
    refine x_aload_n F dX5_copyFrom_33 rfl rfl rfl ?_
    refine x_getR F flX5_15 ha1 rfl dX5_copyFrom_34 rfl ?_
    refine x_iload_n F dX5_copyFrom_37 rfl rfl rfl ?_
    refine s_iald F (tf5_1 ha1).1 (tf5_1 ha1).2 dX5_copyFrom_38 rfl (fun v8 => ?_)
    refine s_iast F (tf5_1 ha0).1 (tf5_1 ha0).2 dX5_copyFrom_39 rfl (fun G9 => ?_)
    refine x_aload_n F dX5_copyFrom_40 rfl rfl rfl ?_
    refine x_getR F flX5_18 ha0 rfl dX5_copyFrom_41 rfl ?_
    refine x_iload_n F dX5_copyFrom_44 rfl rfl rfl ?_
    refine x_aload_n F dX5_copyFrom_45 rfl rfl rfl ?_
    refine x_getR F flX5_18 ha1 rfl dX5_copyFrom_46 rfl ?_
    refine x_iload_n F dX5_copyFrom_49 rfl rfl rfl ?_
    refine s_zald F (tf5_2 ha1).1 (tf5_2 ha1).2 dX5_copyFrom_50 rfl (fun v10 => ?_)
    refine s_zast F (tf5_2 ha0).1 (tf5_2 ha0).2 dX5_copyFrom_51 rfl (fun G11 => ?_)
    refine x_iinc F dX5_copyFrom_52 rfl (by decide) rfl rfl (fun v12 => ?_)
    show Y cx x _ _ _ _ [(0, vR a0), (1, vR a1), (2, vI v12)] _ _ _
    refine x_goto (pc' := 10) F dX5_copyFrom_55 rfl ?_
    exact hrc5 v12 G11
  · exact x_vret F hnE hQ dX5_copyFrom_58
theorem dX5_add_0 : decode cX5_add 0 = .ok (.aload_n 0, 1) := by decide +kernel
theorem dX5_add_1 : decode cX5_add 1 = .ok (.getfield 25, 3) := by decide +kernel
theorem dX5_add_4 : decode cX5_add 4 = .ok (.bipush 8, 2) := by decide +kernel
theorem dX5_add_6 : decode cX5_add 6 = .ok (.if_icmp .lt 5, 3) := by decide +kernel
theorem dX5_add_9 : decode cX5_add 9 = .ok (.iconst 0, 1) := by decide +kernel
theorem dX5_add_10 : decode cX5_add 10 = .ok (.ireturn, 1) := by decide +kernel
theorem dX5_add_11 : decode cX5_add 11 = .ok (.aload_n 0, 1) := by decide +kernel
theorem dX5_add_12 : decode cX5_add 12 = .ok (.getfield 9, 3) := by decide +kernel
theorem dX5_add_15 : decode cX5_add 15 = .ok (.aload_n 0, 1) := by decide +kernel
theorem dX5_add_16 : decode cX5_add 16 = .ok (.getfield 25, 3) := by decide +kernel
theorem dX5_add_19 : decode cX5_add 19 = .ok (.iload_n 1, 1) := by decide +kernel
theorem dX5_add_20 : decode cX5_add 20 = .ok (.iastore, 1) := by decide +kernel
theorem dX5_add_21 : decode cX5_add 21 = .ok (.aload_n 0, 1) := by decide +kernel
theorem dX5_add_22 : decode cX5_add 22 = .ok (.getfield 15, 3) := by decide +kernel
theorem dX5_add_25 : decode cX5_add 25 = .ok (.aload_n 0, 1) := by decide +kernel
theorem dX5_add_26 : decode cX5_add 26 = .ok (.getfield 25, 3) := by decide +kernel
theorem dX5_add_29 : decode cX5_add 29 = .ok (.iload_n 2, 1) := by decide +kernel
theorem dX5_add_30 : decode cX5_add 30 = .ok (.iastore, 1) := by decide +kernel
theorem dX5_add_31 : decode cX5_add 31 = .ok (.aload_n 0, 1) := by decide +kernel
theorem dX5_add_32 : decode cX5_add 32 = .ok (.getfield 18, 3) := by decide +kernel
theorem dX5_add_35 : decode cX5_add 35 = .ok (.aload_n 0, 1) := by decide +kernel
theorem dX5_add_36 : decode cX5_add 36 = .ok (.getfield 25, 3) := by decide +kernel
theorem dX5_add_39 : decode cX5_add 39 = .ok (.iload_n 3, 1) := by decide +kernel
theorem dX5_add_40 : decode cX5_add 40 = .ok (.bastore, 1) := by decide +kernel
theorem dX5_add_41 : decode cX5_add 41 = .ok (.aload_n 0, 1) := by decide +kernel
theorem dX5_add_42 : decode cX5_add 42 = .ok (.dup, 1) := by decide +kernel
theorem dX5_add_43 : decode cX5_add 43 = .ok (.getfield 25, 3) := by decide +kernel
theorem dX5_add_46 : decode cX5_add 46 = .ok (.iconst 1, 1) := by decide +kernel
theorem dX5_add_47 : decode cX5_add 47 = .ok (.iadd, 1) := by decide +kernel
theorem dX5_add_48 : decode cX5_add 48 = .ok (.putfield 25, 3) := by decide +kernel
theorem dX5_add_51 : decode cX5_add 51 = .ok (.iconst 1, 1) := by decide +kernel
theorem dX5_add_52 : decode cX5_add 52 = .ok (.ireturn, 1) := by decide +kernel
def fX5_add (a0 : Nat) (a1 : Int) (a2 : Int) (a3 : Int) (G : Hp) : RT := if (G a0 4) < 8 then (bs (wr G ((rf a0 0)) 8 (G a0 4) a1) fun G1 => bs (wr G1 ((rf a0 1)) 8 (G1 a0 4) a2) fun G2 => bs (wrZ G2 ((rf a0 2)) 8 (G2 a0 4) a3) fun G3 => bh (up G3 a0 4 (iadd (G3 a0 4) 1)) fun G4 => rz 1 G4) else rz 0 G
set_option maxRecDepth 20000 in
set_option maxHeartbeats 4000000 in
theorem tX5_add (l : Launch) (x : WX) (hi : Inj x.2.2) (G : Hp) (a0 : Nat) (a1 : Int) (a2 : Int) (a3 : Int) (ha0 : kd a0 = 5) : Ct l x yX5_add cX5_add 4 (some .boolean) 0 129 129 [vR a0, vI a1, vI a2, vI a3] G (fX5_add a0 a1 a2 a3 G) := by
  refine ct_of (plainFor_of_name (by decide)) hi (Nat.le_refl _) (Nat.le_refl _) (Nat.le_of_ble_eq_true rfl) (fun cx F hd hn0 hnE hl hQ => ?_)
  subst hl
  have F : Fx cx x RX5 cX5_add 4 (some .boolean) := F
  show Y cx x 4 (some .boolean) 129 0 [(0, vR a0), (1, vI a1), (2, vI a2), (3, vI a3)] [] G _
  unfold fX5_add
  refine x_aload_n F dX5_add_0 rfl rfl rfl ?_
  refine s_getI F flX5_25 ha0 rfl dX5_add_1 rfl ?_
  refine x_bipush F dX5_add_4 ⟨by decide, by decide⟩ (by decide) rfl ?_
  refine x_icmplt (pt := 11) F dX5_add_6 rfl rfl ?_ ?_
  · refine x_aload_n F dX5_add_11 rfl rfl rfl ?_
    refine x_getR F flX5_9 ha0 rfl dX5_add_12 rfl ?_
    refine x_aload_n F dX5_add_15 rfl rfl rfl ?_
    refine s_getI F flX5_25 ha0 rfl dX5_add_16 rfl ?_
    refine x_iload_n F dX5_add_19 rfl rfl rfl ?_
    refine s_iast F (tf5_0 ha0).1 (tf5_0 ha0).2 dX5_add_20 rfl (fun G1 => ?_)
    refine x_aload_n F dX5_add_21 rfl rfl rfl ?_
    refine x_getR F flX5_15 ha0 rfl dX5_add_22 rfl ?_
    refine x_aload_n F dX5_add_25 rfl rfl rfl ?_
    refine s_getI F flX5_25 ha0 rfl dX5_add_26 rfl ?_
    refine x_iload_n F dX5_add_29 rfl rfl rfl ?_
    refine s_iast F (tf5_1 ha0).1 (tf5_1 ha0).2 dX5_add_30 rfl (fun G2 => ?_)
    refine x_aload_n F dX5_add_31 rfl rfl rfl ?_
    refine x_getR F flX5_18 ha0 rfl dX5_add_32 rfl ?_
    refine x_aload_n F dX5_add_35 rfl rfl rfl ?_
    refine s_getI F flX5_25 ha0 rfl dX5_add_36 rfl ?_
    refine x_iload_n F dX5_add_39 rfl rfl rfl ?_
    refine s_zast F (tf5_2 ha0).1 (tf5_2 ha0).2 dX5_add_40 rfl (fun G3 => ?_)
    refine x_aload_n F dX5_add_41 rfl rfl rfl ?_
    refine x_dup F dX5_add_42 rfl rfl ?_
    refine s_getI F flX5_25 ha0 rfl dX5_add_43 rfl ?_
    refine x_iconst F dX5_add_46 ⟨by decide, by decide⟩ rfl ?_
    refine x_iadd F dX5_add_47 rfl ?_
    refine s_putI F fpX5_25 ha0 rfl dX5_add_48 rfl (fun G4 => ?_)
    refine x_iconst F dX5_add_51 ⟨by decide, by decide⟩ rfl ?_
    exact x_zret F hnE hQ dX5_add_52
  · refine x_iconst F dX5_add_9 ⟨by decide, by decide⟩ rfl ?_
    exact x_zret F hnE hQ dX5_add_10
theorem dX5_fits_0 : decode cX5_fits 0 = .ok (.iconst 0, 1) := by decide +kernel
theorem dX5_fits_1 : decode cX5_fits 1 = .ok (.istore_n 3, 1) := by decide +kernel
theorem dX5_fits_2 : decode cX5_fits 2 = .ok (.iload_n 3, 1) := by decide +kernel
theorem dX5_fits_3 : decode cX5_fits 3 = .ok (.aload_n 0, 1) := by decide +kernel
theorem dX5_fits_4 : decode cX5_fits 4 = .ok (.getfield 25, 3) := by decide +kernel
theorem dX5_fits_7 : decode cX5_fits 7 = .ok (.if_icmp .ge 58, 3) := by decide +kernel
theorem dX5_fits_10 : decode cX5_fits 10 = .ok (.iload_n 3, 1) := by decide +kernel
theorem dX5_fits_11 : decode cX5_fits 11 = .ok (.bipush 8, 2) := by decide +kernel
theorem dX5_fits_13 : decode cX5_fits 13 = .ok (.if_icmp .ge 52, 3) := by decide +kernel
theorem dX5_fits_16 : decode cX5_fits 16 = .ok (.aload_n 1, 1) := by decide +kernel
theorem dX5_fits_17 : decode cX5_fits 17 = .ok (.iload_n 2, 1) := by decide +kernel
theorem dX5_fits_18 : decode cX5_fits 18 = .ok (.aload_n 0, 1) := by decide +kernel
theorem dX5_fits_19 : decode cX5_fits 19 = .ok (.getfield 9, 3) := by decide +kernel
theorem dX5_fits_22 : decode cX5_fits 22 = .ok (.iload_n 3, 1) := by decide +kernel
theorem dX5_fits_23 : decode cX5_fits 23 = .ok (.iaload, 1) := by decide +kernel
theorem dX5_fits_24 : decode cX5_fits 24 = .ok (.invokevirtual 33, 3) := by decide +kernel
theorem dX5_fits_27 : decode cX5_fits 27 = .ok (.ifCond .eq 30, 3) := by decide +kernel
theorem dX5_fits_30 : decode cX5_fits 30 = .ok (.aload_n 0, 1) := by decide +kernel
theorem dX5_fits_31 : decode cX5_fits 31 = .ok (.getfield 18, 3) := by decide +kernel
theorem dX5_fits_34 : decode cX5_fits 34 = .ok (.iload_n 3, 1) := by decide +kernel
theorem dX5_fits_35 : decode cX5_fits 35 = .ok (.baload, 1) := by decide +kernel
theorem dX5_fits_36 : decode cX5_fits 36 = .ok (.aload_n 1, 1) := by decide +kernel
theorem dX5_fits_37 : decode cX5_fits 37 = .ok (.getfield 39, 3) := by decide +kernel
theorem dX5_fits_40 : decode cX5_fits 40 = .ok (.aload_n 0, 1) := by decide +kernel
theorem dX5_fits_41 : decode cX5_fits 41 = .ok (.getfield 15, 3) := by decide +kernel
theorem dX5_fits_44 : decode cX5_fits 44 = .ok (.iload_n 3, 1) := by decide +kernel
theorem dX5_fits_45 : decode cX5_fits 45 = .ok (.iaload, 1) := by decide +kernel
theorem dX5_fits_46 : decode cX5_fits 46 = .ok (.if_icmp .lt 7, 3) := by decide +kernel
theorem dX5_fits_49 : decode cX5_fits 49 = .ok (.iconst 1, 1) := by decide +kernel
theorem dX5_fits_50 : decode cX5_fits 50 = .ok (.goto 4, 3) := by decide +kernel
theorem dX5_fits_53 : decode cX5_fits 53 = .ok (.iconst 0, 1) := by decide +kernel
theorem dX5_fits_54 : decode cX5_fits 54 = .ok (.if_icmp .eq 5, 3) := by decide +kernel
theorem dX5_fits_57 : decode cX5_fits 57 = .ok (.iconst 0, 1) := by decide +kernel
theorem dX5_fits_58 : decode cX5_fits 58 = .ok (.ireturn, 1) := by decide +kernel
theorem dX5_fits_59 : decode cX5_fits 59 = .ok (.iinc 3 1, 3) := by decide +kernel
theorem dX5_fits_62 : decode cX5_fits 62 = .ok (.goto (-60), 3) := by decide +kernel
theorem dX5_fits_65 : decode cX5_fits 65 = .ok (.iconst 1, 1) := by decide +kernel
theorem dX5_fits_66 : decode cX5_fits 66 = .ok (.ireturn, 1) := by decide +kernel
def fX5_fits (a0 : Nat) (a1 : Nat) (a2 : Int) (G : Hp) : RT := bd 0 fun v1 => (lp (fun (_ : Int) (_ : Hp) => (none : RT)) 5000 (fun (rc4 : Int → Hp → RT) (v2 : Int) (G3 : Hp) => if v2 < (G3 a0 4) then (if v2 < 8 then (br (rd G3 ((rf a0 0)) 8 v2) fun v5 => bn (fX1_seek a1 a2 v5 G3) fun v6 G7 => if v6 = 0 then rz 0 G7 else (br (rd G7 ((rf a0 2)) 8 v2) fun v8 => br (rd G7 ((rf a0 1)) 8 v2) fun v9 => jn (fun (v10 : Int) => if v8 = v10 then (bd (iadd v2 1) fun v12 => rc4 v12 G7) else rz 0 G7) fun (K11 : Int → RT) => if (G7 a1 4) < v9 then K11 0 else K11 1)) else rz 1 G3) else rz 1 G3)) v1 G
set_option maxRecDepth 20000 in
set_option maxHeartbeats 4000000 in
theorem tX5_fits (l : Launch) (x : WX) (hi : Inj x.2.2) (G : Hp) (a0 : Nat) (a1 : Nat) (a2 : Int) (ha0 : kd a0 = 5) (ha1 : kd a1 = 1) : Ct l x yX5_fits cX5_fits 4 (some .boolean) 3 129 129 [vR a0, vR a1, vI a2] G (fX5_fits a0 a1 a2 G) := by
  refine ct_of (plainFor_of_name (by decide)) hi (Nat.le_refl _) (Nat.le_refl _) (Nat.le_of_ble_eq_true rfl) (fun cx F hd hn0 hnE hl hQ => ?_)
  subst hl
  have F : Fx cx x RX5 cX5_fits 4 (some .boolean) := F
  show Y cx x 4 (some .boolean) 129 0 [(0, vR a0), (1, vR a1), (2, vI a2)] [] G _
  unfold fX5_fits
  refine x_iconst F dX5_fits_0 ⟨by decide, by decide⟩ rfl ?_
  refine x_istore_n F dX5_fits_1 rfl (by decide) rfl rfl (fun v1 => ?_)
  show Y cx x _ _ _ _ [(0, vR a0), (1, vR a1), (2, vI a2), (3, vI v1)] _ _ _
  refine x_lp (fun (rc4 : Int → Hp → RT) => ∀ (v2 : Int) (G3 : Hp), Y cx x 4 (some .boolean) 129 2 [(0, vR a0), (1, vR a1), (2, vI a2), (3, vI v2)] [] G3 (rc4 v2 G3)) (fun _ _ => Y_none) (fun rc4 hrc4 v2 G3 => ?_) 5000 v1 G
  refine x_iload_n F dX5_fits_2 rfl rfl rfl ?_
  refine x_aload_n F dX5_fits_3 rfl rfl rfl ?_
  refine s_getI F flX5_25 ha0 rfl dX5_fits_4 rfl ?_
  refine x_icmpge (pt := 65) F dX5_fits_7 rfl rfl ?_ ?_
  · refine x_iload_n F dX5_fits_10 rfl rfl rfl ?_
    refine x_bipush F dX5_fits_11 ⟨by decide, by decide⟩ (by decide) rfl ?_
    refine x_icmpge (pt := 65) F dX5_fits_13 rfl rfl ?_ ?_
    · refine x_aload_n F dX5_fits_16 rfl rfl rfl ?_
      refine x_iload_n F dX5_fits_17 rfl rfl rfl ?_
      refine x_aload_n F dX5_fits_18 rfl rfl rfl ?_
      refine x_getR F flX5_9 ha0 rfl dX5_fits_19 rfl ?_
      refine x_iload_n F dX5_fits_22 rfl rfl rfl ?_
      refine s_iald F (tf5_0 ha0).1 (tf5_0 ha0).2 dX5_fits_23 rfl (fun v5 => ?_)
      refine s_callV F [vI a2, vI v5] [] lkX5_33 mX1_seek rfl ha1 rfl hnE hn0 hd (tX1_seek cx.l x hi G3 a1 a2 v5 ha1) rfl rfl dX5_fits_24 rfl rfl (fun v6 G7 => ?_)
      refine x_ifeq (pt := 57) F dX5_fits_27 rfl rfl ?_ ?_
      · refine x_iconst F dX5_fits_57 ⟨by decide, by decide⟩ rfl ?_
        exact x_zret F hnE hQ dX5_fits_58
      · refine x_aload_n F dX5_fits_30 rfl rfl rfl ?_
        refine x_getR F flX5_18 ha0 rfl dX5_fits_31 rfl ?_
        refine x_iload_n F dX5_fits_34 rfl rfl rfl ?_
        refine s_zald F (tf5_2 ha0).1 (tf5_2 ha0).2 dX5_fits_35 rfl (fun v8 => ?_)
        refine x_aload_n F dX5_fits_36 rfl rfl rfl ?_
        refine s_getI F flX5_39 ha1 rfl dX5_fits_37 rfl ?_
        refine x_aload_n F dX5_fits_40 rfl rfl rfl ?_
        refine x_getR F flX5_15 ha0 rfl dX5_fits_41 rfl ?_
        refine x_iload_n F dX5_fits_44 rfl rfl rfl ?_
        refine s_iald F (tf5_1 ha0).1 (tf5_1 ha0).2 dX5_fits_45 rfl (fun v9 => ?_)
        refine x_jn (fun (K11 : Int → RT) => ∀ (v10 : Int), Y cx x 4 (some .boolean) 129 54 [(0, vR a0), (1, vR a1), (2, vI a2), (3, vI v2)] [vI v10, vI v8] G7 (K11 v10)) ?_ (fun K11 hK11 => ?_)
        · intro v10
          refine x_icmpeq (pt := 59) F dX5_fits_54 rfl rfl ?_ ?_
          · refine x_iinc F dX5_fits_59 rfl (by decide) rfl rfl (fun v12 => ?_)
            show Y cx x _ _ _ _ [(0, vR a0), (1, vR a1), (2, vI a2), (3, vI v12)] _ _ _
            refine x_goto (pc' := 2) F dX5_fits_62 rfl ?_
            exact hrc4 v12 G7
          · refine x_iconst F dX5_fits_57 ⟨by decide, by decide⟩ rfl ?_
            exact x_zret F hnE hQ dX5_fits_58
        · refine x_icmplt (pt := 53) F dX5_fits_46 rfl rfl ?_ ?_
          · refine x_iconst F dX5_fits_53 ⟨by decide, by decide⟩ rfl ?_
            exact hK11 0
          · refine x_iconst F dX5_fits_49 ⟨by decide, by decide⟩ rfl ?_
            refine x_goto (pc' := 54) F dX5_fits_50 rfl ?_
            exact hK11 1
    · refine x_iconst F dX5_fits_65 ⟨by decide, by decide⟩ rfl ?_
      exact x_zret F hnE hQ dX5_fits_66
  · refine x_iconst F dX5_fits_65 ⟨by decide, by decide⟩ rfl ?_
    exact x_zret F hnE hQ dX5_fits_66
theorem dX5_greatestGroup_0 : decode cX5_greatestGroup 0 = .ok (.iconst 0, 1) := by decide +kernel
theorem dX5_greatestGroup_1 : decode cX5_greatestGroup 1 = .ok (.istore 4, 2) := by decide +kernel
theorem dX5_greatestGroup_3 : decode cX5_greatestGroup 3 = .ok (.iload 4, 2) := by decide +kernel
theorem dX5_greatestGroup_5 : decode cX5_greatestGroup 5 = .ok (.bipush 22, 2) := by decide +kernel
theorem dX5_greatestGroup_7 : decode cX5_greatestGroup 7 = .ok (.if_icmp .ge 17, 3) := by decide +kernel
theorem dX5_greatestGroup_10 : decode cX5_greatestGroup 10 = .ok (.aload_n 0, 1) := by decide +kernel
theorem dX5_greatestGroup_11 : decode cX5_greatestGroup 11 = .ok (.getfield 22, 3) := by decide +kernel
theorem dX5_greatestGroup_14 : decode cX5_greatestGroup 14 = .ok (.iload 4, 2) := by decide +kernel
theorem dX5_greatestGroup_16 : decode cX5_greatestGroup 16 = .ok (.iconst 0, 1) := by decide +kernel
theorem dX5_greatestGroup_17 : decode cX5_greatestGroup 17 = .ok (.iastore, 1) := by decide +kernel
theorem dX5_greatestGroup_18 : decode cX5_greatestGroup 18 = .ok (.iinc 4 1, 3) := by decide +kernel
theorem dX5_greatestGroup_21 : decode cX5_greatestGroup 21 = .ok (.goto (-18), 3) := by decide +kernel
theorem dX5_greatestGroup_24 : decode cX5_greatestGroup 24 = .ok (.iconst 0, 1) := by decide +kernel
theorem dX5_greatestGroup_25 : decode cX5_greatestGroup 25 = .ok (.istore 4, 2) := by decide +kernel
theorem dX5_greatestGroup_27 : decode cX5_greatestGroup 27 = .ok (.iconst 0, 1) := by decide +kernel
theorem dX5_greatestGroup_28 : decode cX5_greatestGroup 28 = .ok (.istore 5, 2) := by decide +kernel
theorem dX5_greatestGroup_30 : decode cX5_greatestGroup 30 = .ok (.iload 5, 2) := by decide +kernel
theorem dX5_greatestGroup_32 : decode cX5_greatestGroup 32 = .ok (.bipush 8, 2) := by decide +kernel
theorem dX5_greatestGroup_34 : decode cX5_greatestGroup 34 = .ok (.if_icmp .ge 70, 3) := by decide +kernel
theorem dX5_greatestGroup_37 : decode cX5_greatestGroup 37 = .ok (.iload_n 2, 1) := by decide +kernel
theorem dX5_greatestGroup_38 : decode cX5_greatestGroup 38 = .ok (.iload 5, 2) := by decide +kernel
theorem dX5_greatestGroup_40 : decode cX5_greatestGroup 40 = .ok (.ishr, 1) := by decide +kernel
theorem dX5_greatestGroup_41 : decode cX5_greatestGroup 41 = .ok (.iconst 1, 1) := by decide +kernel
theorem dX5_greatestGroup_42 : decode cX5_greatestGroup 42 = .ok (.iand, 1) := by decide +kernel
theorem dX5_greatestGroup_43 : decode cX5_greatestGroup 43 = .ok (.iconst 1, 1) := by decide +kernel
theorem dX5_greatestGroup_44 : decode cX5_greatestGroup 44 = .ok (.if_icmp .ne 54, 3) := by decide +kernel
theorem dX5_greatestGroup_47 : decode cX5_greatestGroup 47 = .ok (.aload_n 1, 1) := by decide +kernel
theorem dX5_greatestGroup_48 : decode cX5_greatestGroup 48 = .ok (.iload 5, 2) := by decide +kernel
theorem dX5_greatestGroup_50 : decode cX5_greatestGroup 50 = .ok (.iload_n 3, 1) := by decide +kernel
theorem dX5_greatestGroup_51 : decode cX5_greatestGroup 51 = .ok (.invokevirtual 33, 3) := by decide +kernel
theorem dX5_greatestGroup_54 : decode cX5_greatestGroup 54 = .ok (.ifCond .eq 15, 3) := by decide +kernel
theorem dX5_greatestGroup_57 : decode cX5_greatestGroup 57 = .ok (.aload_n 1, 1) := by decide +kernel
theorem dX5_greatestGroup_58 : decode cX5_greatestGroup 58 = .ok (.getfield 39, 3) := by decide +kernel
theorem dX5_greatestGroup_61 : decode cX5_greatestGroup 61 = .ok (.bipush 20, 2) := by decide +kernel
theorem dX5_greatestGroup_63 : decode cX5_greatestGroup 63 = .ok (.invokestatic 56, 3) := by decide +kernel
theorem dX5_greatestGroup_66 : decode cX5_greatestGroup 66 = .ok (.goto 5, 3) := by decide +kernel
theorem dX5_greatestGroup_69 : decode cX5_greatestGroup 69 = .ok (.bipush 21, 2) := by decide +kernel
theorem dX5_greatestGroup_71 : decode cX5_greatestGroup 71 = .ok (.istore 6, 2) := by decide +kernel
theorem dX5_greatestGroup_73 : decode cX5_greatestGroup 73 = .ok (.aload_n 0, 1) := by decide +kernel
theorem dX5_greatestGroup_74 : decode cX5_greatestGroup 74 = .ok (.getfield 22, 3) := by decide +kernel
theorem dX5_greatestGroup_77 : decode cX5_greatestGroup 77 = .ok (.iload 6, 2) := by decide +kernel
theorem dX5_greatestGroup_79 : decode cX5_greatestGroup 79 = .ok (.dup2, 1) := by decide +kernel
theorem dX5_greatestGroup_80 : decode cX5_greatestGroup 80 = .ok (.iaload, 1) := by decide +kernel
theorem dX5_greatestGroup_81 : decode cX5_greatestGroup 81 = .ok (.iconst 1, 1) := by decide +kernel
theorem dX5_greatestGroup_82 : decode cX5_greatestGroup 82 = .ok (.iadd, 1) := by decide +kernel
theorem dX5_greatestGroup_83 : decode cX5_greatestGroup 83 = .ok (.iastore, 1) := by decide +kernel
theorem dX5_greatestGroup_84 : decode cX5_greatestGroup 84 = .ok (.iload 4, 2) := by decide +kernel
theorem dX5_greatestGroup_86 : decode cX5_greatestGroup 86 = .ok (.aload_n 0, 1) := by decide +kernel
theorem dX5_greatestGroup_87 : decode cX5_greatestGroup 87 = .ok (.getfield 22, 3) := by decide +kernel
theorem dX5_greatestGroup_90 : decode cX5_greatestGroup 90 = .ok (.iload 6, 2) := by decide +kernel
theorem dX5_greatestGroup_92 : decode cX5_greatestGroup 92 = .ok (.iaload, 1) := by decide +kernel
theorem dX5_greatestGroup_93 : decode cX5_greatestGroup 93 = .ok (.invokestatic 62, 3) := by decide +kernel
theorem dX5_greatestGroup_96 : decode cX5_greatestGroup 96 = .ok (.istore 4, 2) := by decide +kernel
theorem dX5_greatestGroup_98 : decode cX5_greatestGroup 98 = .ok (.iinc 5 1, 3) := by decide +kernel
theorem dX5_greatestGroup_101 : decode cX5_greatestGroup 101 = .ok (.goto (-71), 3) := by decide +kernel
theorem dX5_greatestGroup_104 : decode cX5_greatestGroup 104 = .ok (.iload 4, 2) := by decide +kernel
theorem dX5_greatestGroup_106 : decode cX5_greatestGroup 106 = .ok (.ireturn, 1) := by decide +kernel
def fX5_greatestGroup (a0 : Nat) (a1 : Nat) (a2 : Int) (a3 : Int) (G : Hp) : RT := bd 0 fun v1 => (lp (fun (_ : Int) (_ : Hp) => (none : RT)) 5000 (fun (rc4 : Int → Hp → RT) (v2 : Int) (G3 : Hp) => if v2 < 22 then (bs (wr G3 ((rf a0 3)) 22 v2 0) fun G24 => bd (iadd v2 1) fun v25 => rc4 v25 G24) else (bd 0 fun v5 => bd 0 fun v6 => (lp (fun (_ : Int) (_ : Int) (_ : Hp) => (none : RT)) 5000 (fun (rc10 : Int → Int → Hp → RT) (v7 : Int) (v8 : Int) (G9 : Hp) => if v8 < 8 then (jn (fun (v11 : Int) (G12 : Hp) => bd (iadd v8 1) fun v14 => rc10 v11 v14 G12) fun (K13 : Int → Hp → RT) => if (iand (ishr a2 v8) 1) = 1 then (bn (fX1_seek a1 v8 a3 G9) fun v15 G16 => jn (fun (v17 : Int) => bd v17 fun v19 => br (rd G16 ((rf a0 3)) 22 v19) fun v20 => bs (wr G16 ((rf a0 3)) 22 v19 (iadd v20 1)) fun G21 => br (rd G21 ((rf a0 3)) 22 v19) fun v22 => bd ((if v7 < v22 then v22 else v7)) fun v23 => K13 v23 G21) fun (K18 : Int → RT) => if v15 = 0 then K18 21 else (K18 ((if 20 < (G16 a1 4) then 20 else G16 a1 4)))) else K13 v7 G9) else rt v7 G9)) v5 v6 G3))) v1 G
set_option maxRecDepth 20000 in
set_option maxHeartbeats 4000000 in
theorem tX5_greatestGroup (l : Launch) (x : WX) (hi : Inj x.2.2) (G : Hp) (a0 : Nat) (a1 : Nat) (a2 : Int) (a3 : Int) (ha0 : kd a0 = 5) (ha1 : kd a1 = 1) : Ct l x yX5_greatestGroup cX5_greatestGroup 7 (some .int) 3 129 129 [vR a0, vR a1, vI a2, vI a3] G (fX5_greatestGroup a0 a1 a2 a3 G) := by
  refine ct_of (plainFor_of_name (by decide)) hi (Nat.le_refl _) (Nat.le_refl _) (Nat.le_of_ble_eq_true rfl) (fun cx F hd hn0 hnE hl hQ => ?_)
  subst hl
  have F : Fx cx x RX5 cX5_greatestGroup 7 (some .int) := F
  show Y cx x 7 (some .int) 129 0 [(0, vR a0), (1, vR a1), (2, vI a2), (3, vI a3)] [] G _
  unfold fX5_greatestGroup
  refine x_iconst F dX5_greatestGroup_0 ⟨by decide, by decide⟩ rfl ?_
  refine x_istore F dX5_greatestGroup_1 (by decide) rfl rfl (fun v1 => ?_)
  show Y cx x _ _ _ _ [(0, vR a0), (1, vR a1), (2, vI a2), (3, vI a3), (4, vI v1)] _ _ _
  refine x_lp (fun (rc4 : Int → Hp → RT) => ∀ (v2 : Int) (G3 : Hp), Y cx x 7 (some .int) 129 3 [(0, vR a0), (1, vR a1), (2, vI a2), (3, vI a3), (4, vI v2)] [] G3 (rc4 v2 G3)) (fun _ _ => Y_none) (fun rc4 hrc4 v2 G3 => ?_) 5000 v1 G
  refine x_iload F dX5_greatestGroup_3 rfl rfl ?_
  refine x_bipush F dX5_greatestGroup_5 ⟨by decide, by decide⟩ (by decide) rfl ?_
  refine x_icmpge (pt := 24) F dX5_greatestGroup_7 rfl rfl ?_ ?_
  · refine x_aload_n F dX5_greatestGroup_10 rfl rfl rfl ?_
    refine x_getR F flX5_22 ha0 rfl dX5_greatestGroup_11 rfl ?_
    refine x_iload F dX5_greatestGroup_14 rfl rfl ?_
    refine x_iconst F dX5_greatestGroup_16 ⟨by decide, by decide⟩ rfl ?_
    refine s_iast F (tf5_3 ha0).1 (tf5_3 ha0).2 dX5_greatestGroup_17 rfl (fun G24 => ?_)
    refine x_iinc F dX5_greatestGroup_18 rfl (by decide) rfl rfl (fun v25 => ?_)
    show Y cx x _ _ _ _ [(0, vR a0), (1, vR a1), (2, vI a2), (3, vI a3), (4, vI v25)] _ _ _
    refine x_goto (pc' := 3) F dX5_greatestGroup_21 rfl ?_
    exact hrc4 v25 G24
  · refine x_iconst F dX5_greatestGroup_24 ⟨by decide, by decide⟩ rfl ?_
    refine x_istore F dX5_greatestGroup_25 (by decide) rfl rfl (fun v5 => ?_)
    show Y cx x _ _ _ _ [(0, vR a0), (1, vR a1), (2, vI a2), (3, vI a3), (4, vI v5)] _ _ _
    refine x_iconst F dX5_greatestGroup_27 ⟨by decide, by decide⟩ rfl ?_
    refine x_istore F dX5_greatestGroup_28 (by decide) rfl rfl (fun v6 => ?_)
    show Y cx x _ _ _ _ [(0, vR a0), (1, vR a1), (2, vI a2), (3, vI a3), (4, vI v5), (5, vI v6)] _ _ _
    refine x_lp (fun (rc10 : Int → Int → Hp → RT) => ∀ (v7 : Int) (v8 : Int) (G9 : Hp), Y cx x 7 (some .int) 129 30 [(0, vR a0), (1, vR a1), (2, vI a2), (3, vI a3), (4, vI v7), (5, vI v8)] [] G9 (rc10 v7 v8 G9)) (fun _ _ _ => Y_none) (fun rc10 hrc10 v7 v8 G9 => ?_) 5000 v5 v6 G3
    refine x_iload F dX5_greatestGroup_30 rfl rfl ?_
    refine x_bipush F dX5_greatestGroup_32 ⟨by decide, by decide⟩ (by decide) rfl ?_
    refine x_icmpge (pt := 104) F dX5_greatestGroup_34 rfl rfl ?_ ?_
    · refine x_iload_n F dX5_greatestGroup_37 rfl rfl rfl ?_
      refine x_iload F dX5_greatestGroup_38 rfl rfl ?_
      refine x_ishr F dX5_greatestGroup_40 rfl ?_
      refine x_iconst F dX5_greatestGroup_41 ⟨by decide, by decide⟩ rfl ?_
      refine x_iand F dX5_greatestGroup_42 rfl ?_
      refine x_iconst F dX5_greatestGroup_43 ⟨by decide, by decide⟩ rfl ?_
      refine x_jn (fun (K13 : Int → Hp → RT) => ∀ (v11 : Int) (G12 : Hp), Y cx x 7 (some .int) 129 98 [(0, vR a0), (1, vR a1), (2, vI a2), (3, vI a3), (4, vI v11), (5, vI v8)] [] G12 (K13 v11 G12)) ?_ (fun K13 hK13 => ?_)
      · intro v11 G12
        refine x_iinc F dX5_greatestGroup_98 rfl (by decide) rfl rfl (fun v14 => ?_)
        show Y cx x _ _ _ _ [(0, vR a0), (1, vR a1), (2, vI a2), (3, vI a3), (4, vI v11), (5, vI v14)] _ _ _
        refine x_goto (pc' := 30) F dX5_greatestGroup_101 rfl ?_
        exact hrc10 v11 v14 G12
      · refine x_icmpne (pt := 98) F dX5_greatestGroup_44 rfl rfl ?_ ?_
        · refine x_aload_n F dX5_greatestGroup_47 rfl rfl rfl ?_
          refine x_iload F dX5_greatestGroup_48 rfl rfl ?_
          refine x_iload_n F dX5_greatestGroup_50 rfl rfl rfl ?_
          refine s_callV F [vI v8, vI a3] [] lkX5_33 mX1_seek rfl ha1 rfl hnE hn0 hd (tX1_seek cx.l x hi G9 a1 v8 a3 ha1) rfl rfl dX5_greatestGroup_51 rfl rfl (fun v15 G16 => ?_)
          refine x_jn (fun (K18 : Int → RT) => ∀ (v17 : Int), Y cx x 7 (some .int) 129 71 [(0, vR a0), (1, vR a1), (2, vI a2), (3, vI a3), (4, vI v7), (5, vI v8)] [vI v17] G16 (K18 v17)) ?_ (fun K18 hK18 => ?_)
          · intro v17
            refine x_istore F dX5_greatestGroup_71 (by decide) rfl rfl (fun v19 => ?_)
            show Y cx x _ _ _ _ [(0, vR a0), (1, vR a1), (2, vI a2), (3, vI a3), (4, vI v7), (5, vI v8), (6, vI v19)] _ _ _
            refine x_aload_n F dX5_greatestGroup_73 rfl rfl rfl ?_
            refine x_getR F flX5_22 ha0 rfl dX5_greatestGroup_74 rfl ?_
            refine x_iload F dX5_greatestGroup_77 rfl rfl ?_
            refine x_dup2 F dX5_greatestGroup_79 rfl rfl rfl ?_
            refine s_iald F (tf5_3 ha0).1 (tf5_3 ha0).2 dX5_greatestGroup_80 rfl (fun v20 => ?_)
            refine x_iconst F dX5_greatestGroup_81 ⟨by decide, by decide⟩ rfl ?_
            refine x_iadd F dX5_greatestGroup_82 rfl ?_
            refine s_iast F (tf5_3 ha0).1 (tf5_3 ha0).2 dX5_greatestGroup_83 rfl (fun G21 => ?_)
            refine x_iload F dX5_greatestGroup_84 rfl rfl ?_
            refine x_aload_n F dX5_greatestGroup_86 rfl rfl rfl ?_
            refine x_getR F flX5_22 ha0 rfl dX5_greatestGroup_87 rfl ?_
            refine x_iload F dX5_greatestGroup_90 rfl rfl ?_
            refine s_iald F (tf5_3 ha0).1 (tf5_3 ha0).2 dX5_greatestGroup_92 rfl (fun v22 => ?_)
            refine x_mmax F lkX5_62 mmmax1 mmIni mmmax2 (Nat.le_of_eq hnE.symm) (le_d (d' := 0) hd rfl) (Nat.le_of_ble_eq_true rfl) dX5_greatestGroup_93 rfl ?_
            refine x_dp (L' := [(0, vR a0), (1, vR a1), (2, vI a2), (3, vI a3), (4, vI v7), (5, vI v8)]) [0, 1, 2, 3, 4, 5] rfl ?_
            refine x_istore F dX5_greatestGroup_96 (by decide) rfl rfl (fun v23 => ?_)
            show Y cx x _ _ _ _ [(0, vR a0), (1, vR a1), (2, vI a2), (3, vI a3), (4, vI v23), (5, vI v8)] _ _ _
            exact hK13 v23 G21
          · refine x_ifeq (pt := 69) F dX5_greatestGroup_54 rfl rfl ?_ ?_
            · refine x_bipush F dX5_greatestGroup_69 ⟨by decide, by decide⟩ (by decide) rfl ?_
              exact hK18 21
            · refine x_aload_n F dX5_greatestGroup_57 rfl rfl rfl ?_
              refine s_getI F flX5_39 ha1 rfl dX5_greatestGroup_58 rfl ?_
              refine x_bipush F dX5_greatestGroup_61 ⟨by decide, by decide⟩ (by decide) rfl ?_
              refine x_mmin F lkX5_56 mmmin1 mmIni mmmin2 (Nat.le_of_eq hnE.symm) (le_d (d' := 0) hd rfl) (Nat.le_of_ble_eq_true rfl) dX5_greatestGroup_63 rfl ?_
              refine x_goto (pc' := 71) F dX5_greatestGroup_66 rfl ?_
              exact hK18 ((if 20 < (G16 a1 4) then 20 else G16 a1 4))
        · exact hK13 v7 G9
    · refine x_iload F dX5_greatestGroup_104 rfl rfl ?_
      exact x_iret F hnE hQ dX5_greatestGroup_106
theorem dX5_suspects_0 : decode cX5_suspects 0 = .ok (.iconst 0, 1) := by decide +kernel
theorem dX5_suspects_1 : decode cX5_suspects 1 = .ok (.istore_n 3, 1) := by decide +kernel
theorem dX5_suspects_2 : decode cX5_suspects 2 = .ok (.iconst 0, 1) := by decide +kernel
theorem dX5_suspects_3 : decode cX5_suspects 3 = .ok (.istore 4, 2) := by decide +kernel
theorem dX5_suspects_5 : decode cX5_suspects 5 = .ok (.iload 4, 2) := by decide +kernel
theorem dX5_suspects_7 : decode cX5_suspects 7 = .ok (.bipush 8, 2) := by decide +kernel
theorem dX5_suspects_9 : decode cX5_suspects 9 = .ok (.if_icmp .ge 36, 3) := by decide +kernel
theorem dX5_suspects_12 : decode cX5_suspects 12 = .ok (.iload_n 2, 1) := by decide +kernel
theorem dX5_suspects_13 : decode cX5_suspects 13 = .ok (.iload 4, 2) := by decide +kernel
theorem dX5_suspects_15 : decode cX5_suspects 15 = .ok (.ishr, 1) := by decide +kernel
theorem dX5_suspects_16 : decode cX5_suspects 16 = .ok (.iconst 1, 1) := by decide +kernel
theorem dX5_suspects_17 : decode cX5_suspects 17 = .ok (.iand, 1) := by decide +kernel
theorem dX5_suspects_18 : decode cX5_suspects 18 = .ok (.iconst 1, 1) := by decide +kernel
theorem dX5_suspects_19 : decode cX5_suspects 19 = .ok (.if_icmp .ne 20, 3) := by decide +kernel
theorem dX5_suspects_22 : decode cX5_suspects 22 = .ok (.aload_n 0, 1) := by decide +kernel
theorem dX5_suspects_23 : decode cX5_suspects 23 = .ok (.aload_n 1, 1) := by decide +kernel
theorem dX5_suspects_24 : decode cX5_suspects 24 = .ok (.iload 4, 2) := by decide +kernel
theorem dX5_suspects_26 : decode cX5_suspects 26 = .ok (.invokevirtual 29, 3) := by decide +kernel
theorem dX5_suspects_29 : decode cX5_suspects 29 = .ok (.ifCond .eq 10, 3) := by decide +kernel
theorem dX5_suspects_32 : decode cX5_suspects 32 = .ok (.iload_n 3, 1) := by decide +kernel
theorem dX5_suspects_33 : decode cX5_suspects 33 = .ok (.iconst 1, 1) := by decide +kernel
theorem dX5_suspects_34 : decode cX5_suspects 34 = .ok (.iload 4, 2) := by decide +kernel
theorem dX5_suspects_36 : decode cX5_suspects 36 = .ok (.ishl, 1) := by decide +kernel
theorem dX5_suspects_37 : decode cX5_suspects 37 = .ok (.ior, 1) := by decide +kernel
theorem dX5_suspects_38 : decode cX5_suspects 38 = .ok (.istore_n 3, 1) := by decide +kernel
theorem dX5_suspects_39 : decode cX5_suspects 39 = .ok (.iinc 4 1, 3) := by decide +kernel
theorem dX5_suspects_42 : decode cX5_suspects 42 = .ok (.goto (-37), 3) := by decide +kernel
theorem dX5_suspects_45 : decode cX5_suspects 45 = .ok (.iload_n 3, 1) := by decide +kernel
theorem dX5_suspects_46 : decode cX5_suspects 46 = .ok (.ireturn, 1) := by decide +kernel
def fX5_suspects (a0 : Nat) (a1 : Nat) (a2 : Int) (G : Hp) : RT := bd 0 fun v1 => bd 0 fun v2 => (lp (fun (_ : Int) (_ : Int) (_ : Hp) => (none : RT)) 5000 (fun (rc6 : Int → Int → Hp → RT) (v3 : Int) (v4 : Int) (G5 : Hp) => if v4 < 8 then (jn (fun (v7 : Int) (G8 : Hp) => bd (iadd v4 1) fun v10 => rc6 v7 v10 G8) fun (K9 : Int → Hp → RT) => if (iand (ishr a2 v4) 1) = 1 then (bn (fX5_fits a0 a1 v4 G5) fun v11 G12 => if v11 = 0 then K9 v3 G12 else (bd (ior v3 (ishl 1 v4)) fun v13 => K9 v13 G12)) else K9 v3 G5) else rt v3 G5)) v1 v2 G
set_option maxRecDepth 20000 in
set_option maxHeartbeats 4000000 in
theorem tX5_suspects (l : Launch) (x : WX) (hi : Inj x.2.2) (G : Hp) (a0 : Nat) (a1 : Nat) (a2 : Int) (ha0 : kd a0 = 5) (ha1 : kd a1 = 1) : Ct l x yX5_suspects cX5_suspects 5 (some .int) 4 129 129 [vR a0, vR a1, vI a2] G (fX5_suspects a0 a1 a2 G) := by
  refine ct_of (plainFor_of_name (by decide)) hi (Nat.le_refl _) (Nat.le_refl _) (Nat.le_of_ble_eq_true rfl) (fun cx F hd hn0 hnE hl hQ => ?_)
  subst hl
  have F : Fx cx x RX5 cX5_suspects 5 (some .int) := F
  show Y cx x 5 (some .int) 129 0 [(0, vR a0), (1, vR a1), (2, vI a2)] [] G _
  unfold fX5_suspects
  refine x_iconst F dX5_suspects_0 ⟨by decide, by decide⟩ rfl ?_
  refine x_istore_n F dX5_suspects_1 rfl (by decide) rfl rfl (fun v1 => ?_)
  show Y cx x _ _ _ _ [(0, vR a0), (1, vR a1), (2, vI a2), (3, vI v1)] _ _ _
  refine x_iconst F dX5_suspects_2 ⟨by decide, by decide⟩ rfl ?_
  refine x_istore F dX5_suspects_3 (by decide) rfl rfl (fun v2 => ?_)
  show Y cx x _ _ _ _ [(0, vR a0), (1, vR a1), (2, vI a2), (3, vI v1), (4, vI v2)] _ _ _
  refine x_lp (fun (rc6 : Int → Int → Hp → RT) => ∀ (v3 : Int) (v4 : Int) (G5 : Hp), Y cx x 5 (some .int) 129 5 [(0, vR a0), (1, vR a1), (2, vI a2), (3, vI v3), (4, vI v4)] [] G5 (rc6 v3 v4 G5)) (fun _ _ _ => Y_none) (fun rc6 hrc6 v3 v4 G5 => ?_) 5000 v1 v2 G
  refine x_iload F dX5_suspects_5 rfl rfl ?_
  refine x_bipush F dX5_suspects_7 ⟨by decide, by decide⟩ (by decide) rfl ?_
  refine x_icmpge (pt := 45) F dX5_suspects_9 rfl rfl ?_ ?_
  · refine x_iload_n F dX5_suspects_12 rfl rfl rfl ?_
    refine x_iload F dX5_suspects_13 rfl rfl ?_
    refine x_ishr F dX5_suspects_15 rfl ?_
    refine x_iconst F dX5_suspects_16 ⟨by decide, by decide⟩ rfl ?_
    refine x_iand F dX5_suspects_17 rfl ?_
    refine x_iconst F dX5_suspects_18 ⟨by decide, by decide⟩ rfl ?_
    refine x_jn (fun (K9 : Int → Hp → RT) => ∀ (v7 : Int) (G8 : Hp), Y cx x 5 (some .int) 129 39 [(0, vR a0), (1, vR a1), (2, vI a2), (3, vI v7), (4, vI v4)] [] G8 (K9 v7 G8)) ?_ (fun K9 hK9 => ?_)
    · intro v7 G8
      refine x_iinc F dX5_suspects_39 rfl (by decide) rfl rfl (fun v10 => ?_)
      show Y cx x _ _ _ _ [(0, vR a0), (1, vR a1), (2, vI a2), (3, vI v7), (4, vI v10)] _ _ _
      refine x_goto (pc' := 5) F dX5_suspects_42 rfl ?_
      exact hrc6 v7 v10 G8
    · refine x_icmpne (pt := 39) F dX5_suspects_19 rfl rfl ?_ ?_
      · refine x_aload_n F dX5_suspects_22 rfl rfl rfl ?_
        refine x_aload_n F dX5_suspects_23 rfl rfl rfl ?_
        refine x_iload F dX5_suspects_24 rfl rfl ?_
        refine s_callV F [vR a1, vI v4] [] lkX5_29 mX5_fits rfl ha0 rfl hnE hn0 hd (tX5_fits cx.l x hi G5 a0 a1 v4 ha0 ha1) rfl rfl dX5_suspects_26 rfl rfl (fun v11 G12 => ?_)
        refine x_ifeq (pt := 39) F dX5_suspects_29 rfl rfl ?_ ?_
        · exact hK9 v3 G12
        · refine x_iload_n F dX5_suspects_32 rfl rfl rfl ?_
          refine x_iconst F dX5_suspects_33 ⟨by decide, by decide⟩ rfl ?_
          refine x_iload F dX5_suspects_34 rfl rfl ?_
          refine x_ishl F dX5_suspects_36 rfl ?_
          refine x_ior F dX5_suspects_37 rfl ?_
          refine x_istore_n F dX5_suspects_38 rfl (by decide) rfl rfl (fun v13 => ?_)
          show Y cx x _ _ _ _ [(0, vR a0), (1, vR a1), (2, vI a2), (3, vI v13), (4, vI v4)] _ _ _
          exact hK9 v13 G12
      · exact hK9 v3 G5
  · refine x_iload_n F dX5_suspects_45 rfl rfl rfl ?_
    exact x_iret F hnE hQ dX5_suspects_46
theorem dX5_bestQuestion_0 : decode cX5_bestQuestion 0 = .ok (.aload_n 0, 1) := by decide +kernel
theorem dX5_bestQuestion_1 : decode cX5_bestQuestion 1 = .ok (.aload_n 1, 1) := by decide +kernel
theorem dX5_bestQuestion_2 : decode cX5_bestQuestion 2 = .ok (.iload_n 2, 1) := by decide +kernel
theorem dX5_bestQuestion_3 : decode cX5_bestQuestion 3 = .ok (.invokevirtual 42, 3) := by decide +kernel
theorem dX5_bestQuestion_6 : decode cX5_bestQuestion 6 = .ok (.istore 4, 2) := by decide +kernel
theorem dX5_bestQuestion_8 : decode cX5_bestQuestion 8 = .ok (.iconst (-1), 1) := by decide +kernel
theorem dX5_bestQuestion_9 : decode cX5_bestQuestion 9 = .ok (.istore 5, 2) := by decide +kernel
theorem dX5_bestQuestion_11 : decode cX5_bestQuestion 11 = .ok (.iload 4, 2) := by decide +kernel
theorem dX5_bestQuestion_13 : decode cX5_bestQuestion 13 = .ok (.invokestatic 46, 3) := by decide +kernel
theorem dX5_bestQuestion_16 : decode cX5_bestQuestion 16 = .ok (.istore 6, 2) := by decide +kernel
theorem dX5_bestQuestion_18 : decode cX5_bestQuestion 18 = .ok (.iconst 0, 1) := by decide +kernel
theorem dX5_bestQuestion_19 : decode cX5_bestQuestion 19 = .ok (.istore 7, 2) := by decide +kernel
theorem dX5_bestQuestion_21 : decode cX5_bestQuestion 21 = .ok (.iload 7, 2) := by decide +kernel
theorem dX5_bestQuestion_23 : decode cX5_bestQuestion 23 = .ok (.iload_n 3, 1) := by decide +kernel
theorem dX5_bestQuestion_24 : decode cX5_bestQuestion 24 = .ok (.if_icmp .ge 41, 3) := by decide +kernel
theorem dX5_bestQuestion_27 : decode cX5_bestQuestion 27 = .ok (.iload 6, 2) := by decide +kernel
theorem dX5_bestQuestion_29 : decode cX5_bestQuestion 29 = .ok (.iconst 1, 1) := by decide +kernel
theorem dX5_bestQuestion_30 : decode cX5_bestQuestion 30 = .ok (.if_icmp .le 35, 3) := by decide +kernel
theorem dX5_bestQuestion_33 : decode cX5_bestQuestion 33 = .ok (.aload_n 0, 1) := by decide +kernel
theorem dX5_bestQuestion_34 : decode cX5_bestQuestion 34 = .ok (.aload_n 1, 1) := by decide +kernel
theorem dX5_bestQuestion_35 : decode cX5_bestQuestion 35 = .ok (.iload 4, 2) := by decide +kernel
theorem dX5_bestQuestion_37 : decode cX5_bestQuestion 37 = .ok (.iload 7, 2) := by decide +kernel
theorem dX5_bestQuestion_39 : decode cX5_bestQuestion 39 = .ok (.invokevirtual 52, 3) := by decide +kernel
theorem dX5_bestQuestion_42 : decode cX5_bestQuestion 42 = .ok (.istore 8, 2) := by decide +kernel
theorem dX5_bestQuestion_44 : decode cX5_bestQuestion 44 = .ok (.iload 8, 2) := by decide +kernel
theorem dX5_bestQuestion_46 : decode cX5_bestQuestion 46 = .ok (.iload 6, 2) := by decide +kernel
theorem dX5_bestQuestion_48 : decode cX5_bestQuestion 48 = .ok (.if_icmp .ge 11, 3) := by decide +kernel
theorem dX5_bestQuestion_51 : decode cX5_bestQuestion 51 = .ok (.iload 7, 2) := by decide +kernel
theorem dX5_bestQuestion_53 : decode cX5_bestQuestion 53 = .ok (.istore 5, 2) := by decide +kernel
theorem dX5_bestQuestion_55 : decode cX5_bestQuestion 55 = .ok (.iload 8, 2) := by decide +kernel
theorem dX5_bestQuestion_57 : decode cX5_bestQuestion 57 = .ok (.istore 6, 2) := by decide +kernel
theorem dX5_bestQuestion_59 : decode cX5_bestQuestion 59 = .ok (.iinc 7 1, 3) := by decide +kernel
theorem dX5_bestQuestion_62 : decode cX5_bestQuestion 62 = .ok (.goto (-41), 3) := by decide +kernel
theorem dX5_bestQuestion_65 : decode cX5_bestQuestion 65 = .ok (.iload 5, 2) := by decide +kernel
theorem dX5_bestQuestion_67 : decode cX5_bestQuestion 67 = .ok (.ireturn, 1) := by decide +kernel
def fX5_bestQuestion (a0 : Nat) (a1 : Nat) (a2 : Int) (a3 : Int) (G : Hp) : RT := bn (fX5_suspects a0 a1 a2 G) fun v1 G2 => bd v1 fun v3 => bd ((-1)) fun v4 => bp (fJ6_bitCount_0f7a4 v3 G2) fun v5 => bd v5 fun v6 => bd 0 fun v7 => (lp (fun (_ : Int) (_ : Int) (_ : Int) (_ : Hp) => (none : RT)) 5000 (fun (rc12 : Int → Int → Int → Hp → RT) (v8 : Int) (v9 : Int) (v10 : Int) (G11 : Hp) => if v10 < a3 then (if 1 < v9 then (bn (fX5_greatestGroup a0 a1 v3 v10 G11) fun v13 G14 => bd v13 fun v15 => jn (fun (v16 : Int) (v17 : Int) => bd (iadd v10 1) fun v19 => rc12 v16 v17 v19 G14) fun (K18 : Int → Int → RT) => if v15 < v9 then (bd v10 fun v20 => bd v15 fun v21 => K18 v20 v21) else K18 v8 v9) else rt v8 G11) else rt v8 G11)) v4 v6 v7 G2
set_option maxRecDepth 20000 in
set_option maxHeartbeats 4000000 in
theorem tX5_bestQuestion (l : Launch) (x : WX) (hi : Inj x.2.2) (G : Hp) (a0 : Nat) (a1 : Nat) (a2 : Int) (a3 : Int) (ha0 : kd a0 = 5) (ha1 : kd a1 = 1) : Ct l x yX5_bestQuestion cX5_bestQuestion 9 (some .int) 5 129 129 [vR a0, vR a1, vI a2, vI a3] G (fX5_bestQuestion a0 a1 a2 a3 G) := by
  refine ct_of (plainFor_of_name (by decide)) hi (Nat.le_refl _) (Nat.le_refl _) (Nat.le_of_ble_eq_true rfl) (fun cx F hd hn0 hnE hl hQ => ?_)
  subst hl
  have F : Fx cx x RX5 cX5_bestQuestion 9 (some .int) := F
  show Y cx x 9 (some .int) 129 0 [(0, vR a0), (1, vR a1), (2, vI a2), (3, vI a3)] [] G _
  unfold fX5_bestQuestion
  refine x_aload_n F dX5_bestQuestion_0 rfl rfl rfl ?_
  refine x_aload_n F dX5_bestQuestion_1 rfl rfl rfl ?_
  refine x_iload_n F dX5_bestQuestion_2 rfl rfl rfl ?_
  refine s_callV F [vR a1, vI a2] [] lkX5_42 mX5_suspects rfl ha0 rfl hnE hn0 hd (tX5_suspects cx.l x hi G a0 a1 a2 ha0 ha1) rfl rfl dX5_bestQuestion_3 rfl rfl (fun v1 G2 => ?_)
  refine x_dp (L' := [(0, vR a0), (1, vR a1), (3, vI a3)]) [0, 1, 3] rfl ?_
  refine x_istore F dX5_bestQuestion_6 (by decide) rfl rfl (fun v3 => ?_)
  show Y cx x _ _ _ _ [(0, vR a0), (1, vR a1), (3, vI a3), (4, vI v3)] _ _ _
  refine x_iconst F dX5_bestQuestion_8 ⟨by decide, by decide⟩ rfl ?_
  refine x_istore F dX5_bestQuestion_9 (by decide) rfl rfl (fun v4 => ?_)
  show Y cx x _ _ _ _ [(0, vR a0), (1, vR a1), (3, vI a3), (4, vI v3), (5, vI v4)] _ _ _
  refine x_iload F dX5_bestQuestion_11 rfl rfl ?_
  refine s_callSP F [vI v3] [] lkX5_46 mJ6_bitCount_0f7a4 hnE hn0 hd pJ6_bitCount_0f7a4 (tJ6_bitCount_0f7a4 cx.l x hi G2 v3) rfl rfl dX5_bestQuestion_13 rfl rfl (fun v5 => ?_)
  refine x_istore F dX5_bestQuestion_16 (by decide) rfl rfl (fun v6 => ?_)
  show Y cx x _ _ _ _ [(0, vR a0), (1, vR a1), (3, vI a3), (4, vI v3), (5, vI v4), (6, vI v6)] _ _ _
  refine x_iconst F dX5_bestQuestion_18 ⟨by decide, by decide⟩ rfl ?_
  refine x_istore F dX5_bestQuestion_19 (by decide) rfl rfl (fun v7 => ?_)
  show Y cx x _ _ _ _ [(0, vR a0), (1, vR a1), (3, vI a3), (4, vI v3), (5, vI v4), (6, vI v6), (7, vI v7)] _ _ _
  refine x_lp (fun (rc12 : Int → Int → Int → Hp → RT) => ∀ (v8 : Int) (v9 : Int) (v10 : Int) (G11 : Hp), Y cx x 9 (some .int) 129 21 [(0, vR a0), (1, vR a1), (3, vI a3), (4, vI v3), (5, vI v8), (6, vI v9), (7, vI v10)] [] G11 (rc12 v8 v9 v10 G11)) (fun _ _ _ _ => Y_none) (fun rc12 hrc12 v8 v9 v10 G11 => ?_) 5000 v4 v6 v7 G2
  refine x_iload F dX5_bestQuestion_21 rfl rfl ?_
  refine x_iload_n F dX5_bestQuestion_23 rfl rfl rfl ?_
  refine x_icmpge (pt := 65) F dX5_bestQuestion_24 rfl rfl ?_ ?_
  · refine x_iload F dX5_bestQuestion_27 rfl rfl ?_
    refine x_iconst F dX5_bestQuestion_29 ⟨by decide, by decide⟩ rfl ?_
    refine x_icmple (pt := 65) F dX5_bestQuestion_30 rfl rfl ?_ ?_
    · refine x_aload_n F dX5_bestQuestion_33 rfl rfl rfl ?_
      refine x_aload_n F dX5_bestQuestion_34 rfl rfl rfl ?_
      refine x_iload F dX5_bestQuestion_35 rfl rfl ?_
      refine x_iload F dX5_bestQuestion_37 rfl rfl ?_
      refine s_callV F [vR a1, vI v3, vI v10] [] lkX5_52 mX5_greatestGroup rfl ha0 rfl hnE hn0 hd (tX5_greatestGroup cx.l x hi G11 a0 a1 v3 v10 ha0 ha1) rfl rfl dX5_bestQuestion_39 rfl rfl (fun v13 G14 => ?_)
      refine x_istore F dX5_bestQuestion_42 (by decide) rfl rfl (fun v15 => ?_)
      show Y cx x _ _ _ _ [(0, vR a0), (1, vR a1), (3, vI a3), (4, vI v3), (5, vI v8), (6, vI v9), (7, vI v10), (8, vI v15)] _ _ _
      refine x_iload F dX5_bestQuestion_44 rfl rfl ?_
      refine x_iload F dX5_bestQuestion_46 rfl rfl ?_
      refine x_jn (fun (K18 : Int → Int → RT) => ∀ (v16 : Int) (v17 : Int), Y cx x 9 (some .int) 129 59 [(0, vR a0), (1, vR a1), (3, vI a3), (4, vI v3), (5, vI v16), (6, vI v17), (7, vI v10)] [] G14 (K18 v16 v17)) ?_ (fun K18 hK18 => ?_)
      · intro v16 v17
        refine x_iinc F dX5_bestQuestion_59 rfl (by decide) rfl rfl (fun v19 => ?_)
        show Y cx x _ _ _ _ [(0, vR a0), (1, vR a1), (3, vI a3), (4, vI v3), (5, vI v16), (6, vI v17), (7, vI v19)] _ _ _
        refine x_goto (pc' := 21) F dX5_bestQuestion_62 rfl ?_
        exact hrc12 v16 v17 v19 G14
      · refine x_icmpge (pt := 59) F dX5_bestQuestion_48 rfl rfl ?_ ?_
        · refine x_iload F dX5_bestQuestion_51 rfl rfl ?_
          refine x_dp (L' := [(0, vR a0), (1, vR a1), (3, vI a3), (4, vI v3), (5, vI v8), (7, vI v10), (8, vI v15)]) [0, 1, 2, 3, 4, 6, 7] rfl ?_
          refine x_istore F dX5_bestQuestion_53 (by decide) rfl rfl (fun v20 => ?_)
          show Y cx x _ _ _ _ [(0, vR a0), (1, vR a1), (3, vI a3), (4, vI v3), (5, vI v20), (7, vI v10), (8, vI v15)] _ _ _
          refine x_iload F dX5_bestQuestion_55 rfl rfl ?_
          refine x_dp (L' := [(0, vR a0), (1, vR a1), (3, vI a3), (4, vI v3), (5, vI v20), (7, vI v10)]) [0, 1, 2, 3, 4, 5] rfl ?_
          refine x_istore F dX5_bestQuestion_57 (by decide) rfl rfl (fun v21 => ?_)
          show Y cx x _ _ _ _ [(0, vR a0), (1, vR a1), (3, vI a3), (4, vI v3), (5, vI v20), (7, vI v10), (6, vI v21)] _ _ _
          refine x_dp (L' := [(0, vR a0), (1, vR a1), (3, vI a3), (4, vI v3), (5, vI v20), (6, vI v21), (7, vI v10)]) [0, 1, 2, 3, 4, 6, 5] rfl ?_
          exact hK18 v20 v21
        · refine x_dp (L' := [(0, vR a0), (1, vR a1), (3, vI a3), (4, vI v3), (5, vI v8), (6, vI v9), (7, vI v10)]) [0, 1, 2, 3, 4, 5, 6] rfl ?_
          exact hK18 v8 v9
    · refine x_iload F dX5_bestQuestion_65 rfl rfl ?_
      exact x_iret F hnE hQ dX5_bestQuestion_67
  · refine x_iload F dX5_bestQuestion_65 rfl rfl ?_
    exact x_iret F hnE hQ dX5_bestQuestion_67
