theorem dX10_clear_0 : decode cX10_clear 0 = .ok (.aload_n 0, 1) := by decide +kernel
theorem dX10_clear_1 : decode cX10_clear 1 = .ok (.iconst 0, 1) := by decide +kernel
theorem dX10_clear_2 : decode cX10_clear 2 = .ok (.putfield 21, 3) := by decide +kernel
theorem dX10_clear_5 : decode cX10_clear 5 = .ok (.return_, 1) := by decide +kernel
def fX10_clear (a0 : Nat) (G : Hp) : RT := bh (up G a0 3 0) fun G1 => rt 0 G1
set_option maxRecDepth 20000 in
set_option maxHeartbeats 4000000 in
theorem tX10_clear (l : Launch) (x : WX) (hi : Inj x.2.2) (G : Hp) (a0 : Nat) (ha0 : kd a0 = 10) : Ct l x yX10_clear cX10_clear 1 none 0 130 130 [vR a0] G (fX10_clear a0 G) := by
  refine ct_of (by decide) hi (Nat.le_refl _) (Nat.le_refl _) (Nat.le_of_ble_eq_true rfl) (fun cx F hd hn0 hnE hl => ?_)
  subst hl
  have F : Fx cx x RX10 cX10_clear 1 none := F
  show Y cx x 1 none 130 0 [(0, vR a0)] [] G _
  unfold fX10_clear
  refine x_aload_n F dX10_clear_0 rfl rfl rfl ?_
  refine x_iconst F dX10_clear_1 ⟨by decide, by decide⟩ rfl ?_
  refine s_putI F fpX10_21 ha0 rfl dX10_clear_2 rfl (fun G1 => ?_)
  exact x_vret F hnE dX10_clear_5
theorem dX10_copyFrom_0 : decode cX10_copyFrom 0 = .ok (.aload_n 0, 1) := by decide +kernel
theorem dX10_copyFrom_1 : decode cX10_copyFrom 1 = .ok (.aload_n 1, 1) := by decide +kernel
theorem dX10_copyFrom_2 : decode cX10_copyFrom 2 = .ok (.getfield 21, 3) := by decide +kernel
theorem dX10_copyFrom_5 : decode cX10_copyFrom 5 = .ok (.putfield 21, 3) := by decide +kernel
theorem dX10_copyFrom_8 : decode cX10_copyFrom 8 = .ok (.aload_n 1, 1) := by decide +kernel
theorem dX10_copyFrom_9 : decode cX10_copyFrom 9 = .ok (.getfield 9, 3) := by decide +kernel
theorem dX10_copyFrom_12 : decode cX10_copyFrom 12 = .ok (.iconst 0, 1) := by decide +kernel
theorem dX10_copyFrom_13 : decode cX10_copyFrom 13 = .ok (.aload_n 0, 1) := by decide +kernel
theorem dX10_copyFrom_14 : decode cX10_copyFrom 14 = .ok (.getfield 9, 3) := by decide +kernel
theorem dX10_copyFrom_17 : decode cX10_copyFrom 17 = .ok (.iconst 0, 1) := by decide +kernel
theorem dX10_copyFrom_18 : decode cX10_copyFrom 18 = .ok (.bipush 40, 2) := by decide +kernel
theorem dX10_copyFrom_20 : decode cX10_copyFrom 20 = .ok (.invokestatic 25, 3) := by decide +kernel
theorem dX10_copyFrom_23 : decode cX10_copyFrom 23 = .ok (.aload_n 1, 1) := by decide +kernel
theorem dX10_copyFrom_24 : decode cX10_copyFrom 24 = .ok (.getfield 15, 3) := by decide +kernel
theorem dX10_copyFrom_27 : decode cX10_copyFrom 27 = .ok (.iconst 0, 1) := by decide +kernel
theorem dX10_copyFrom_28 : decode cX10_copyFrom 28 = .ok (.aload_n 0, 1) := by decide +kernel
theorem dX10_copyFrom_29 : decode cX10_copyFrom 29 = .ok (.getfield 15, 3) := by decide +kernel
theorem dX10_copyFrom_32 : decode cX10_copyFrom 32 = .ok (.iconst 0, 1) := by decide +kernel
theorem dX10_copyFrom_33 : decode cX10_copyFrom 33 = .ok (.bipush 40, 2) := by decide +kernel
theorem dX10_copyFrom_35 : decode cX10_copyFrom 35 = .ok (.invokestatic 25, 3) := by decide +kernel
theorem dX10_copyFrom_38 : decode cX10_copyFrom 38 = .ok (.aload_n 1, 1) := by decide +kernel
theorem dX10_copyFrom_39 : decode cX10_copyFrom 39 = .ok (.getfield 18, 3) := by decide +kernel
theorem dX10_copyFrom_42 : decode cX10_copyFrom 42 = .ok (.iconst 0, 1) := by decide +kernel
theorem dX10_copyFrom_43 : decode cX10_copyFrom 43 = .ok (.aload_n 0, 1) := by decide +kernel
theorem dX10_copyFrom_44 : decode cX10_copyFrom 44 = .ok (.getfield 18, 3) := by decide +kernel
theorem dX10_copyFrom_47 : decode cX10_copyFrom 47 = .ok (.iconst 0, 1) := by decide +kernel
theorem dX10_copyFrom_48 : decode cX10_copyFrom 48 = .ok (.bipush 40, 2) := by decide +kernel
theorem dX10_copyFrom_50 : decode cX10_copyFrom 50 = .ok (.invokestatic 25, 3) := by decide +kernel
theorem dX10_copyFrom_53 : decode cX10_copyFrom 53 = .ok (.return_, 1) := by decide +kernel
def fX10_copyFrom (a0 : Nat) (a1 : Nat) (G : Hp) : RT := bh (up G a0 3 (G a1 3)) fun G1 => bs (cpO G1 ((rf a1 0)) 40 0 ((rf a0 0)) 40 0 40) fun G2 => bs (cpO G2 ((rf a1 1)) 40 0 ((rf a0 1)) 40 0 40) fun G3 => bs (cpO G3 ((rf a1 2)) 40 0 ((rf a0 2)) 40 0 40) fun G4 => rt 0 G4
set_option maxRecDepth 20000 in
set_option maxHeartbeats 4000000 in
theorem tX10_copyFrom (l : Launch) (x : WX) (hi : Inj x.2.2) (G : Hp) (a0 : Nat) (a1 : Nat) (ha0 : kd a0 = 10) (ha1 : kd a1 = 10) : Ct l x yX10_copyFrom cX10_copyFrom 2 none 1 130 130 [vR a0, vR a1] G (fX10_copyFrom a0 a1 G) := by
  refine ct_of (by decide) hi (Nat.le_refl _) (Nat.le_refl _) (Nat.le_of_ble_eq_true rfl) (fun cx F hd hn0 hnE hl => ?_)
  subst hl
  have F : Fx cx x RX10 cX10_copyFrom 2 none := F
  show Y cx x 2 none 130 0 [(0, vR a0), (1, vR a1)] [] G _
  unfold fX10_copyFrom
  refine x_aload_n F dX10_copyFrom_0 rfl rfl rfl ?_
  refine x_aload_n F dX10_copyFrom_1 rfl rfl rfl ?_
  refine s_getI F flX10_21 ha1 rfl dX10_copyFrom_2 rfl ?_
  refine s_putI F fpX10_21 ha0 rfl dX10_copyFrom_5 rfl (fun G1 => ?_)
  refine x_aload_n F dX10_copyFrom_8 rfl rfl rfl ?_
  refine x_getR F flX10_9 ha1 rfl dX10_copyFrom_9 rfl ?_
  refine x_iconst F dX10_copyFrom_12 ⟨by decide, by decide⟩ rfl ?_
  refine x_aload_n F dX10_copyFrom_13 rfl rfl rfl ?_
  refine x_getR F flX10_9 ha0 rfl dX10_copyFrom_14 rfl ?_
  refine x_iconst F dX10_copyFrom_17 ⟨by decide, by decide⟩ rfl ?_
  refine x_bipush F dX10_copyFrom_18 ⟨by decide, by decide⟩ (by decide) rfl ?_
  refine x_cpyI F lkX10_25 acw (tf10_0 ha1).1 (tf10_0 ha0).1 (tf10_0 ha1).2 (tf10_0 ha0).2 (kl (tf10_0 ha1).1 rfl) (kl (tf10_0 ha0).1 rfl) (Nat.le_refl _) (le_d (d' := 0) hd rfl) (Nat.le_of_ble_eq_true rfl) dX10_copyFrom_20 rfl (fun G2 => ?_)
  refine x_aload_n F dX10_copyFrom_23 rfl rfl rfl ?_
  refine x_getR F flX10_15 ha1 rfl dX10_copyFrom_24 rfl ?_
  refine x_iconst F dX10_copyFrom_27 ⟨by decide, by decide⟩ rfl ?_
  refine x_aload_n F dX10_copyFrom_28 rfl rfl rfl ?_
  refine x_getR F flX10_15 ha0 rfl dX10_copyFrom_29 rfl ?_
  refine x_iconst F dX10_copyFrom_32 ⟨by decide, by decide⟩ rfl ?_
  refine x_bipush F dX10_copyFrom_33 ⟨by decide, by decide⟩ (by decide) rfl ?_
  refine x_cpyI F lkX10_25 acw (tf10_1 ha1).1 (tf10_1 ha0).1 (tf10_1 ha1).2 (tf10_1 ha0).2 (kl (tf10_1 ha1).1 rfl) (kl (tf10_1 ha0).1 rfl) (Nat.le_refl _) (le_d (d' := 0) hd rfl) (Nat.le_of_ble_eq_true rfl) dX10_copyFrom_35 rfl (fun G3 => ?_)
  refine x_aload_n F dX10_copyFrom_38 rfl rfl rfl ?_
  refine x_getR F flX10_18 ha1 rfl dX10_copyFrom_39 rfl ?_
  refine x_iconst F dX10_copyFrom_42 ⟨by decide, by decide⟩ rfl ?_
  refine x_aload_n F dX10_copyFrom_43 rfl rfl rfl ?_
  refine x_getR F flX10_18 ha0 rfl dX10_copyFrom_44 rfl ?_
  refine x_iconst F dX10_copyFrom_47 ⟨by decide, by decide⟩ rfl ?_
  refine x_bipush F dX10_copyFrom_48 ⟨by decide, by decide⟩ (by decide) rfl ?_
  refine x_cpyI F lkX10_25 acw (tf10_2 ha1).1 (tf10_2 ha0).1 (tf10_2 ha1).2 (tf10_2 ha0).2 (kl (tf10_2 ha1).1 rfl) (kl (tf10_2 ha0).1 rfl) (Nat.le_refl _) (le_d (d' := 0) hd rfl) (Nat.le_of_ble_eq_true rfl) dX10_copyFrom_50 rfl (fun G4 => ?_)
  exact x_vret F hnE dX10_copyFrom_53
