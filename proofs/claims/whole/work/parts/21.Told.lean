theorem dX8_clear_0 : decode cX8_clear 0 = .ok (.aload_n 0, 1) := by decide +kernel
theorem dX8_clear_1 : decode cX8_clear 1 = .ok (.iconst 0, 1) := by decide +kernel
theorem dX8_clear_2 : decode cX8_clear 2 = .ok (.putfield 35, 3) := by decide +kernel
theorem dX8_clear_5 : decode cX8_clear 5 = .ok (.aload_n 0, 1) := by decide +kernel
theorem dX8_clear_6 : decode cX8_clear 6 = .ok (.iconst 2, 1) := by decide +kernel
theorem dX8_clear_7 : decode cX8_clear 7 = .ok (.putfield 9, 3) := by decide +kernel
theorem dX8_clear_10 : decode cX8_clear 10 = .ok (.aload_n 0, 1) := by decide +kernel
theorem dX8_clear_11 : decode cX8_clear 11 = .ok (.iconst 0, 1) := by decide +kernel
theorem dX8_clear_12 : decode cX8_clear 12 = .ok (.putfield 38, 3) := by decide +kernel
theorem dX8_clear_15 : decode cX8_clear 15 = .ok (.aload_n 0, 1) := by decide +kernel
theorem dX8_clear_16 : decode cX8_clear 16 = .ok (.iconst 0, 1) := by decide +kernel
theorem dX8_clear_17 : decode cX8_clear 17 = .ok (.putfield 41, 3) := by decide +kernel
theorem dX8_clear_20 : decode cX8_clear 20 = .ok (.return_, 1) := by decide +kernel
def fX8_clear (a0 : Nat) (G : Hp) : RT := bh (up G a0 0 0) fun G1 => bh (up G1 a0 1 2) fun G2 => bh (up G2 a0 2 0) fun G3 => bh (up G3 a0 3 0) fun G4 => rt 0 G4
set_option maxRecDepth 20000 in
set_option maxHeartbeats 4000000 in
theorem tX8_clear (l : Launch) (x : WX) (hi : Inj x.2.2) (G : Hp) (a0 : Nat) (ha0 : kd a0 = 8) : Ct l x yX8_clear cX8_clear 1 none 0 129 129 [vR a0] G (fX8_clear a0 G) := by
  refine ct_of (plainFor_of_name (by decide)) hi (Nat.le_refl _) (Nat.le_refl _) (Nat.le_of_ble_eq_true rfl) (fun cx F hd hn0 hnE hl hQ => ?_)
  subst hl
  have F : Fx cx x RX8 cX8_clear 1 none := F
  show Y cx x 1 none 129 0 [(0, vR a0)] [] G _
  unfold fX8_clear
  refine x_aload_n F dX8_clear_0 rfl rfl rfl ?_
  refine x_iconst F dX8_clear_1 ⟨by decide, by decide⟩ rfl ?_
  refine s_putI F fpX8_35 ha0 rfl dX8_clear_2 rfl (fun G1 => ?_)
  refine x_aload_n F dX8_clear_5 rfl rfl rfl ?_
  refine x_iconst F dX8_clear_6 ⟨by decide, by decide⟩ rfl ?_
  refine s_putI F fpX8_9 ha0 rfl dX8_clear_7 rfl (fun G2 => ?_)
  refine x_aload_n F dX8_clear_10 rfl rfl rfl ?_
  refine x_iconst F dX8_clear_11 ⟨by decide, by decide⟩ rfl ?_
  refine s_putI F fpX8_38 ha0 rfl dX8_clear_12 rfl (fun G3 => ?_)
  refine x_aload_n F dX8_clear_15 rfl rfl rfl ?_
  refine x_iconst F dX8_clear_16 ⟨by decide, by decide⟩ rfl ?_
  refine s_putI F fpX8_41 ha0 rfl dX8_clear_17 rfl (fun G4 => ?_)
  exact x_vret F hnE hQ dX8_clear_20
theorem dX8_isNode_0 : decode cX8_isNode 0 = .ok (.iload_n 1, 1) := by decide +kernel
theorem dX8_isNode_1 : decode cX8_isNode 1 = .ok (.ifCond .lt 15, 3) := by decide +kernel
theorem dX8_isNode_4 : decode cX8_isNode 4 = .ok (.iload_n 1, 1) := by decide +kernel
theorem dX8_isNode_5 : decode cX8_isNode 5 = .ok (.aload_n 0, 1) := by decide +kernel
theorem dX8_isNode_6 : decode cX8_isNode 6 = .ok (.getfield 38, 3) := by decide +kernel
theorem dX8_isNode_9 : decode cX8_isNode 9 = .ok (.if_icmp .ge 7, 3) := by decide +kernel
theorem dX8_isNode_12 : decode cX8_isNode 12 = .ok (.iconst 1, 1) := by decide +kernel
theorem dX8_isNode_13 : decode cX8_isNode 13 = .ok (.goto 4, 3) := by decide +kernel
theorem dX8_isNode_16 : decode cX8_isNode 16 = .ok (.iconst 0, 1) := by decide +kernel
theorem dX8_isNode_17 : decode cX8_isNode 17 = .ok (.ireturn, 1) := by decide +kernel
def fX8_isNode (a0 : Nat) (a1 : Int) (G : Hp) : RT := if a1 < 0 then rz 0 G else (if a1 < (G a0 2) then rz 1 G else rz 0 G)
theorem pX8_isNode {G : Hp} {a0 : Nat} {a1 : Int} : PU G (fX8_isNode a0 a1 G) := by
  unfold fX8_isNode
  refine PU_ite ?_ ?_
  · exact PU_rz
  · refine PU_ite ?_ ?_
    · exact PU_rz
    · exact PU_rz
set_option maxRecDepth 20000 in
set_option maxHeartbeats 4000000 in
theorem tX8_isNode (l : Launch) (x : WX) (hi : Inj x.2.2) (G : Hp) (a0 : Nat) (a1 : Int) (ha0 : kd a0 = 8) : Ct l x yX8_isNode cX8_isNode 2 (some .boolean) 0 129 129 [vR a0, vI a1] G (fX8_isNode a0 a1 G) := by
  refine ct_of (plainFor_of_name (by decide)) hi (Nat.le_refl _) (Nat.le_refl _) (Nat.le_of_ble_eq_true rfl) (fun cx F hd hn0 hnE hl hQ => ?_)
  subst hl
  have F : Fx cx x RX8 cX8_isNode 2 (some .boolean) := F
  show Y cx x 2 (some .boolean) 129 0 [(0, vR a0), (1, vI a1)] [] G _
  unfold fX8_isNode
  refine x_iload_n F dX8_isNode_0 rfl rfl rfl ?_
  refine x_iflt (pt := 16) F dX8_isNode_1 rfl rfl ?_ ?_
  · refine x_iconst F dX8_isNode_16 ⟨by decide, by decide⟩ rfl ?_
    exact x_zret F hnE hQ dX8_isNode_17
  · refine x_iload_n F dX8_isNode_4 rfl rfl rfl ?_
    refine x_aload_n F dX8_isNode_5 rfl rfl rfl ?_
    refine s_getI F flX8_38 ha0 rfl dX8_isNode_6 rfl ?_
    refine x_icmpge (pt := 16) F dX8_isNode_9 rfl rfl ?_ ?_
    · refine x_iconst F dX8_isNode_12 ⟨by decide, by decide⟩ rfl ?_
      refine x_goto (pc' := 17) F dX8_isNode_13 rfl ?_
      exact x_zret F hnE hQ dX8_isNode_17
    · refine x_iconst F dX8_isNode_16 ⟨by decide, by decide⟩ rfl ?_
      exact x_zret F hnE hQ dX8_isNode_17
theorem dX8_isKey_0 : decode cX8_isKey 0 = .ok (.iload_n 1, 1) := by decide +kernel
theorem dX8_isKey_1 : decode cX8_isKey 1 = .ok (.ifCond .lt 15, 3) := by decide +kernel
theorem dX8_isKey_4 : decode cX8_isKey 4 = .ok (.iload_n 1, 1) := by decide +kernel
theorem dX8_isKey_5 : decode cX8_isKey 5 = .ok (.aload_n 0, 1) := by decide +kernel
theorem dX8_isKey_6 : decode cX8_isKey 6 = .ok (.getfield 41, 3) := by decide +kernel
theorem dX8_isKey_9 : decode cX8_isKey 9 = .ok (.if_icmp .ge 7, 3) := by decide +kernel
theorem dX8_isKey_12 : decode cX8_isKey 12 = .ok (.iconst 1, 1) := by decide +kernel
theorem dX8_isKey_13 : decode cX8_isKey 13 = .ok (.goto 4, 3) := by decide +kernel
theorem dX8_isKey_16 : decode cX8_isKey 16 = .ok (.iconst 0, 1) := by decide +kernel
theorem dX8_isKey_17 : decode cX8_isKey 17 = .ok (.ireturn, 1) := by decide +kernel
def fX8_isKey (a0 : Nat) (a1 : Int) (G : Hp) : RT := if a1 < 0 then rz 0 G else (if a1 < (G a0 3) then rz 1 G else rz 0 G)
theorem pX8_isKey {G : Hp} {a0 : Nat} {a1 : Int} : PU G (fX8_isKey a0 a1 G) := by
  unfold fX8_isKey
  refine PU_ite ?_ ?_
  · exact PU_rz
  · refine PU_ite ?_ ?_
    · exact PU_rz
    · exact PU_rz
set_option maxRecDepth 20000 in
set_option maxHeartbeats 4000000 in
theorem tX8_isKey (l : Launch) (x : WX) (hi : Inj x.2.2) (G : Hp) (a0 : Nat) (a1 : Int) (ha0 : kd a0 = 8) : Ct l x yX8_isKey cX8_isKey 2 (some .boolean) 0 129 129 [vR a0, vI a1] G (fX8_isKey a0 a1 G) := by
  refine ct_of (plainFor_of_name (by decide)) hi (Nat.le_refl _) (Nat.le_refl _) (Nat.le_of_ble_eq_true rfl) (fun cx F hd hn0 hnE hl hQ => ?_)
  subst hl
  have F : Fx cx x RX8 cX8_isKey 2 (some .boolean) := F
  show Y cx x 2 (some .boolean) 129 0 [(0, vR a0), (1, vI a1)] [] G _
  unfold fX8_isKey
  refine x_iload_n F dX8_isKey_0 rfl rfl rfl ?_
  refine x_iflt (pt := 16) F dX8_isKey_1 rfl rfl ?_ ?_
  · refine x_iconst F dX8_isKey_16 ⟨by decide, by decide⟩ rfl ?_
    exact x_zret F hnE hQ dX8_isKey_17
  · refine x_iload_n F dX8_isKey_4 rfl rfl rfl ?_
    refine x_aload_n F dX8_isKey_5 rfl rfl rfl ?_
    refine s_getI F flX8_41 ha0 rfl dX8_isKey_6 rfl ?_
    refine x_icmpge (pt := 16) F dX8_isKey_9 rfl rfl ?_ ?_
    · refine x_iconst F dX8_isKey_12 ⟨by decide, by decide⟩ rfl ?_
      refine x_goto (pc' := 17) F dX8_isKey_13 rfl ?_
      exact x_zret F hnE hQ dX8_isKey_17
    · refine x_iconst F dX8_isKey_16 ⟨by decide, by decide⟩ rfl ?_
      exact x_zret F hnE hQ dX8_isKey_17
theorem dX8_isPlace_0 : decode cX8_isPlace 0 = .ok (.iload_n 1, 1) := by decide +kernel
theorem dX8_isPlace_1 : decode cX8_isPlace 1 = .ok (.ifCond .lt 15, 3) := by decide +kernel
theorem dX8_isPlace_4 : decode cX8_isPlace 4 = .ok (.iload_n 1, 1) := by decide +kernel
theorem dX8_isPlace_5 : decode cX8_isPlace 5 = .ok (.aload_n 0, 1) := by decide +kernel
theorem dX8_isPlace_6 : decode cX8_isPlace 6 = .ok (.getfield 35, 3) := by decide +kernel
theorem dX8_isPlace_9 : decode cX8_isPlace 9 = .ok (.if_icmp .ge 7, 3) := by decide +kernel
theorem dX8_isPlace_12 : decode cX8_isPlace 12 = .ok (.iconst 1, 1) := by decide +kernel
theorem dX8_isPlace_13 : decode cX8_isPlace 13 = .ok (.goto 4, 3) := by decide +kernel
theorem dX8_isPlace_16 : decode cX8_isPlace 16 = .ok (.iconst 0, 1) := by decide +kernel
theorem dX8_isPlace_17 : decode cX8_isPlace 17 = .ok (.ireturn, 1) := by decide +kernel
def fX8_isPlace (a0 : Nat) (a1 : Int) (G : Hp) : RT := if a1 < 0 then rz 0 G else (if a1 < (G a0 0) then rz 1 G else rz 0 G)
theorem pX8_isPlace {G : Hp} {a0 : Nat} {a1 : Int} : PU G (fX8_isPlace a0 a1 G) := by
  unfold fX8_isPlace
  refine PU_ite ?_ ?_
  · exact PU_rz
  · refine PU_ite ?_ ?_
    · exact PU_rz
    · exact PU_rz
set_option maxRecDepth 20000 in
set_option maxHeartbeats 4000000 in
theorem tX8_isPlace (l : Launch) (x : WX) (hi : Inj x.2.2) (G : Hp) (a0 : Nat) (a1 : Int) (ha0 : kd a0 = 8) : Ct l x yX8_isPlace cX8_isPlace 2 (some .boolean) 0 129 129 [vR a0, vI a1] G (fX8_isPlace a0 a1 G) := by
  refine ct_of (plainFor_of_name (by decide)) hi (Nat.le_refl _) (Nat.le_refl _) (Nat.le_of_ble_eq_true rfl) (fun cx F hd hn0 hnE hl hQ => ?_)
  subst hl
  have F : Fx cx x RX8 cX8_isPlace 2 (some .boolean) := F
  show Y cx x 2 (some .boolean) 129 0 [(0, vR a0), (1, vI a1)] [] G _
  unfold fX8_isPlace
  refine x_iload_n F dX8_isPlace_0 rfl rfl rfl ?_
  refine x_iflt (pt := 16) F dX8_isPlace_1 rfl rfl ?_ ?_
  · refine x_iconst F dX8_isPlace_16 ⟨by decide, by decide⟩ rfl ?_
    exact x_zret F hnE hQ dX8_isPlace_17
  · refine x_iload_n F dX8_isPlace_4 rfl rfl rfl ?_
    refine x_aload_n F dX8_isPlace_5 rfl rfl rfl ?_
    refine s_getI F flX8_35 ha0 rfl dX8_isPlace_6 rfl ?_
    refine x_icmpge (pt := 16) F dX8_isPlace_9 rfl rfl ?_ ?_
    · refine x_iconst F dX8_isPlace_12 ⟨by decide, by decide⟩ rfl ?_
      refine x_goto (pc' := 17) F dX8_isPlace_13 rfl ?_
      exact x_zret F hnE hQ dX8_isPlace_17
    · refine x_iconst F dX8_isPlace_16 ⟨by decide, by decide⟩ rfl ?_
      exact x_zret F hnE hQ dX8_isPlace_17
theorem dX8_nodeAt_0 : decode cX8_nodeAt 0 = .ok (.iconst 0, 1) := by decide +kernel
theorem dX8_nodeAt_1 : decode cX8_nodeAt 1 = .ok (.istore_n 2, 1) := by decide +kernel
theorem dX8_nodeAt_2 : decode cX8_nodeAt 2 = .ok (.iload_n 2, 1) := by decide +kernel
theorem dX8_nodeAt_3 : decode cX8_nodeAt 3 = .ok (.aload_n 0, 1) := by decide +kernel
theorem dX8_nodeAt_4 : decode cX8_nodeAt 4 = .ok (.getfield 38, 3) := by decide +kernel
theorem dX8_nodeAt_7 : decode cX8_nodeAt 7 = .ok (.if_icmp .ge 21, 3) := by decide +kernel
theorem dX8_nodeAt_10 : decode cX8_nodeAt 10 = .ok (.aload_n 0, 1) := by decide +kernel
theorem dX8_nodeAt_11 : decode cX8_nodeAt 11 = .ok (.getfield 19, 3) := by decide +kernel
theorem dX8_nodeAt_14 : decode cX8_nodeAt 14 = .ok (.iload_n 2, 1) := by decide +kernel
theorem dX8_nodeAt_15 : decode cX8_nodeAt 15 = .ok (.iaload, 1) := by decide +kernel
theorem dX8_nodeAt_16 : decode cX8_nodeAt 16 = .ok (.iload_n 1, 1) := by decide +kernel
theorem dX8_nodeAt_17 : decode cX8_nodeAt 17 = .ok (.if_icmp .ne 5, 3) := by decide +kernel
theorem dX8_nodeAt_20 : decode cX8_nodeAt 20 = .ok (.iload_n 2, 1) := by decide +kernel
theorem dX8_nodeAt_21 : decode cX8_nodeAt 21 = .ok (.ireturn, 1) := by decide +kernel
theorem dX8_nodeAt_22 : decode cX8_nodeAt 22 = .ok (.iinc 2 1, 3) := by decide +kernel
theorem dX8_nodeAt_25 : decode cX8_nodeAt 25 = .ok (.goto (-23), 3) := by decide +kernel
theorem dX8_nodeAt_28 : decode cX8_nodeAt 28 = .ok (.iconst (-1), 1) := by decide +kernel
theorem dX8_nodeAt_29 : decode cX8_nodeAt 29 = .ok (.ireturn, 1) := by decide +kernel
def fX8_nodeAt (a0 : Nat) (a1 : Int) (G : Hp) : RT := bd 0 fun v1 => (lp (fun (_ : Int) => (none : RT)) 5000 (fun (rc3 : Int → RT) (v2 : Int) => if v2 < (G a0 2) then (br (rd G ((rf a0 5)) 8 v2) fun v4 => if v4 = a1 then rt v2 G else (bd (iadd v2 1) fun v5 => rc3 v5)) else (rt ((-1)) G))) v1
theorem pX8_nodeAt {G : Hp} {a0 : Nat} {a1 : Int} : PU G (fX8_nodeAt a0 a1 G) := by
  unfold fX8_nodeAt
  refine PU_bd (fun v1 => ?_)
  refine x_lp (fun (rc3 : Int → RT) => ∀ (v2 : Int), PU G (rc3 v2)) (fun _ => PU_none) (fun rc3 phrc3 v2 => ?_) 5000 v1
  refine PU_ite ?_ ?_
  · refine PU_br (fun v4 => ?_)
    refine PU_ite ?_ ?_
    · exact PU_rt
    · refine PU_bd (fun v5 => ?_)
      exact phrc3 v5
  · exact PU_rt
set_option maxRecDepth 20000 in
set_option maxHeartbeats 4000000 in
theorem tX8_nodeAt (l : Launch) (x : WX) (hi : Inj x.2.2) (G : Hp) (a0 : Nat) (a1 : Int) (ha0 : kd a0 = 8) : Ct l x yX8_nodeAt cX8_nodeAt 3 (some .int) 0 129 129 [vR a0, vI a1] G (fX8_nodeAt a0 a1 G) := by
  refine ct_of (plainFor_of_name (by decide)) hi (Nat.le_refl _) (Nat.le_refl _) (Nat.le_of_ble_eq_true rfl) (fun cx F hd hn0 hnE hl hQ => ?_)
  subst hl
  have F : Fx cx x RX8 cX8_nodeAt 3 (some .int) := F
  show Y cx x 3 (some .int) 129 0 [(0, vR a0), (1, vI a1)] [] G _
  unfold fX8_nodeAt
  refine x_iconst F dX8_nodeAt_0 ⟨by decide, by decide⟩ rfl ?_
  refine x_istore_n F dX8_nodeAt_1 rfl (by decide) rfl rfl (fun v1 => ?_)
  show Y cx x _ _ _ _ [(0, vR a0), (1, vI a1), (2, vI v1)] _ _ _
  refine x_lp (fun (rc3 : Int → RT) => ∀ (v2 : Int), Y cx x 3 (some .int) 129 2 [(0, vR a0), (1, vI a1), (2, vI v2)] [] G (rc3 v2)) (fun _ => Y_none) (fun rc3 hrc3 v2 => ?_) 5000 v1
  refine x_iload_n F dX8_nodeAt_2 rfl rfl rfl ?_
  refine x_aload_n F dX8_nodeAt_3 rfl rfl rfl ?_
  refine s_getI F flX8_38 ha0 rfl dX8_nodeAt_4 rfl ?_
  refine x_icmpge (pt := 28) F dX8_nodeAt_7 rfl rfl ?_ ?_
  · refine x_aload_n F dX8_nodeAt_10 rfl rfl rfl ?_
    refine x_getR F flX8_19 ha0 rfl dX8_nodeAt_11 rfl ?_
    refine x_iload_n F dX8_nodeAt_14 rfl rfl rfl ?_
    refine s_iald F (tf8_5 ha0).1 (tf8_5 ha0).2 dX8_nodeAt_15 rfl (fun v4 => ?_)
    refine x_iload_n F dX8_nodeAt_16 rfl rfl rfl ?_
    refine x_icmpne (pt := 22) F dX8_nodeAt_17 rfl rfl ?_ ?_
    · refine x_iload_n F dX8_nodeAt_20 rfl rfl rfl ?_
      exact x_iret F hnE hQ dX8_nodeAt_21
    · refine x_iinc F dX8_nodeAt_22 rfl (by decide) rfl rfl (fun v5 => ?_)
      show Y cx x _ _ _ _ [(0, vR a0), (1, vI a1), (2, vI v5)] _ _ _
      refine x_goto (pc' := 2) F dX8_nodeAt_25 rfl ?_
      exact hrc3 v5
  · refine x_iconst F dX8_nodeAt_28 ⟨by decide, by decide⟩ rfl ?_
    exact x_iret F hnE hQ dX8_nodeAt_29
theorem dX8_nodeNamed_0 : decode cX8_nodeNamed 0 = .ok (.iconst 0, 1) := by decide +kernel
theorem dX8_nodeNamed_1 : decode cX8_nodeNamed 1 = .ok (.istore_n 3, 1) := by decide +kernel
theorem dX8_nodeNamed_2 : decode cX8_nodeNamed 2 = .ok (.iload_n 3, 1) := by decide +kernel
theorem dX8_nodeNamed_3 : decode cX8_nodeNamed 3 = .ok (.aload_n 0, 1) := by decide +kernel
theorem dX8_nodeNamed_4 : decode cX8_nodeNamed 4 = .ok (.getfield 38, 3) := by decide +kernel
theorem dX8_nodeNamed_7 : decode cX8_nodeNamed 7 = .ok (.if_icmp .ge 22, 3) := by decide +kernel
theorem dX8_nodeNamed_10 : decode cX8_nodeNamed 10 = .ok (.aload_n 0, 1) := by decide +kernel
theorem dX8_nodeNamed_11 : decode cX8_nodeNamed 11 = .ok (.getfield 22, 3) := by decide +kernel
theorem dX8_nodeNamed_14 : decode cX8_nodeNamed 14 = .ok (.iload_n 3, 1) := by decide +kernel
theorem dX8_nodeNamed_15 : decode cX8_nodeNamed 15 = .ok (.laload, 1) := by decide +kernel
theorem dX8_nodeNamed_16 : decode cX8_nodeNamed 16 = .ok (.lload_n 1, 1) := by decide +kernel
theorem dX8_nodeNamed_17 : decode cX8_nodeNamed 17 = .ok (.lcmp, 1) := by decide +kernel
theorem dX8_nodeNamed_18 : decode cX8_nodeNamed 18 = .ok (.ifCond .ne 5, 3) := by decide +kernel
theorem dX8_nodeNamed_21 : decode cX8_nodeNamed 21 = .ok (.iload_n 3, 1) := by decide +kernel
theorem dX8_nodeNamed_22 : decode cX8_nodeNamed 22 = .ok (.ireturn, 1) := by decide +kernel
theorem dX8_nodeNamed_23 : decode cX8_nodeNamed 23 = .ok (.iinc 3 1, 3) := by decide +kernel
theorem dX8_nodeNamed_26 : decode cX8_nodeNamed 26 = .ok (.goto (-24), 3) := by decide +kernel
theorem dX8_nodeNamed_29 : decode cX8_nodeNamed 29 = .ok (.iconst (-1), 1) := by decide +kernel
theorem dX8_nodeNamed_30 : decode cX8_nodeNamed 30 = .ok (.ireturn, 1) := by decide +kernel
def fX8_nodeNamed (a0 : Nat) (a1 : Int) (G : Hp) : RT := bd 0 fun v1 => (lp (fun (_ : Int) => (none : RT)) 5000 (fun (rc3 : Int → RT) (v2 : Int) => if v2 < (G a0 2) then (br (rd G ((rf a0 6)) 8 v2) fun v4 => if (lcmp' v4 a1) = 0 then rt v2 G else (bd (iadd v2 1) fun v5 => rc3 v5)) else (rt ((-1)) G))) v1
theorem pX8_nodeNamed {G : Hp} {a0 : Nat} {a1 : Int} : PU G (fX8_nodeNamed a0 a1 G) := by
  unfold fX8_nodeNamed
  refine PU_bd (fun v1 => ?_)
  refine x_lp (fun (rc3 : Int → RT) => ∀ (v2 : Int), PU G (rc3 v2)) (fun _ => PU_none) (fun rc3 phrc3 v2 => ?_) 5000 v1
  refine PU_ite ?_ ?_
  · refine PU_br (fun v4 => ?_)
    refine PU_ite ?_ ?_
    · exact PU_rt
    · refine PU_bd (fun v5 => ?_)
      exact phrc3 v5
  · exact PU_rt
set_option maxRecDepth 20000 in
set_option maxHeartbeats 4000000 in
theorem tX8_nodeNamed (l : Launch) (x : WX) (hi : Inj x.2.2) (G : Hp) (a0 : Nat) (a1 : Int) (ha0 : kd a0 = 8) : Ct l x yX8_nodeNamed cX8_nodeNamed 4 (some .int) 0 129 129 [vR a0, vL a1] G (fX8_nodeNamed a0 a1 G) := by
  refine ct_of (plainFor_of_name (by decide)) hi (Nat.le_refl _) (Nat.le_refl _) (Nat.le_of_ble_eq_true rfl) (fun cx F hd hn0 hnE hl hQ => ?_)
  subst hl
  have F : Fx cx x RX8 cX8_nodeNamed 4 (some .int) := F
  show Y cx x 4 (some .int) 129 0 [(0, vR a0), (1, vL a1)] [] G _
  unfold fX8_nodeNamed
  refine x_iconst F dX8_nodeNamed_0 ⟨by decide, by decide⟩ rfl ?_
  refine x_istore_n F dX8_nodeNamed_1 rfl (by decide) rfl rfl (fun v1 => ?_)
  show Y cx x _ _ _ _ [(0, vR a0), (1, vL a1), (3, vI v1)] _ _ _
  refine x_lp (fun (rc3 : Int → RT) => ∀ (v2 : Int), Y cx x 4 (some .int) 129 2 [(0, vR a0), (1, vL a1), (3, vI v2)] [] G (rc3 v2)) (fun _ => Y_none) (fun rc3 hrc3 v2 => ?_) 5000 v1
  refine x_iload_n F dX8_nodeNamed_2 rfl rfl rfl ?_
  refine x_aload_n F dX8_nodeNamed_3 rfl rfl rfl ?_
  refine s_getI F flX8_38 ha0 rfl dX8_nodeNamed_4 rfl ?_
  refine x_icmpge (pt := 29) F dX8_nodeNamed_7 rfl rfl ?_ ?_
  · refine x_aload_n F dX8_nodeNamed_10 rfl rfl rfl ?_
    refine x_getR F flX8_22 ha0 rfl dX8_nodeNamed_11 rfl ?_
    refine x_iload_n F dX8_nodeNamed_14 rfl rfl rfl ?_
    refine s_lald F (tf8_6 ha0).1 (tf8_6 ha0).2 dX8_nodeNamed_15 rfl (fun v4 => ?_)
    refine x_lload_n F dX8_nodeNamed_16 rfl rfl rfl ?_
    refine x_lcmp F dX8_nodeNamed_17 rfl ?_
    refine x_ifne (pt := 23) F dX8_nodeNamed_18 rfl rfl ?_ ?_
    · refine x_iload_n F dX8_nodeNamed_21 rfl rfl rfl ?_
      exact x_iret F hnE hQ dX8_nodeNamed_22
    · refine x_iinc F dX8_nodeNamed_23 rfl (by decide) rfl rfl (fun v5 => ?_)
      show Y cx x _ _ _ _ [(0, vR a0), (1, vL a1), (3, vI v5)] _ _ _
      refine x_goto (pc' := 2) F dX8_nodeNamed_26 rfl ?_
      exact hrc3 v5
  · refine x_iconst F dX8_nodeNamed_29 ⟨by decide, by decide⟩ rfl ?_
    exact x_iret F hnE hQ dX8_nodeNamed_30
theorem dX8_keyNamed_0 : decode cX8_keyNamed 0 = .ok (.iconst 0, 1) := by decide +kernel
theorem dX8_keyNamed_1 : decode cX8_keyNamed 1 = .ok (.istore_n 3, 1) := by decide +kernel
theorem dX8_keyNamed_2 : decode cX8_keyNamed 2 = .ok (.iload_n 3, 1) := by decide +kernel
theorem dX8_keyNamed_3 : decode cX8_keyNamed 3 = .ok (.aload_n 0, 1) := by decide +kernel
theorem dX8_keyNamed_4 : decode cX8_keyNamed 4 = .ok (.getfield 41, 3) := by decide +kernel
theorem dX8_keyNamed_7 : decode cX8_keyNamed 7 = .ok (.if_icmp .ge 22, 3) := by decide +kernel
theorem dX8_keyNamed_10 : decode cX8_keyNamed 10 = .ok (.aload_n 0, 1) := by decide +kernel
theorem dX8_keyNamed_11 : decode cX8_keyNamed 11 = .ok (.getfield 32, 3) := by decide +kernel
theorem dX8_keyNamed_14 : decode cX8_keyNamed 14 = .ok (.iload_n 3, 1) := by decide +kernel
theorem dX8_keyNamed_15 : decode cX8_keyNamed 15 = .ok (.laload, 1) := by decide +kernel
theorem dX8_keyNamed_16 : decode cX8_keyNamed 16 = .ok (.lload_n 1, 1) := by decide +kernel
theorem dX8_keyNamed_17 : decode cX8_keyNamed 17 = .ok (.lcmp, 1) := by decide +kernel
theorem dX8_keyNamed_18 : decode cX8_keyNamed 18 = .ok (.ifCond .ne 5, 3) := by decide +kernel
theorem dX8_keyNamed_21 : decode cX8_keyNamed 21 = .ok (.iload_n 3, 1) := by decide +kernel
theorem dX8_keyNamed_22 : decode cX8_keyNamed 22 = .ok (.ireturn, 1) := by decide +kernel
theorem dX8_keyNamed_23 : decode cX8_keyNamed 23 = .ok (.iinc 3 1, 3) := by decide +kernel
theorem dX8_keyNamed_26 : decode cX8_keyNamed 26 = .ok (.goto (-24), 3) := by decide +kernel
theorem dX8_keyNamed_29 : decode cX8_keyNamed 29 = .ok (.iconst (-1), 1) := by decide +kernel
theorem dX8_keyNamed_30 : decode cX8_keyNamed 30 = .ok (.ireturn, 1) := by decide +kernel
def fX8_keyNamed (a0 : Nat) (a1 : Int) (G : Hp) : RT := bd 0 fun v1 => (lp (fun (_ : Int) => (none : RT)) 5000 (fun (rc3 : Int → RT) (v2 : Int) => if v2 < (G a0 3) then (br (rd G ((rf a0 9)) 10 v2) fun v4 => if (lcmp' v4 a1) = 0 then rt v2 G else (bd (iadd v2 1) fun v5 => rc3 v5)) else (rt ((-1)) G))) v1
theorem pX8_keyNamed {G : Hp} {a0 : Nat} {a1 : Int} : PU G (fX8_keyNamed a0 a1 G) := by
  unfold fX8_keyNamed
  refine PU_bd (fun v1 => ?_)
  refine x_lp (fun (rc3 : Int → RT) => ∀ (v2 : Int), PU G (rc3 v2)) (fun _ => PU_none) (fun rc3 phrc3 v2 => ?_) 5000 v1
  refine PU_ite ?_ ?_
  · refine PU_br (fun v4 => ?_)
    refine PU_ite ?_ ?_
    · exact PU_rt
    · refine PU_bd (fun v5 => ?_)
      exact phrc3 v5
  · exact PU_rt
set_option maxRecDepth 20000 in
set_option maxHeartbeats 4000000 in
theorem tX8_keyNamed (l : Launch) (x : WX) (hi : Inj x.2.2) (G : Hp) (a0 : Nat) (a1 : Int) (ha0 : kd a0 = 8) : Ct l x yX8_keyNamed cX8_keyNamed 4 (some .int) 0 129 129 [vR a0, vL a1] G (fX8_keyNamed a0 a1 G) := by
  refine ct_of (plainFor_of_name (by decide)) hi (Nat.le_refl _) (Nat.le_refl _) (Nat.le_of_ble_eq_true rfl) (fun cx F hd hn0 hnE hl hQ => ?_)
  subst hl
  have F : Fx cx x RX8 cX8_keyNamed 4 (some .int) := F
  show Y cx x 4 (some .int) 129 0 [(0, vR a0), (1, vL a1)] [] G _
  unfold fX8_keyNamed
  refine x_iconst F dX8_keyNamed_0 ⟨by decide, by decide⟩ rfl ?_
  refine x_istore_n F dX8_keyNamed_1 rfl (by decide) rfl rfl (fun v1 => ?_)
  show Y cx x _ _ _ _ [(0, vR a0), (1, vL a1), (3, vI v1)] _ _ _
  refine x_lp (fun (rc3 : Int → RT) => ∀ (v2 : Int), Y cx x 4 (some .int) 129 2 [(0, vR a0), (1, vL a1), (3, vI v2)] [] G (rc3 v2)) (fun _ => Y_none) (fun rc3 hrc3 v2 => ?_) 5000 v1
  refine x_iload_n F dX8_keyNamed_2 rfl rfl rfl ?_
  refine x_aload_n F dX8_keyNamed_3 rfl rfl rfl ?_
  refine s_getI F flX8_41 ha0 rfl dX8_keyNamed_4 rfl ?_
  refine x_icmpge (pt := 29) F dX8_keyNamed_7 rfl rfl ?_ ?_
  · refine x_aload_n F dX8_keyNamed_10 rfl rfl rfl ?_
    refine x_getR F flX8_32 ha0 rfl dX8_keyNamed_11 rfl ?_
    refine x_iload_n F dX8_keyNamed_14 rfl rfl rfl ?_
    refine s_lald F (tf8_9 ha0).1 (tf8_9 ha0).2 dX8_keyNamed_15 rfl (fun v4 => ?_)
    refine x_lload_n F dX8_keyNamed_16 rfl rfl rfl ?_
    refine x_lcmp F dX8_keyNamed_17 rfl ?_
    refine x_ifne (pt := 23) F dX8_keyNamed_18 rfl rfl ?_ ?_
    · refine x_iload_n F dX8_keyNamed_21 rfl rfl rfl ?_
      exact x_iret F hnE hQ dX8_keyNamed_22
    · refine x_iinc F dX8_keyNamed_23 rfl (by decide) rfl rfl (fun v5 => ?_)
      show Y cx x _ _ _ _ [(0, vR a0), (1, vL a1), (3, vI v5)] _ _ _
      refine x_goto (pc' := 2) F dX8_keyNamed_26 rfl ?_
      exact hrc3 v5
  · refine x_iconst F dX8_keyNamed_29 ⟨by decide, by decide⟩ rfl ?_
    exact x_iret F hnE hQ dX8_keyNamed_30
theorem dX8_roomOf_0 : decode cX8_roomOf 0 = .ok (.aload_n 0, 1) := by decide +kernel
theorem dX8_roomOf_1 : decode cX8_roomOf 1 = .ok (.getfield 15, 3) := by decide +kernel
theorem dX8_roomOf_4 : decode cX8_roomOf 4 = .ok (.iload_n 1, 1) := by decide +kernel
theorem dX8_roomOf_5 : decode cX8_roomOf 5 = .ok (.iaload, 1) := by decide +kernel
theorem dX8_roomOf_6 : decode cX8_roomOf 6 = .ok (.iconst 1, 1) := by decide +kernel
theorem dX8_roomOf_7 : decode cX8_roomOf 7 = .ok (.if_icmp .ne 7, 3) := by decide +kernel
theorem dX8_roomOf_10 : decode cX8_roomOf 10 = .ok (.iconst 1, 1) := by decide +kernel
theorem dX8_roomOf_11 : decode cX8_roomOf 11 = .ok (.goto 7, 3) := by decide +kernel
theorem dX8_roomOf_14 : decode cX8_roomOf 14 = .ok (.aload_n 0, 1) := by decide +kernel
theorem dX8_roomOf_15 : decode cX8_roomOf 15 = .ok (.getfield 9, 3) := by decide +kernel
theorem dX8_roomOf_18 : decode cX8_roomOf 18 = .ok (.ireturn, 1) := by decide +kernel
def fX8_roomOf (a0 : Nat) (a1 : Int) (G : Hp) : RT := br (rd G ((rf a0 4)) 8 a1) fun v1 => if v1 = 1 then rt 1 G else (rt (G a0 1) G)
theorem pX8_roomOf {G : Hp} {a0 : Nat} {a1 : Int} : PU G (fX8_roomOf a0 a1 G) := by
  unfold fX8_roomOf
  refine PU_br (fun v1 => ?_)
  refine PU_ite ?_ ?_
  · exact PU_rt
  · exact PU_rt
set_option maxRecDepth 20000 in
set_option maxHeartbeats 4000000 in
theorem tX8_roomOf (l : Launch) (x : WX) (hi : Inj x.2.2) (G : Hp) (a0 : Nat) (a1 : Int) (ha0 : kd a0 = 8) : Ct l x yX8_roomOf cX8_roomOf 2 (some .int) 0 129 129 [vR a0, vI a1] G (fX8_roomOf a0 a1 G) := by
  refine ct_of (plainFor_of_name (by decide)) hi (Nat.le_refl _) (Nat.le_refl _) (Nat.le_of_ble_eq_true rfl) (fun cx F hd hn0 hnE hl hQ => ?_)
  subst hl
  have F : Fx cx x RX8 cX8_roomOf 2 (some .int) := F
  show Y cx x 2 (some .int) 129 0 [(0, vR a0), (1, vI a1)] [] G _
  unfold fX8_roomOf
  refine x_aload_n F dX8_roomOf_0 rfl rfl rfl ?_
  refine x_getR F flX8_15 ha0 rfl dX8_roomOf_1 rfl ?_
  refine x_iload_n F dX8_roomOf_4 rfl rfl rfl ?_
  refine s_iald F (tf8_4 ha0).1 (tf8_4 ha0).2 dX8_roomOf_5 rfl (fun v1 => ?_)
  refine x_iconst F dX8_roomOf_6 ⟨by decide, by decide⟩ rfl ?_
  refine x_icmpne (pt := 14) F dX8_roomOf_7 rfl rfl ?_ ?_
  · refine x_iconst F dX8_roomOf_10 ⟨by decide, by decide⟩ rfl ?_
    refine x_goto (pc' := 18) F dX8_roomOf_11 rfl ?_
    exact x_iret F hnE hQ dX8_roomOf_18
  · refine x_aload_n F dX8_roomOf_14 rfl rfl rfl ?_
    refine s_getI F flX8_9 ha0 rfl dX8_roomOf_15 rfl ?_
    exact x_iret F hnE hQ dX8_roomOf_18
theorem dX8_way_0 : decode cX8_way 0 = .ok (.iload_n 2, 1) := by decide +kernel
theorem dX8_way_1 : decode cX8_way 1 = .ok (.iload_n 1, 1) := by decide +kernel
theorem dX8_way_2 : decode cX8_way 2 = .ok (.isub, 1) := by decide +kernel
theorem dX8_way_3 : decode cX8_way 3 = .ok (.istore_n 3, 1) := by decide +kernel
theorem dX8_way_4 : decode cX8_way 4 = .ok (.iload_n 3, 1) := by decide +kernel
theorem dX8_way_5 : decode cX8_way 5 = .ok (.ifCond .le 7, 3) := by decide +kernel
theorem dX8_way_8 : decode cX8_way 8 = .ok (.iload_n 3, 1) := by decide +kernel
theorem dX8_way_9 : decode cX8_way 9 = .ok (.goto 9, 3) := by decide +kernel
theorem dX8_way_12 : decode cX8_way 12 = .ok (.iload_n 3, 1) := by decide +kernel
theorem dX8_way_13 : decode cX8_way 13 = .ok (.aload_n 0, 1) := by decide +kernel
theorem dX8_way_14 : decode cX8_way 14 = .ok (.getfield 35, 3) := by decide +kernel
theorem dX8_way_17 : decode cX8_way 17 = .ok (.iadd, 1) := by decide +kernel
theorem dX8_way_18 : decode cX8_way 18 = .ok (.ireturn, 1) := by decide +kernel
def fX8_way (a0 : Nat) (a1 : Int) (a2 : Int) (G : Hp) : RT := bd (isub a2 a1) fun v1 => if 0 < v1 then rt v1 G else (rt (iadd v1 (G a0 0)) G)
theorem pX8_way {G : Hp} {a0 : Nat} {a1 : Int} {a2 : Int} : PU G (fX8_way a0 a1 a2 G) := by
  unfold fX8_way
  refine PU_bd (fun v1 => ?_)
  refine PU_ite ?_ ?_
  · exact PU_rt
  · exact PU_rt
set_option maxRecDepth 20000 in
set_option maxHeartbeats 4000000 in
theorem tX8_way (l : Launch) (x : WX) (hi : Inj x.2.2) (G : Hp) (a0 : Nat) (a1 : Int) (a2 : Int) (ha0 : kd a0 = 8) : Ct l x yX8_way cX8_way 4 (some .int) 0 129 129 [vR a0, vI a1, vI a2] G (fX8_way a0 a1 a2 G) := by
  refine ct_of (plainFor_of_name (by decide)) hi (Nat.le_refl _) (Nat.le_refl _) (Nat.le_of_ble_eq_true rfl) (fun cx F hd hn0 hnE hl hQ => ?_)
  subst hl
  have F : Fx cx x RX8 cX8_way 4 (some .int) := F
  show Y cx x 4 (some .int) 129 0 [(0, vR a0), (1, vI a1), (2, vI a2)] [] G _
  unfold fX8_way
  refine x_iload_n F dX8_way_0 rfl rfl rfl ?_
  refine x_iload_n F dX8_way_1 rfl rfl rfl ?_
  refine x_isub F dX8_way_2 rfl ?_
  refine x_dp (L' := [(0, vR a0)]) [0] rfl ?_
  refine x_istore_n F dX8_way_3 rfl (by decide) rfl rfl (fun v1 => ?_)
  show Y cx x _ _ _ _ [(0, vR a0), (3, vI v1)] _ _ _
  refine x_iload_n F dX8_way_4 rfl rfl rfl ?_
  refine x_ifle (pt := 12) F dX8_way_5 rfl rfl ?_ ?_
  · refine x_iload_n F dX8_way_8 rfl rfl rfl ?_
    refine x_goto (pc' := 18) F dX8_way_9 rfl ?_
    exact x_iret F hnE hQ dX8_way_18
  · refine x_iload_n F dX8_way_12 rfl rfl rfl ?_
    refine x_aload_n F dX8_way_13 rfl rfl rfl ?_
    refine s_getI F flX8_35 ha0 rfl dX8_way_14 rfl ?_
    refine x_iadd F dX8_way_17 rfl ?_
    exact x_iret F hnE hQ dX8_way_18
theorem dX8_onward_0 : decode cX8_onward 0 = .ok (.iload_n 2, 1) := by decide +kernel
theorem dX8_onward_1 : decode cX8_onward 1 = .ok (.iload_n 1, 1) := by decide +kernel
theorem dX8_onward_2 : decode cX8_onward 2 = .ok (.isub, 1) := by decide +kernel
theorem dX8_onward_3 : decode cX8_onward 3 = .ok (.istore_n 3, 1) := by decide +kernel
theorem dX8_onward_4 : decode cX8_onward 4 = .ok (.iload_n 3, 1) := by decide +kernel
theorem dX8_onward_5 : decode cX8_onward 5 = .ok (.ifCond .lt 7, 3) := by decide +kernel
theorem dX8_onward_8 : decode cX8_onward 8 = .ok (.iload_n 3, 1) := by decide +kernel
theorem dX8_onward_9 : decode cX8_onward 9 = .ok (.goto 9, 3) := by decide +kernel
theorem dX8_onward_12 : decode cX8_onward 12 = .ok (.iload_n 3, 1) := by decide +kernel
theorem dX8_onward_13 : decode cX8_onward 13 = .ok (.aload_n 0, 1) := by decide +kernel
theorem dX8_onward_14 : decode cX8_onward 14 = .ok (.getfield 35, 3) := by decide +kernel
theorem dX8_onward_17 : decode cX8_onward 17 = .ok (.iadd, 1) := by decide +kernel
theorem dX8_onward_18 : decode cX8_onward 18 = .ok (.ireturn, 1) := by decide +kernel
def fX8_onward (a0 : Nat) (a1 : Int) (a2 : Int) (G : Hp) : RT := bd (isub a2 a1) fun v1 => if v1 < 0 then (rt (iadd v1 (G a0 0)) G) else rt v1 G
theorem pX8_onward {G : Hp} {a0 : Nat} {a1 : Int} {a2 : Int} : PU G (fX8_onward a0 a1 a2 G) := by
  unfold fX8_onward
  refine PU_bd (fun v1 => ?_)
  refine PU_ite ?_ ?_
  · exact PU_rt
  · exact PU_rt
set_option maxRecDepth 20000 in
set_option maxHeartbeats 4000000 in
theorem tX8_onward (l : Launch) (x : WX) (hi : Inj x.2.2) (G : Hp) (a0 : Nat) (a1 : Int) (a2 : Int) (ha0 : kd a0 = 8) : Ct l x yX8_onward cX8_onward 4 (some .int) 0 129 129 [vR a0, vI a1, vI a2] G (fX8_onward a0 a1 a2 G) := by
  refine ct_of (plainFor_of_name (by decide)) hi (Nat.le_refl _) (Nat.le_refl _) (Nat.le_of_ble_eq_true rfl) (fun cx F hd hn0 hnE hl hQ => ?_)
  subst hl
  have F : Fx cx x RX8 cX8_onward 4 (some .int) := F
  show Y cx x 4 (some .int) 129 0 [(0, vR a0), (1, vI a1), (2, vI a2)] [] G _
  unfold fX8_onward
  refine x_iload_n F dX8_onward_0 rfl rfl rfl ?_
  refine x_iload_n F dX8_onward_1 rfl rfl rfl ?_
  refine x_isub F dX8_onward_2 rfl ?_
  refine x_dp (L' := [(0, vR a0)]) [0] rfl ?_
  refine x_istore_n F dX8_onward_3 rfl (by decide) rfl rfl (fun v1 => ?_)
  show Y cx x _ _ _ _ [(0, vR a0), (3, vI v1)] _ _ _
  refine x_iload_n F dX8_onward_4 rfl rfl rfl ?_
  refine x_iflt (pt := 12) F dX8_onward_5 rfl rfl ?_ ?_
  · refine x_iload_n F dX8_onward_12 rfl rfl rfl ?_
    refine x_aload_n F dX8_onward_13 rfl rfl rfl ?_
    refine s_getI F flX8_35 ha0 rfl dX8_onward_14 rfl ?_
    refine x_iadd F dX8_onward_17 rfl ?_
    exact x_iret F hnE hQ dX8_onward_18
  · refine x_iload_n F dX8_onward_8 rfl rfl rfl ?_
    refine x_goto (pc' := 18) F dX8_onward_9 rfl ?_
    exact x_iret F hnE hQ dX8_onward_18
theorem dX8_fingerPlace_0 : decode cX8_fingerPlace 0 = .ok (.iconst 1, 1) := by decide +kernel
theorem dX8_fingerPlace_1 : decode cX8_fingerPlace 1 = .ok (.iload_n 2, 1) := by decide +kernel
theorem dX8_fingerPlace_2 : decode cX8_fingerPlace 2 = .ok (.ishl, 1) := by decide +kernel
theorem dX8_fingerPlace_3 : decode cX8_fingerPlace 3 = .ok (.istore_n 3, 1) := by decide +kernel
theorem dX8_fingerPlace_4 : decode cX8_fingerPlace 4 = .ok (.iload_n 3, 1) := by decide +kernel
theorem dX8_fingerPlace_5 : decode cX8_fingerPlace 5 = .ok (.aload_n 0, 1) := by decide +kernel
theorem dX8_fingerPlace_6 : decode cX8_fingerPlace 6 = .ok (.getfield 35, 3) := by decide +kernel
theorem dX8_fingerPlace_9 : decode cX8_fingerPlace 9 = .ok (.if_icmp .lt 5, 3) := by decide +kernel
theorem dX8_fingerPlace_12 : decode cX8_fingerPlace 12 = .ok (.iconst (-1), 1) := by decide +kernel
theorem dX8_fingerPlace_13 : decode cX8_fingerPlace 13 = .ok (.ireturn, 1) := by decide +kernel
theorem dX8_fingerPlace_14 : decode cX8_fingerPlace 14 = .ok (.aload_n 0, 1) := by decide +kernel
theorem dX8_fingerPlace_15 : decode cX8_fingerPlace 15 = .ok (.getfield 19, 3) := by decide +kernel
theorem dX8_fingerPlace_18 : decode cX8_fingerPlace 18 = .ok (.iload_n 1, 1) := by decide +kernel
theorem dX8_fingerPlace_19 : decode cX8_fingerPlace 19 = .ok (.iaload, 1) := by decide +kernel
theorem dX8_fingerPlace_20 : decode cX8_fingerPlace 20 = .ok (.iload_n 3, 1) := by decide +kernel
theorem dX8_fingerPlace_21 : decode cX8_fingerPlace 21 = .ok (.iadd, 1) := by decide +kernel
theorem dX8_fingerPlace_22 : decode cX8_fingerPlace 22 = .ok (.istore 4, 2) := by decide +kernel
theorem dX8_fingerPlace_24 : decode cX8_fingerPlace 24 = .ok (.iload 4, 2) := by decide +kernel
theorem dX8_fingerPlace_26 : decode cX8_fingerPlace 26 = .ok (.aload_n 0, 1) := by decide +kernel
theorem dX8_fingerPlace_27 : decode cX8_fingerPlace 27 = .ok (.getfield 35, 3) := by decide +kernel
theorem dX8_fingerPlace_30 : decode cX8_fingerPlace 30 = .ok (.if_icmp .ge 8, 3) := by decide +kernel
theorem dX8_fingerPlace_33 : decode cX8_fingerPlace 33 = .ok (.iload 4, 2) := by decide +kernel
theorem dX8_fingerPlace_35 : decode cX8_fingerPlace 35 = .ok (.goto 10, 3) := by decide +kernel
theorem dX8_fingerPlace_38 : decode cX8_fingerPlace 38 = .ok (.iload 4, 2) := by decide +kernel
theorem dX8_fingerPlace_40 : decode cX8_fingerPlace 40 = .ok (.aload_n 0, 1) := by decide +kernel
theorem dX8_fingerPlace_41 : decode cX8_fingerPlace 41 = .ok (.getfield 35, 3) := by decide +kernel
theorem dX8_fingerPlace_44 : decode cX8_fingerPlace 44 = .ok (.isub, 1) := by decide +kernel
theorem dX8_fingerPlace_45 : decode cX8_fingerPlace 45 = .ok (.ireturn, 1) := by decide +kernel
def fX8_fingerPlace (a0 : Nat) (a1 : Int) (a2 : Int) (G : Hp) : RT := bd (ishl 1 a2) fun v1 => if v1 < (G a0 0) then (br (rd G ((rf a0 5)) 8 a1) fun v2 => bd (iadd v2 v1) fun v3 => if v3 < (G a0 0) then rt v3 G else (rt (isub v3 (G a0 0)) G)) else (rt ((-1)) G)
theorem pX8_fingerPlace {G : Hp} {a0 : Nat} {a1 : Int} {a2 : Int} : PU G (fX8_fingerPlace a0 a1 a2 G) := by
  unfold fX8_fingerPlace
  refine PU_bd (fun v1 => ?_)
  refine PU_ite ?_ ?_
  · refine PU_br (fun v2 => ?_)
    refine PU_bd (fun v3 => ?_)
    refine PU_ite ?_ ?_
    · exact PU_rt
    · exact PU_rt
  · exact PU_rt
set_option maxRecDepth 20000 in
set_option maxHeartbeats 4000000 in
theorem tX8_fingerPlace (l : Launch) (x : WX) (hi : Inj x.2.2) (G : Hp) (a0 : Nat) (a1 : Int) (a2 : Int) (ha0 : kd a0 = 8) : Ct l x yX8_fingerPlace cX8_fingerPlace 5 (some .int) 0 129 129 [vR a0, vI a1, vI a2] G (fX8_fingerPlace a0 a1 a2 G) := by
  refine ct_of (plainFor_of_name (by decide)) hi (Nat.le_refl _) (Nat.le_refl _) (Nat.le_of_ble_eq_true rfl) (fun cx F hd hn0 hnE hl hQ => ?_)
  subst hl
  have F : Fx cx x RX8 cX8_fingerPlace 5 (some .int) := F
  show Y cx x 5 (some .int) 129 0 [(0, vR a0), (1, vI a1), (2, vI a2)] [] G _
  unfold fX8_fingerPlace
  refine x_iconst F dX8_fingerPlace_0 ⟨by decide, by decide⟩ rfl ?_
  refine x_iload_n F dX8_fingerPlace_1 rfl rfl rfl ?_
  refine x_ishl F dX8_fingerPlace_2 rfl ?_
  refine x_dp (L' := [(0, vR a0), (1, vI a1)]) [0, 1] rfl ?_
  refine x_istore_n F dX8_fingerPlace_3 rfl (by decide) rfl rfl (fun v1 => ?_)
  show Y cx x _ _ _ _ [(0, vR a0), (1, vI a1), (3, vI v1)] _ _ _
  refine x_iload_n F dX8_fingerPlace_4 rfl rfl rfl ?_
  refine x_aload_n F dX8_fingerPlace_5 rfl rfl rfl ?_
  refine s_getI F flX8_35 ha0 rfl dX8_fingerPlace_6 rfl ?_
  refine x_icmplt (pt := 14) F dX8_fingerPlace_9 rfl rfl ?_ ?_
  · refine x_aload_n F dX8_fingerPlace_14 rfl rfl rfl ?_
    refine x_getR F flX8_19 ha0 rfl dX8_fingerPlace_15 rfl ?_
    refine x_iload_n F dX8_fingerPlace_18 rfl rfl rfl ?_
    refine s_iald F (tf8_5 ha0).1 (tf8_5 ha0).2 dX8_fingerPlace_19 rfl (fun v2 => ?_)
    refine x_iload_n F dX8_fingerPlace_20 rfl rfl rfl ?_
    refine x_iadd F dX8_fingerPlace_21 rfl ?_
    refine x_dp (L' := [(0, vR a0)]) [0] rfl ?_
    refine x_istore F dX8_fingerPlace_22 (by decide) rfl rfl (fun v3 => ?_)
    show Y cx x _ _ _ _ [(0, vR a0), (4, vI v3)] _ _ _
    refine x_iload F dX8_fingerPlace_24 rfl rfl ?_
    refine x_aload_n F dX8_fingerPlace_26 rfl rfl rfl ?_
    refine s_getI F flX8_35 ha0 rfl dX8_fingerPlace_27 rfl ?_
    refine x_icmpge (pt := 38) F dX8_fingerPlace_30 rfl rfl ?_ ?_
    · refine x_iload F dX8_fingerPlace_33 rfl rfl ?_
      refine x_goto (pc' := 45) F dX8_fingerPlace_35 rfl ?_
      exact x_iret F hnE hQ dX8_fingerPlace_45
    · refine x_iload F dX8_fingerPlace_38 rfl rfl ?_
      refine x_aload_n F dX8_fingerPlace_40 rfl rfl rfl ?_
      refine s_getI F flX8_35 ha0 rfl dX8_fingerPlace_41 rfl ?_
      refine x_isub F dX8_fingerPlace_44 rfl ?_
      exact x_iret F hnE hQ dX8_fingerPlace_45
  · refine x_iconst F dX8_fingerPlace_12 ⟨by decide, by decide⟩ rfl ?_
    exact x_iret F hnE hQ dX8_fingerPlace_13
theorem dX8_copyFrom_0 : decode cX8_copyFrom 0 = .ok (.aload_n 0, 1) := by decide +kernel
theorem dX8_copyFrom_1 : decode cX8_copyFrom 1 = .ok (.aload_n 1, 1) := by decide +kernel
theorem dX8_copyFrom_2 : decode cX8_copyFrom 2 = .ok (.getfield 35, 3) := by decide +kernel
theorem dX8_copyFrom_5 : decode cX8_copyFrom 5 = .ok (.putfield 35, 3) := by decide +kernel
theorem dX8_copyFrom_8 : decode cX8_copyFrom 8 = .ok (.aload_n 0, 1) := by decide +kernel
theorem dX8_copyFrom_9 : decode cX8_copyFrom 9 = .ok (.aload_n 1, 1) := by decide +kernel
theorem dX8_copyFrom_10 : decode cX8_copyFrom 10 = .ok (.getfield 9, 3) := by decide +kernel
theorem dX8_copyFrom_13 : decode cX8_copyFrom 13 = .ok (.putfield 9, 3) := by decide +kernel
theorem dX8_copyFrom_16 : decode cX8_copyFrom 16 = .ok (.aload_n 0, 1) := by decide +kernel
theorem dX8_copyFrom_17 : decode cX8_copyFrom 17 = .ok (.aload_n 1, 1) := by decide +kernel
theorem dX8_copyFrom_18 : decode cX8_copyFrom 18 = .ok (.getfield 38, 3) := by decide +kernel
theorem dX8_copyFrom_21 : decode cX8_copyFrom 21 = .ok (.putfield 38, 3) := by decide +kernel
theorem dX8_copyFrom_24 : decode cX8_copyFrom 24 = .ok (.aload_n 0, 1) := by decide +kernel
theorem dX8_copyFrom_25 : decode cX8_copyFrom 25 = .ok (.aload_n 1, 1) := by decide +kernel
theorem dX8_copyFrom_26 : decode cX8_copyFrom 26 = .ok (.getfield 41, 3) := by decide +kernel
theorem dX8_copyFrom_29 : decode cX8_copyFrom 29 = .ok (.putfield 41, 3) := by decide +kernel
theorem dX8_copyFrom_32 : decode cX8_copyFrom 32 = .ok (.aload_n 1, 1) := by decide +kernel
theorem dX8_copyFrom_33 : decode cX8_copyFrom 33 = .ok (.getfield 15, 3) := by decide +kernel
theorem dX8_copyFrom_36 : decode cX8_copyFrom 36 = .ok (.iconst 0, 1) := by decide +kernel
theorem dX8_copyFrom_37 : decode cX8_copyFrom 37 = .ok (.aload_n 0, 1) := by decide +kernel
theorem dX8_copyFrom_38 : decode cX8_copyFrom 38 = .ok (.getfield 15, 3) := by decide +kernel
theorem dX8_copyFrom_41 : decode cX8_copyFrom 41 = .ok (.iconst 0, 1) := by decide +kernel
theorem dX8_copyFrom_42 : decode cX8_copyFrom 42 = .ok (.bipush 8, 2) := by decide +kernel
theorem dX8_copyFrom_44 : decode cX8_copyFrom 44 = .ok (.invokestatic 44, 3) := by decide +kernel
theorem dX8_copyFrom_47 : decode cX8_copyFrom 47 = .ok (.aload_n 1, 1) := by decide +kernel
theorem dX8_copyFrom_48 : decode cX8_copyFrom 48 = .ok (.getfield 19, 3) := by decide +kernel
theorem dX8_copyFrom_51 : decode cX8_copyFrom 51 = .ok (.iconst 0, 1) := by decide +kernel
theorem dX8_copyFrom_52 : decode cX8_copyFrom 52 = .ok (.aload_n 0, 1) := by decide +kernel
theorem dX8_copyFrom_53 : decode cX8_copyFrom 53 = .ok (.getfield 19, 3) := by decide +kernel
theorem dX8_copyFrom_56 : decode cX8_copyFrom 56 = .ok (.iconst 0, 1) := by decide +kernel
theorem dX8_copyFrom_57 : decode cX8_copyFrom 57 = .ok (.bipush 8, 2) := by decide +kernel
theorem dX8_copyFrom_59 : decode cX8_copyFrom 59 = .ok (.invokestatic 44, 3) := by decide +kernel
theorem dX8_copyFrom_62 : decode cX8_copyFrom 62 = .ok (.aload_n 1, 1) := by decide +kernel
theorem dX8_copyFrom_63 : decode cX8_copyFrom 63 = .ok (.getfield 22, 3) := by decide +kernel
theorem dX8_copyFrom_66 : decode cX8_copyFrom 66 = .ok (.iconst 0, 1) := by decide +kernel
theorem dX8_copyFrom_67 : decode cX8_copyFrom 67 = .ok (.aload_n 0, 1) := by decide +kernel
theorem dX8_copyFrom_68 : decode cX8_copyFrom 68 = .ok (.getfield 22, 3) := by decide +kernel
theorem dX8_copyFrom_71 : decode cX8_copyFrom 71 = .ok (.iconst 0, 1) := by decide +kernel
theorem dX8_copyFrom_72 : decode cX8_copyFrom 72 = .ok (.bipush 8, 2) := by decide +kernel
theorem dX8_copyFrom_74 : decode cX8_copyFrom 74 = .ok (.invokestatic 44, 3) := by decide +kernel
theorem dX8_copyFrom_77 : decode cX8_copyFrom 77 = .ok (.aload_n 1, 1) := by decide +kernel
theorem dX8_copyFrom_78 : decode cX8_copyFrom 78 = .ok (.getfield 26, 3) := by decide +kernel
theorem dX8_copyFrom_81 : decode cX8_copyFrom 81 = .ok (.iconst 0, 1) := by decide +kernel
theorem dX8_copyFrom_82 : decode cX8_copyFrom 82 = .ok (.aload_n 0, 1) := by decide +kernel
theorem dX8_copyFrom_83 : decode cX8_copyFrom 83 = .ok (.getfield 26, 3) := by decide +kernel
theorem dX8_copyFrom_86 : decode cX8_copyFrom 86 = .ok (.iconst 0, 1) := by decide +kernel
theorem dX8_copyFrom_87 : decode cX8_copyFrom 87 = .ok (.bipush 10, 2) := by decide +kernel
theorem dX8_copyFrom_89 : decode cX8_copyFrom 89 = .ok (.invokestatic 44, 3) := by decide +kernel
theorem dX8_copyFrom_92 : decode cX8_copyFrom 92 = .ok (.aload_n 1, 1) := by decide +kernel
theorem dX8_copyFrom_93 : decode cX8_copyFrom 93 = .ok (.getfield 29, 3) := by decide +kernel
theorem dX8_copyFrom_96 : decode cX8_copyFrom 96 = .ok (.iconst 0, 1) := by decide +kernel
theorem dX8_copyFrom_97 : decode cX8_copyFrom 97 = .ok (.aload_n 0, 1) := by decide +kernel
theorem dX8_copyFrom_98 : decode cX8_copyFrom 98 = .ok (.getfield 29, 3) := by decide +kernel
theorem dX8_copyFrom_101 : decode cX8_copyFrom 101 = .ok (.iconst 0, 1) := by decide +kernel
theorem dX8_copyFrom_102 : decode cX8_copyFrom 102 = .ok (.bipush 10, 2) := by decide +kernel
theorem dX8_copyFrom_104 : decode cX8_copyFrom 104 = .ok (.invokestatic 44, 3) := by decide +kernel
theorem dX8_copyFrom_107 : decode cX8_copyFrom 107 = .ok (.aload_n 1, 1) := by decide +kernel
theorem dX8_copyFrom_108 : decode cX8_copyFrom 108 = .ok (.getfield 32, 3) := by decide +kernel
theorem dX8_copyFrom_111 : decode cX8_copyFrom 111 = .ok (.iconst 0, 1) := by decide +kernel
theorem dX8_copyFrom_112 : decode cX8_copyFrom 112 = .ok (.aload_n 0, 1) := by decide +kernel
theorem dX8_copyFrom_113 : decode cX8_copyFrom 113 = .ok (.getfield 32, 3) := by decide +kernel
theorem dX8_copyFrom_116 : decode cX8_copyFrom 116 = .ok (.iconst 0, 1) := by decide +kernel
theorem dX8_copyFrom_117 : decode cX8_copyFrom 117 = .ok (.bipush 10, 2) := by decide +kernel
theorem dX8_copyFrom_119 : decode cX8_copyFrom 119 = .ok (.invokestatic 44, 3) := by decide +kernel
theorem dX8_copyFrom_122 : decode cX8_copyFrom 122 = .ok (.return_, 1) := by decide +kernel
def fX8_copyFrom (a0 : Nat) (a1 : Nat) (G : Hp) : RT := bh (up G a0 0 (G a1 0)) fun G1 => bh (up G1 a0 1 (G1 a1 1)) fun G2 => bh (up G2 a0 2 (G2 a1 2)) fun G3 => bh (up G3 a0 3 (G3 a1 3)) fun G4 => bs (cpO G4 ((rf a1 4)) 8 0 ((rf a0 4)) 8 0 8) fun G5 => bs (cpO G5 ((rf a1 5)) 8 0 ((rf a0 5)) 8 0 8) fun G6 => bs (cpO G6 ((rf a1 6)) 8 0 ((rf a0 6)) 8 0 8) fun G7 => bs (cpO G7 ((rf a1 7)) 10 0 ((rf a0 7)) 10 0 10) fun G8 => bs (cpO G8 ((rf a1 8)) 10 0 ((rf a0 8)) 10 0 10) fun G9 => bs (cpO G9 ((rf a1 9)) 10 0 ((rf a0 9)) 10 0 10) fun G10 => rt 0 G10
set_option maxRecDepth 20000 in
set_option maxHeartbeats 4000000 in
theorem tX8_copyFrom (l : Launch) (x : WX) (hi : Inj x.2.2) (G : Hp) (a0 : Nat) (a1 : Nat) (ha0 : kd a0 = 8) (ha1 : kd a1 = 8) : Ct l x yX8_copyFrom cX8_copyFrom 2 none 1 129 129 [vR a0, vR a1] G (fX8_copyFrom a0 a1 G) := by
  refine ct_of (plainFor_of_name (by decide)) hi (Nat.le_refl _) (Nat.le_refl _) (Nat.le_of_ble_eq_true rfl) (fun cx F hd hn0 hnE hl hQ => ?_)
  subst hl
  have F : Fx cx x RX8 cX8_copyFrom 2 none := F
  show Y cx x 2 none 129 0 [(0, vR a0), (1, vR a1)] [] G _
  unfold fX8_copyFrom
  refine x_aload_n F dX8_copyFrom_0 rfl rfl rfl ?_
  refine x_aload_n F dX8_copyFrom_1 rfl rfl rfl ?_
  refine s_getI F flX8_35 ha1 rfl dX8_copyFrom_2 rfl ?_
  refine s_putI F fpX8_35 ha0 rfl dX8_copyFrom_5 rfl (fun G1 => ?_)
  refine x_aload_n F dX8_copyFrom_8 rfl rfl rfl ?_
  refine x_aload_n F dX8_copyFrom_9 rfl rfl rfl ?_
  refine s_getI F flX8_9 ha1 rfl dX8_copyFrom_10 rfl ?_
  refine s_putI F fpX8_9 ha0 rfl dX8_copyFrom_13 rfl (fun G2 => ?_)
  refine x_aload_n F dX8_copyFrom_16 rfl rfl rfl ?_
  refine x_aload_n F dX8_copyFrom_17 rfl rfl rfl ?_
  refine s_getI F flX8_38 ha1 rfl dX8_copyFrom_18 rfl ?_
  refine s_putI F fpX8_38 ha0 rfl dX8_copyFrom_21 rfl (fun G3 => ?_)
  refine x_aload_n F dX8_copyFrom_24 rfl rfl rfl ?_
  refine x_aload_n F dX8_copyFrom_25 rfl rfl rfl ?_
  refine s_getI F flX8_41 ha1 rfl dX8_copyFrom_26 rfl ?_
  refine s_putI F fpX8_41 ha0 rfl dX8_copyFrom_29 rfl (fun G4 => ?_)
  refine x_aload_n F dX8_copyFrom_32 rfl rfl rfl ?_
  refine x_getR F flX8_15 ha1 rfl dX8_copyFrom_33 rfl ?_
  refine x_iconst F dX8_copyFrom_36 ⟨by decide, by decide⟩ rfl ?_
  refine x_aload_n F dX8_copyFrom_37 rfl rfl rfl ?_
  refine x_getR F flX8_15 ha0 rfl dX8_copyFrom_38 rfl ?_
  refine x_iconst F dX8_copyFrom_41 ⟨by decide, by decide⟩ rfl ?_
  refine x_bipush F dX8_copyFrom_42 ⟨by decide, by decide⟩ (by decide) rfl ?_
  refine x_cpyI F lkX8_44 acw (tf8_4 ha1).1 (tf8_4 ha0).1 (tf8_4 ha1).2 (tf8_4 ha0).2 (kl (tf8_4 ha1).1 rfl) (kl (tf8_4 ha0).1 rfl) (Nat.le_refl _) (le_d (d' := 0) hd rfl) (Nat.le_of_ble_eq_true rfl) dX8_copyFrom_44 rfl (fun G5 => ?_)
  refine x_aload_n F dX8_copyFrom_47 rfl rfl rfl ?_
  refine x_getR F flX8_19 ha1 rfl dX8_copyFrom_48 rfl ?_
  refine x_iconst F dX8_copyFrom_51 ⟨by decide, by decide⟩ rfl ?_
  refine x_aload_n F dX8_copyFrom_52 rfl rfl rfl ?_
  refine x_getR F flX8_19 ha0 rfl dX8_copyFrom_53 rfl ?_
  refine x_iconst F dX8_copyFrom_56 ⟨by decide, by decide⟩ rfl ?_
  refine x_bipush F dX8_copyFrom_57 ⟨by decide, by decide⟩ (by decide) rfl ?_
  refine x_cpyI F lkX8_44 acw (tf8_5 ha1).1 (tf8_5 ha0).1 (tf8_5 ha1).2 (tf8_5 ha0).2 (kl (tf8_5 ha1).1 rfl) (kl (tf8_5 ha0).1 rfl) (Nat.le_refl _) (le_d (d' := 0) hd rfl) (Nat.le_of_ble_eq_true rfl) dX8_copyFrom_59 rfl (fun G6 => ?_)
  refine x_aload_n F dX8_copyFrom_62 rfl rfl rfl ?_
  refine x_getR F flX8_22 ha1 rfl dX8_copyFrom_63 rfl ?_
  refine x_iconst F dX8_copyFrom_66 ⟨by decide, by decide⟩ rfl ?_
  refine x_aload_n F dX8_copyFrom_67 rfl rfl rfl ?_
  refine x_getR F flX8_22 ha0 rfl dX8_copyFrom_68 rfl ?_
  refine x_iconst F dX8_copyFrom_71 ⟨by decide, by decide⟩ rfl ?_
  refine x_bipush F dX8_copyFrom_72 ⟨by decide, by decide⟩ (by decide) rfl ?_
  refine x_cpyJ F lkX8_44 acw (tf8_6 ha1).1 (tf8_6 ha0).1 (tf8_6 ha1).2 (tf8_6 ha0).2 (kl (tf8_6 ha1).1 rfl) (kl (tf8_6 ha0).1 rfl) (Nat.le_refl _) (le_d (d' := 0) hd rfl) (Nat.le_of_ble_eq_true rfl) dX8_copyFrom_74 rfl (fun G7 => ?_)
  refine x_aload_n F dX8_copyFrom_77 rfl rfl rfl ?_
  refine x_getR F flX8_26 ha1 rfl dX8_copyFrom_78 rfl ?_
  refine x_iconst F dX8_copyFrom_81 ⟨by decide, by decide⟩ rfl ?_
  refine x_aload_n F dX8_copyFrom_82 rfl rfl rfl ?_
  refine x_getR F flX8_26 ha0 rfl dX8_copyFrom_83 rfl ?_
  refine x_iconst F dX8_copyFrom_86 ⟨by decide, by decide⟩ rfl ?_
  refine x_bipush F dX8_copyFrom_87 ⟨by decide, by decide⟩ (by decide) rfl ?_
  refine x_cpyI F lkX8_44 acw (tf8_7 ha1).1 (tf8_7 ha0).1 (tf8_7 ha1).2 (tf8_7 ha0).2 (kl (tf8_7 ha1).1 rfl) (kl (tf8_7 ha0).1 rfl) (Nat.le_refl _) (le_d (d' := 0) hd rfl) (Nat.le_of_ble_eq_true rfl) dX8_copyFrom_89 rfl (fun G8 => ?_)
  refine x_aload_n F dX8_copyFrom_92 rfl rfl rfl ?_
  refine x_getR F flX8_29 ha1 rfl dX8_copyFrom_93 rfl ?_
  refine x_iconst F dX8_copyFrom_96 ⟨by decide, by decide⟩ rfl ?_
  refine x_aload_n F dX8_copyFrom_97 rfl rfl rfl ?_
  refine x_getR F flX8_29 ha0 rfl dX8_copyFrom_98 rfl ?_
  refine x_iconst F dX8_copyFrom_101 ⟨by decide, by decide⟩ rfl ?_
  refine x_bipush F dX8_copyFrom_102 ⟨by decide, by decide⟩ (by decide) rfl ?_
  refine x_cpyI F lkX8_44 acw (tf8_8 ha1).1 (tf8_8 ha0).1 (tf8_8 ha1).2 (tf8_8 ha0).2 (kl (tf8_8 ha1).1 rfl) (kl (tf8_8 ha0).1 rfl) (Nat.le_refl _) (le_d (d' := 0) hd rfl) (Nat.le_of_ble_eq_true rfl) dX8_copyFrom_104 rfl (fun G9 => ?_)
  refine x_aload_n F dX8_copyFrom_107 rfl rfl rfl ?_
  refine x_getR F flX8_32 ha1 rfl dX8_copyFrom_108 rfl ?_
  refine x_iconst F dX8_copyFrom_111 ⟨by decide, by decide⟩ rfl ?_
  refine x_aload_n F dX8_copyFrom_112 rfl rfl rfl ?_
  refine x_getR F flX8_32 ha0 rfl dX8_copyFrom_113 rfl ?_
  refine x_iconst F dX8_copyFrom_116 ⟨by decide, by decide⟩ rfl ?_
  refine x_bipush F dX8_copyFrom_117 ⟨by decide, by decide⟩ (by decide) rfl ?_
  refine x_cpyJ F lkX8_44 acw (tf8_9 ha1).1 (tf8_9 ha0).1 (tf8_9 ha1).2 (tf8_9 ha0).2 (kl (tf8_9 ha1).1 rfl) (kl (tf8_9 ha0).1 rfl) (Nat.le_refl _) (le_d (d' := 0) hd rfl) (Nat.le_of_ble_eq_true rfl) dX8_copyFrom_119 rfl (fun G10 => ?_)
  exact x_vret F hnE hQ dX8_copyFrom_122
theorem dX8_isBetween_0 : decode cX8_isBetween 0 = .ok (.aload_n 0, 1) := by decide +kernel
theorem dX8_isBetween_1 : decode cX8_isBetween 1 = .ok (.aload_n 0, 1) := by decide +kernel
theorem dX8_isBetween_2 : decode cX8_isBetween 2 = .ok (.getfield 19, 3) := by decide +kernel
theorem dX8_isBetween_5 : decode cX8_isBetween 5 = .ok (.iload_n 2, 1) := by decide +kernel
theorem dX8_isBetween_6 : decode cX8_isBetween 6 = .ok (.iaload, 1) := by decide +kernel
theorem dX8_isBetween_7 : decode cX8_isBetween 7 = .ok (.aload_n 0, 1) := by decide +kernel
theorem dX8_isBetween_8 : decode cX8_isBetween 8 = .ok (.getfield 19, 3) := by decide +kernel
theorem dX8_isBetween_11 : decode cX8_isBetween 11 = .ok (.iload_n 1, 1) := by decide +kernel
theorem dX8_isBetween_12 : decode cX8_isBetween 12 = .ok (.iaload, 1) := by decide +kernel
theorem dX8_isBetween_13 : decode cX8_isBetween 13 = .ok (.invokevirtual 50, 3) := by decide +kernel
theorem dX8_isBetween_16 : decode cX8_isBetween 16 = .ok (.aload_n 0, 1) := by decide +kernel
theorem dX8_isBetween_17 : decode cX8_isBetween 17 = .ok (.aload_n 0, 1) := by decide +kernel
theorem dX8_isBetween_18 : decode cX8_isBetween 18 = .ok (.getfield 19, 3) := by decide +kernel
theorem dX8_isBetween_21 : decode cX8_isBetween 21 = .ok (.iload_n 2, 1) := by decide +kernel
theorem dX8_isBetween_22 : decode cX8_isBetween 22 = .ok (.iaload, 1) := by decide +kernel
theorem dX8_isBetween_23 : decode cX8_isBetween 23 = .ok (.aload_n 0, 1) := by decide +kernel
theorem dX8_isBetween_24 : decode cX8_isBetween 24 = .ok (.getfield 19, 3) := by decide +kernel
theorem dX8_isBetween_27 : decode cX8_isBetween 27 = .ok (.iload_n 3, 1) := by decide +kernel
theorem dX8_isBetween_28 : decode cX8_isBetween 28 = .ok (.iaload, 1) := by decide +kernel
theorem dX8_isBetween_29 : decode cX8_isBetween 29 = .ok (.invokevirtual 50, 3) := by decide +kernel
theorem dX8_isBetween_32 : decode cX8_isBetween 32 = .ok (.if_icmp .ge 7, 3) := by decide +kernel
theorem dX8_isBetween_35 : decode cX8_isBetween 35 = .ok (.iconst 1, 1) := by decide +kernel
theorem dX8_isBetween_36 : decode cX8_isBetween 36 = .ok (.goto 4, 3) := by decide +kernel
theorem dX8_isBetween_39 : decode cX8_isBetween 39 = .ok (.iconst 0, 1) := by decide +kernel
theorem dX8_isBetween_40 : decode cX8_isBetween 40 = .ok (.ireturn, 1) := by decide +kernel
def fX8_isBetween (a0 : Nat) (a1 : Int) (a2 : Int) (a3 : Int) (G : Hp) : RT := br (rd G ((rf a0 5)) 8 a2) fun v1 => br (rd G ((rf a0 5)) 8 a1) fun v2 => bp (fX8_way a0 v1 v2 G) fun v3 => br (rd G ((rf a0 5)) 8 a2) fun v4 => br (rd G ((rf a0 5)) 8 a3) fun v5 => bp (fX8_way a0 v4 v5 G) fun v6 => if v3 < v6 then rz 1 G else rz 0 G
theorem pX8_isBetween {G : Hp} {a0 : Nat} {a1 : Int} {a2 : Int} {a3 : Int} : PU G (fX8_isBetween a0 a1 a2 a3 G) := by
  unfold fX8_isBetween
  refine PU_br (fun v1 => ?_)
  refine PU_br (fun v2 => ?_)
  refine PU_bp (fun v3 => ?_)
  refine PU_br (fun v4 => ?_)
  refine PU_br (fun v5 => ?_)
  refine PU_bp (fun v6 => ?_)
  refine PU_ite ?_ ?_
  · exact PU_rz
  · exact PU_rz
set_option maxRecDepth 20000 in
set_option maxHeartbeats 4000000 in
theorem tX8_isBetween (l : Launch) (x : WX) (hi : Inj x.2.2) (G : Hp) (a0 : Nat) (a1 : Int) (a2 : Int) (a3 : Int) (ha0 : kd a0 = 8) : Ct l x yX8_isBetween cX8_isBetween 4 (some .boolean) 1 129 129 [vR a0, vI a1, vI a2, vI a3] G (fX8_isBetween a0 a1 a2 a3 G) := by
  refine ct_of (plainFor_of_name (by decide)) hi (Nat.le_refl _) (Nat.le_refl _) (Nat.le_of_ble_eq_true rfl) (fun cx F hd hn0 hnE hl hQ => ?_)
  subst hl
  have F : Fx cx x RX8 cX8_isBetween 4 (some .boolean) := F
  show Y cx x 4 (some .boolean) 129 0 [(0, vR a0), (1, vI a1), (2, vI a2), (3, vI a3)] [] G _
  unfold fX8_isBetween
  refine x_aload_n F dX8_isBetween_0 rfl rfl rfl ?_
  refine x_aload_n F dX8_isBetween_1 rfl rfl rfl ?_
  refine x_getR F flX8_19 ha0 rfl dX8_isBetween_2 rfl ?_
  refine x_iload_n F dX8_isBetween_5 rfl rfl rfl ?_
  refine s_iald F (tf8_5 ha0).1 (tf8_5 ha0).2 dX8_isBetween_6 rfl (fun v1 => ?_)
  refine x_aload_n F dX8_isBetween_7 rfl rfl rfl ?_
  refine x_getR F flX8_19 ha0 rfl dX8_isBetween_8 rfl ?_
  refine x_iload_n F dX8_isBetween_11 rfl rfl rfl ?_
  refine s_iald F (tf8_5 ha0).1 (tf8_5 ha0).2 dX8_isBetween_12 rfl (fun v2 => ?_)
  refine s_callVP F [vI v1, vI v2] [] lkX8_50 mX8_way rfl ha0 rfl hnE hn0 hd pX8_way (tX8_way cx.l x hi G a0 v1 v2 ha0) rfl rfl dX8_isBetween_13 rfl rfl (fun v3 => ?_)
  refine x_aload_n F dX8_isBetween_16 rfl rfl rfl ?_
  refine x_aload_n F dX8_isBetween_17 rfl rfl rfl ?_
  refine x_getR F flX8_19 ha0 rfl dX8_isBetween_18 rfl ?_
  refine x_iload_n F dX8_isBetween_21 rfl rfl rfl ?_
  refine s_iald F (tf8_5 ha0).1 (tf8_5 ha0).2 dX8_isBetween_22 rfl (fun v4 => ?_)
  refine x_aload_n F dX8_isBetween_23 rfl rfl rfl ?_
  refine x_getR F flX8_19 ha0 rfl dX8_isBetween_24 rfl ?_
  refine x_iload_n F dX8_isBetween_27 rfl rfl rfl ?_
  refine s_iald F (tf8_5 ha0).1 (tf8_5 ha0).2 dX8_isBetween_28 rfl (fun v5 => ?_)
  refine s_callVP F [vI v4, vI v5] [vI v3] lkX8_50 mX8_way rfl ha0 rfl hnE hn0 hd pX8_way (tX8_way cx.l x hi G a0 v4 v5 ha0) rfl rfl dX8_isBetween_29 rfl rfl (fun v6 => ?_)
  refine x_icmpge (pt := 39) F dX8_isBetween_32 rfl rfl ?_ ?_
  · refine x_iconst F dX8_isBetween_35 ⟨by decide, by decide⟩ rfl ?_
    refine x_goto (pc' := 40) F dX8_isBetween_36 rfl ?_
    exact x_zret F hnE hQ dX8_isBetween_40
  · refine x_iconst F dX8_isBetween_39 ⟨by decide, by decide⟩ rfl ?_
    exact x_zret F hnE hQ dX8_isBetween_40
