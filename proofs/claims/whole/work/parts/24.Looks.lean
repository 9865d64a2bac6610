theorem dX2_has_0 : decode cX2_has 0 = .ok (.iload_n 0, 1) := by decide +kernel
theorem dX2_has_1 : decode cX2_has 1 = .ok (.iload_n 1, 1) := by decide +kernel
theorem dX2_has_2 : decode cX2_has 2 = .ok (.ishr, 1) := by decide +kernel
theorem dX2_has_3 : decode cX2_has 3 = .ok (.iconst 1, 1) := by decide +kernel
theorem dX2_has_4 : decode cX2_has 4 = .ok (.iand, 1) := by decide +kernel
theorem dX2_has_5 : decode cX2_has 5 = .ok (.iconst 1, 1) := by decide +kernel
theorem dX2_has_6 : decode cX2_has 6 = .ok (.if_icmp .ne 7, 3) := by decide +kernel
theorem dX2_has_9 : decode cX2_has 9 = .ok (.iconst 1, 1) := by decide +kernel
theorem dX2_has_10 : decode cX2_has 10 = .ok (.goto 4, 3) := by decide +kernel
theorem dX2_has_13 : decode cX2_has 13 = .ok (.iconst 0, 1) := by decide +kernel
theorem dX2_has_14 : decode cX2_has 14 = .ok (.ireturn, 1) := by decide +kernel
def fX2_has (a0 : Int) (a1 : Int) (G : Hp) : RT := if (iand (ishr a0 a1) 1) = 1 then rz 1 G else rz 0 G
theorem pX2_has {G : Hp} {a0 : Int} {a1 : Int} : PU G (fX2_has a0 a1 G) := by
  unfold fX2_has
  refine PU_ite ?_ ?_
  · exact PU_rz
  · exact PU_rz
set_option maxRecDepth 20000 in
set_option maxHeartbeats 4000000 in
theorem tX2_has (l : Launch) (x : WX) (hi : Inj x.2.2) (G : Hp) (a0 : Int) (a1 : Int)  : Ct l x yX2_has cX2_has 2 (some .boolean) 0 129 129 [vI a0, vI a1] G (fX2_has a0 a1 G) := by
  refine ct_of (plainFor_of_name (by decide)) hi (Nat.le_refl _) (Nat.le_refl _) (Nat.le_of_ble_eq_true rfl) (fun cx F hd hn0 hnE hl hQ => ?_)
  subst hl
  have F : Fx cx x RX2 cX2_has 2 (some .boolean) := F
  show Y cx x 2 (some .boolean) 129 0 [(0, vI a0), (1, vI a1)] [] G _
  unfold fX2_has
  refine x_iload_n F dX2_has_0 rfl rfl rfl ?_
  refine x_iload_n F dX2_has_1 rfl rfl rfl ?_
  refine x_ishr F dX2_has_2 rfl ?_
  refine x_iconst F dX2_has_3 ⟨by decide, by decide⟩ rfl ?_
  refine x_iand F dX2_has_4 rfl ?_
  refine x_iconst F dX2_has_5 ⟨by decide, by decide⟩ rfl ?_
  refine x_icmpne (pt := 13) F dX2_has_6 rfl rfl ?_ ?_
  · refine x_iconst F dX2_has_9 ⟨by decide, by decide⟩ rfl ?_
    refine x_goto (pc' := 14) F dX2_has_10 rfl ?_
    exact x_zret F hnE hQ dX2_has_14
  · refine x_iconst F dX2_has_13 ⟨by decide, by decide⟩ rfl ?_
    exact x_zret F hnE hQ dX2_has_14
theorem dX2_bitOf_0 : decode cX2_bitOf 0 = .ok (.iload_n 0, 1) := by decide +kernel
theorem dX2_bitOf_1 : decode cX2_bitOf 1 = .ok (.iconst (-1), 1) := by decide +kernel
theorem dX2_bitOf_2 : decode cX2_bitOf 2 = .ok (.if_icmp .ne 7, 3) := by decide +kernel
theorem dX2_bitOf_5 : decode cX2_bitOf 5 = .ok (.iconst 0, 1) := by decide +kernel
theorem dX2_bitOf_6 : decode cX2_bitOf 6 = .ok (.goto 6, 3) := by decide +kernel
theorem dX2_bitOf_9 : decode cX2_bitOf 9 = .ok (.iconst 1, 1) := by decide +kernel
theorem dX2_bitOf_10 : decode cX2_bitOf 10 = .ok (.iload_n 0, 1) := by decide +kernel
theorem dX2_bitOf_11 : decode cX2_bitOf 11 = .ok (.ishl, 1) := by decide +kernel
theorem dX2_bitOf_12 : decode cX2_bitOf 12 = .ok (.ireturn, 1) := by decide +kernel
def fX2_bitOf (a0 : Int) (G : Hp) : RT := if a0 = ((-1)) then rt 0 G else (rt (ishl 1 a0) G)
theorem pX2_bitOf {G : Hp} {a0 : Int} : PU G (fX2_bitOf a0 G) := by
  unfold fX2_bitOf
  refine PU_ite ?_ ?_
  · exact PU_rt
  · exact PU_rt
set_option maxRecDepth 20000 in
set_option maxHeartbeats 4000000 in
theorem tX2_bitOf (l : Launch) (x : WX) (hi : Inj x.2.2) (G : Hp) (a0 : Int)  : Ct l x yX2_bitOf cX2_bitOf 1 (some .int) 0 129 129 [vI a0] G (fX2_bitOf a0 G) := by
  refine ct_of (plainFor_of_name (by decide)) hi (Nat.le_refl _) (Nat.le_refl _) (Nat.le_of_ble_eq_true rfl) (fun cx F hd hn0 hnE hl hQ => ?_)
  subst hl
  have F : Fx cx x RX2 cX2_bitOf 1 (some .int) := F
  show Y cx x 1 (some .int) 129 0 [(0, vI a0)] [] G _
  unfold fX2_bitOf
  refine x_iload_n F dX2_bitOf_0 rfl rfl rfl ?_
  refine x_iconst F dX2_bitOf_1 ⟨by decide, by decide⟩ rfl ?_
  refine x_icmpne (pt := 9) F dX2_bitOf_2 rfl rfl ?_ ?_
  · refine x_iconst F dX2_bitOf_5 ⟨by decide, by decide⟩ rfl ?_
    refine x_goto (pc' := 12) F dX2_bitOf_6 rfl ?_
    exact x_iret F hnE hQ dX2_bitOf_12
  · refine x_iconst F dX2_bitOf_9 ⟨by decide, by decide⟩ rfl ?_
    refine x_iload_n F dX2_bitOf_10 rfl rfl rfl ?_
    refine x_ishl F dX2_bitOf_11 rfl ?_
    exact x_iret F hnE hQ dX2_bitOf_12
theorem dX2_ownerOf_0 : decode cX2_ownerOf 0 = .ok (.iconst (-1), 1) := by decide +kernel
theorem dX2_ownerOf_1 : decode cX2_ownerOf 1 = .ok (.istore_n 3, 1) := by decide +kernel
theorem dX2_ownerOf_2 : decode cX2_ownerOf 2 = .ok (.iconst 0, 1) := by decide +kernel
theorem dX2_ownerOf_3 : decode cX2_ownerOf 3 = .ok (.istore 4, 2) := by decide +kernel
theorem dX2_ownerOf_5 : decode cX2_ownerOf 5 = .ok (.iconst 0, 1) := by decide +kernel
theorem dX2_ownerOf_6 : decode cX2_ownerOf 6 = .ok (.istore 5, 2) := by decide +kernel
theorem dX2_ownerOf_8 : decode cX2_ownerOf 8 = .ok (.iload 5, 2) := by decide +kernel
theorem dX2_ownerOf_10 : decode cX2_ownerOf 10 = .ok (.bipush 8, 2) := by decide +kernel
theorem dX2_ownerOf_12 : decode cX2_ownerOf 12 = .ok (.if_icmp .ge 57, 3) := by decide +kernel
theorem dX2_ownerOf_15 : decode cX2_ownerOf 15 = .ok (.iload_n 2, 1) := by decide +kernel
theorem dX2_ownerOf_16 : decode cX2_ownerOf 16 = .ok (.iload 5, 2) := by decide +kernel
theorem dX2_ownerOf_18 : decode cX2_ownerOf 18 = .ok (.invokestatic 23, 3) := by decide +kernel
theorem dX2_ownerOf_21 : decode cX2_ownerOf 21 = .ok (.ifCond .eq 42, 3) := by decide +kernel
theorem dX2_ownerOf_24 : decode cX2_ownerOf 24 = .ok (.aload_n 0, 1) := by decide +kernel
theorem dX2_ownerOf_25 : decode cX2_ownerOf 25 = .ok (.getfield 9, 3) := by decide +kernel
theorem dX2_ownerOf_28 : decode cX2_ownerOf 28 = .ok (.iload_n 1, 1) := by decide +kernel
theorem dX2_ownerOf_29 : decode cX2_ownerOf 29 = .ok (.aload_n 0, 1) := by decide +kernel
theorem dX2_ownerOf_30 : decode cX2_ownerOf 30 = .ok (.getfield 9, 3) := by decide +kernel
theorem dX2_ownerOf_33 : decode cX2_ownerOf 33 = .ok (.getfield 27, 3) := by decide +kernel
theorem dX2_ownerOf_36 : decode cX2_ownerOf 36 = .ok (.iload 5, 2) := by decide +kernel
theorem dX2_ownerOf_38 : decode cX2_ownerOf 38 = .ok (.iaload, 1) := by decide +kernel
theorem dX2_ownerOf_39 : decode cX2_ownerOf 39 = .ok (.invokevirtual 33, 3) := by decide +kernel
theorem dX2_ownerOf_42 : decode cX2_ownerOf 42 = .ok (.istore 6, 2) := by decide +kernel
theorem dX2_ownerOf_44 : decode cX2_ownerOf 44 = .ok (.iload_n 3, 1) := by decide +kernel
theorem dX2_ownerOf_45 : decode cX2_ownerOf 45 = .ok (.iconst (-1), 1) := by decide +kernel
theorem dX2_ownerOf_46 : decode cX2_ownerOf 46 = .ok (.if_icmp .eq 10, 3) := by decide +kernel
theorem dX2_ownerOf_49 : decode cX2_ownerOf 49 = .ok (.iload 6, 2) := by decide +kernel
theorem dX2_ownerOf_51 : decode cX2_ownerOf 51 = .ok (.iload 4, 2) := by decide +kernel
theorem dX2_ownerOf_53 : decode cX2_ownerOf 53 = .ok (.if_icmp .ge 10, 3) := by decide +kernel
theorem dX2_ownerOf_56 : decode cX2_ownerOf 56 = .ok (.iload 5, 2) := by decide +kernel
theorem dX2_ownerOf_58 : decode cX2_ownerOf 58 = .ok (.istore_n 3, 1) := by decide +kernel
theorem dX2_ownerOf_59 : decode cX2_ownerOf 59 = .ok (.iload 6, 2) := by decide +kernel
theorem dX2_ownerOf_61 : decode cX2_ownerOf 61 = .ok (.istore 4, 2) := by decide +kernel
theorem dX2_ownerOf_63 : decode cX2_ownerOf 63 = .ok (.iinc 5 1, 3) := by decide +kernel
theorem dX2_ownerOf_66 : decode cX2_ownerOf 66 = .ok (.goto (-58), 3) := by decide +kernel
theorem dX2_ownerOf_69 : decode cX2_ownerOf 69 = .ok (.iload_n 3, 1) := by decide +kernel
theorem dX2_ownerOf_70 : decode cX2_ownerOf 70 = .ok (.ireturn, 1) := by decide +kernel
def fX2_ownerOf (a0 : Nat) (a1 : Int) (a2 : Int) (G : Hp) : RT := bd ((-1)) fun v1 => bd 0 fun v2 => bd 0 fun v3 => (lp (fun (_ : Int) (_ : Int) (_ : Int) => (none : RT)) 5000 (fun (rc7 : Int → Int → Int → RT) (v4 : Int) (v5 : Int) (v6 : Int) => if v6 < 8 then (bp (fX2_has a2 v6 G) fun v8 => jn (fun (v9 : Int) (v10 : Int) => bd (iadd v6 1) fun v12 => rc7 v9 v10 v12) fun (K11 : Int → Int → RT) => if v8 = 0 then K11 v4 v5 else (br (rd G ((rf ((rf a0 0)) 5)) 8 v6) fun v13 => bp (fX8_onward ((rf a0 0)) a1 v13 G) fun v14 => bd v14 fun v15 => jn (bd v6 fun v17 => bd v15 fun v18 => K11 v17 v18) fun (K16 : RT) => if v4 = ((-1)) then K16 else (if v15 < v5 then K16 else K11 v4 v5))) else rt v4 G)) v1 v2 v3
theorem pX2_ownerOf {G : Hp} {a0 : Nat} {a1 : Int} {a2 : Int} : PU G (fX2_ownerOf a0 a1 a2 G) := by
  unfold fX2_ownerOf
  refine PU_bd (fun v1 => ?_)
  refine PU_bd (fun v2 => ?_)
  refine PU_bd (fun v3 => ?_)
  refine x_lp (fun (rc7 : Int → Int → Int → RT) => ∀ (v4 : Int) (v5 : Int) (v6 : Int), PU G (rc7 v4 v5 v6)) (fun _ _ _ => PU_none) (fun rc7 phrc7 v4 v5 v6 => ?_) 5000 v1 v2 v3
  refine PU_ite ?_ ?_
  · refine PU_bp (fun v8 => ?_)
    refine PU_jn (fun (K11 : Int → Int → RT) => ∀ (v9 : Int) (v10 : Int), PU G (K11 v9 v10)) ?_ (fun K11 phK11 => ?_)
    · intro v9 v10
      refine PU_bd (fun v12 => ?_)
      exact phrc7 v9 v10 v12
    · refine PU_ite ?_ ?_
      · exact phK11 v4 v5
      · refine PU_br (fun v13 => ?_)
        refine PU_bp (fun v14 => ?_)
        refine PU_bd (fun v15 => ?_)
        refine PU_jn (fun (K16 : RT) => PU G (K16)) ?_ (fun K16 phK16 => ?_)
        · refine PU_bd (fun v17 => ?_)
          refine PU_bd (fun v18 => ?_)
          exact phK11 v17 v18
        · refine PU_ite ?_ ?_
          · exact phK16
          · refine PU_ite ?_ ?_
            · exact phK16
            · exact phK11 v4 v5
  · exact PU_rt
set_option maxRecDepth 20000 in
set_option maxHeartbeats 4000000 in
theorem tX2_ownerOf (l : Launch) (x : WX) (hi : Inj x.2.2) (G : Hp) (a0 : Nat) (a1 : Int) (a2 : Int) (ha0 : kd a0 = 2) : Ct l x yX2_ownerOf cX2_ownerOf 7 (some .int) 1 129 129 [vR a0, vI a1, vI a2] G (fX2_ownerOf a0 a1 a2 G) := by
  refine ct_of (plainFor_of_name (by decide)) hi (Nat.le_refl _) (Nat.le_refl _) (Nat.le_of_ble_eq_true rfl) (fun cx F hd hn0 hnE hl hQ => ?_)
  subst hl
  have F : Fx cx x RX2 cX2_ownerOf 7 (some .int) := F
  show Y cx x 7 (some .int) 129 0 [(0, vR a0), (1, vI a1), (2, vI a2)] [] G _
  unfold fX2_ownerOf
  refine x_iconst F dX2_ownerOf_0 ⟨by decide, by decide⟩ rfl ?_
  refine x_istore_n F dX2_ownerOf_1 rfl (by decide) rfl rfl (fun v1 => ?_)
  show Y cx x _ _ _ _ [(0, vR a0), (1, vI a1), (2, vI a2), (3, vI v1)] _ _ _
  refine x_iconst F dX2_ownerOf_2 ⟨by decide, by decide⟩ rfl ?_
  refine x_istore F dX2_ownerOf_3 (by decide) rfl rfl (fun v2 => ?_)
  show Y cx x _ _ _ _ [(0, vR a0), (1, vI a1), (2, vI a2), (3, vI v1), (4, vI v2)] _ _ _
  refine x_iconst F dX2_ownerOf_5 ⟨by decide, by decide⟩ rfl ?_
  refine x_istore F dX2_ownerOf_6 (by decide) rfl rfl (fun v3 => ?_)
  show Y cx x _ _ _ _ [(0, vR a0), (1, vI a1), (2, vI a2), (3, vI v1), (4, vI v2), (5, vI v3)] _ _ _
  refine x_lp (fun (rc7 : Int → Int → Int → RT) => ∀ (v4 : Int) (v5 : Int) (v6 : Int), Y cx x 7 (some .int) 129 8 [(0, vR a0), (1, vI a1), (2, vI a2), (3, vI v4), (4, vI v5), (5, vI v6)] [] G (rc7 v4 v5 v6)) (fun _ _ _ => Y_none) (fun rc7 hrc7 v4 v5 v6 => ?_) 5000 v1 v2 v3
  refine x_iload F dX2_ownerOf_8 rfl rfl ?_
  refine x_bipush F dX2_ownerOf_10 ⟨by decide, by decide⟩ (by decide) rfl ?_
  refine x_icmpge (pt := 69) F dX2_ownerOf_12 rfl rfl ?_ ?_
  · refine x_iload_n F dX2_ownerOf_15 rfl rfl rfl ?_
    refine x_iload F dX2_ownerOf_16 rfl rfl ?_
    refine s_callSP F [vI a2, vI v6] [] lkX2_23 mX2_has hnE hn0 hd pX2_has (tX2_has cx.l x hi G a2 v6) rfl rfl dX2_ownerOf_18 rfl rfl (fun v8 => ?_)
    refine x_jn (fun (K11 : Int → Int → RT) => ∀ (v9 : Int) (v10 : Int), Y cx x 7 (some .int) 129 63 [(0, vR a0), (1, vI a1), (2, vI a2), (3, vI v9), (4, vI v10), (5, vI v6)] [] G (K11 v9 v10)) ?_ (fun K11 hK11 => ?_)
    · intro v9 v10
      refine x_iinc F dX2_ownerOf_63 rfl (by decide) rfl rfl (fun v12 => ?_)
      show Y cx x _ _ _ _ [(0, vR a0), (1, vI a1), (2, vI a2), (3, vI v9), (4, vI v10), (5, vI v12)] _ _ _
      refine x_goto (pc' := 8) F dX2_ownerOf_66 rfl ?_
      exact hrc7 v9 v10 v12
    · refine x_ifeq (pt := 63) F dX2_ownerOf_21 rfl rfl ?_ ?_
      · exact hK11 v4 v5
      · refine x_aload_n F dX2_ownerOf_24 rfl rfl rfl ?_
        refine x_getR F flX2_9 ha0 rfl dX2_ownerOf_25 rfl ?_
        refine x_iload_n F dX2_ownerOf_28 rfl rfl rfl ?_
        refine x_aload_n F dX2_ownerOf_29 rfl rfl rfl ?_
        refine x_getR F flX2_9 ha0 rfl dX2_ownerOf_30 rfl ?_
        refine x_getR F flX2_27 (tf2_0 ha0).1 rfl dX2_ownerOf_33 rfl ?_
        refine x_iload F dX2_ownerOf_36 rfl rfl ?_
        refine s_iald F (tf8_5 (tf2_0 ha0).1).1 (tf8_5 (tf2_0 ha0).1).2 dX2_ownerOf_38 rfl (fun v13 => ?_)
        refine s_callVP F [vI a1, vI v13] [] lkX2_33 mX8_onward rfl (tf2_0 ha0).1 rfl hnE hn0 hd pX8_onward (tX8_onward cx.l x hi G ((rf a0 0)) a1 v13 (tf2_0 ha0).1) rfl rfl dX2_ownerOf_39 rfl rfl (fun v14 => ?_)
        refine x_istore F dX2_ownerOf_42 (by decide) rfl rfl (fun v15 => ?_)
        show Y cx x _ _ _ _ [(0, vR a0), (1, vI a1), (2, vI a2), (3, vI v4), (4, vI v5), (5, vI v6), (6, vI v15)] _ _ _
        refine x_iload_n F dX2_ownerOf_44 rfl rfl rfl ?_
        refine x_iconst F dX2_ownerOf_45 ⟨by decide, by decide⟩ rfl ?_
        refine x_jn (fun (K16 : RT) => Y cx x 7 (some .int) 129 56 [(0, vR a0), (1, vI a1), (2, vI a2), (5, vI v6), (6, vI v15)] [] G K16) ?_ (fun K16 hK16 => ?_)
        · refine x_iload F dX2_ownerOf_56 rfl rfl ?_
          refine x_istore_n F dX2_ownerOf_58 rfl (by decide) rfl rfl (fun v17 => ?_)
          show Y cx x _ _ _ _ [(0, vR a0), (1, vI a1), (2, vI a2), (5, vI v6), (6, vI v15), (3, vI v17)] _ _ _
          refine x_iload F dX2_ownerOf_59 rfl rfl ?_
          refine x_dp (L' := [(0, vR a0), (1, vI a1), (2, vI a2), (5, vI v6), (3, vI v17)]) [0, 1, 2, 3, 5] rfl ?_
          refine x_istore F dX2_ownerOf_61 (by decide) rfl rfl (fun v18 => ?_)
          show Y cx x _ _ _ _ [(0, vR a0), (1, vI a1), (2, vI a2), (5, vI v6), (3, vI v17), (4, vI v18)] _ _ _
          refine x_dp (L' := [(0, vR a0), (1, vI a1), (2, vI a2), (3, vI v17), (4, vI v18), (5, vI v6)]) [0, 1, 2, 4, 5, 3] rfl ?_
          exact hK11 v17 v18
        · refine x_icmpeq (pt := 56) F dX2_ownerOf_46 rfl rfl ?_ ?_
          · refine x_dp (L' := [(0, vR a0), (1, vI a1), (2, vI a2), (5, vI v6), (6, vI v15)]) [0, 1, 2, 5, 6] rfl ?_
            exact hK16
          · refine x_iload F dX2_ownerOf_49 rfl rfl ?_
            refine x_iload F dX2_ownerOf_51 rfl rfl ?_
            refine x_icmpge (pt := 63) F dX2_ownerOf_53 rfl rfl ?_ ?_
            · refine x_dp (L' := [(0, vR a0), (1, vI a1), (2, vI a2), (5, vI v6), (6, vI v15)]) [0, 1, 2, 5, 6] rfl ?_
              exact hK16
            · refine x_dp (L' := [(0, vR a0), (1, vI a1), (2, vI a2), (3, vI v4), (4, vI v5), (5, vI v6)]) [0, 1, 2, 3, 4, 5] rfl ?_
              exact hK11 v4 v5
  · refine x_iload_n F dX2_ownerOf_69 rfl rfl rfl ?_
    exact x_iret F hnE hQ dX2_ownerOf_70
theorem dX2_lostKeys_0 : decode cX2_lostKeys 0 = .ok (.iconst 0, 1) := by decide +kernel
theorem dX2_lostKeys_1 : decode cX2_lostKeys 1 = .ok (.istore_n 1, 1) := by decide +kernel
theorem dX2_lostKeys_2 : decode cX2_lostKeys 2 = .ok (.iconst 0, 1) := by decide +kernel
theorem dX2_lostKeys_3 : decode cX2_lostKeys 3 = .ok (.istore_n 2, 1) := by decide +kernel
theorem dX2_lostKeys_4 : decode cX2_lostKeys 4 = .ok (.iload_n 2, 1) := by decide +kernel
theorem dX2_lostKeys_5 : decode cX2_lostKeys 5 = .ok (.aload_n 0, 1) := by decide +kernel
theorem dX2_lostKeys_6 : decode cX2_lostKeys 6 = .ok (.getfield 9, 3) := by decide +kernel
theorem dX2_lostKeys_9 : decode cX2_lostKeys 9 = .ok (.getfield 37, 3) := by decide +kernel
theorem dX2_lostKeys_12 : decode cX2_lostKeys 12 = .ok (.if_icmp .ge 27, 3) := by decide +kernel
theorem dX2_lostKeys_15 : decode cX2_lostKeys 15 = .ok (.aload_n 0, 1) := by decide +kernel
theorem dX2_lostKeys_16 : decode cX2_lostKeys 16 = .ok (.getfield 15, 3) := by decide +kernel
theorem dX2_lostKeys_19 : decode cX2_lostKeys 19 = .ok (.iload_n 2, 1) := by decide +kernel
theorem dX2_lostKeys_20 : decode cX2_lostKeys 20 = .ok (.invokevirtual 41, 3) := by decide +kernel
theorem dX2_lostKeys_23 : decode cX2_lostKeys 23 = .ok (.iconst (-1), 1) := by decide +kernel
theorem dX2_lostKeys_24 : decode cX2_lostKeys 24 = .ok (.if_icmp .ne 9, 3) := by decide +kernel
theorem dX2_lostKeys_27 : decode cX2_lostKeys 27 = .ok (.iload_n 1, 1) := by decide +kernel
theorem dX2_lostKeys_28 : decode cX2_lostKeys 28 = .ok (.iconst 1, 1) := by decide +kernel
theorem dX2_lostKeys_29 : decode cX2_lostKeys 29 = .ok (.iload_n 2, 1) := by decide +kernel
theorem dX2_lostKeys_30 : decode cX2_lostKeys 30 = .ok (.ishl, 1) := by decide +kernel
theorem dX2_lostKeys_31 : decode cX2_lostKeys 31 = .ok (.ior, 1) := by decide +kernel
theorem dX2_lostKeys_32 : decode cX2_lostKeys 32 = .ok (.istore_n 1, 1) := by decide +kernel
theorem dX2_lostKeys_33 : decode cX2_lostKeys 33 = .ok (.iinc 2 1, 3) := by decide +kernel
theorem dX2_lostKeys_36 : decode cX2_lostKeys 36 = .ok (.goto (-32), 3) := by decide +kernel
theorem dX2_lostKeys_39 : decode cX2_lostKeys 39 = .ok (.iload_n 1, 1) := by decide +kernel
theorem dX2_lostKeys_40 : decode cX2_lostKeys 40 = .ok (.ireturn, 1) := by decide +kernel
def fX2_lostKeys (a0 : Nat) (G : Hp) : RT := bd 0 fun v1 => bd 0 fun v2 => (lp (fun (_ : Int) (_ : Int) => (none : RT)) 5000 (fun (rc5 : Int → Int → RT) (v3 : Int) (v4 : Int) => if v4 < (G ((rf a0 0)) 3) then (bp (fX6_holderOf ((rf a0 1)) v4 G) fun v6 => jn (fun (v7 : Int) => bd (iadd v4 1) fun v9 => rc5 v7 v9) fun (K8 : Int → RT) => if v6 = ((-1)) then (bd (ior v3 (ishl 1 v4)) fun v10 => K8 v10) else K8 v3) else rt v3 G)) v1 v2
theorem pX2_lostKeys {G : Hp} {a0 : Nat} : PU G (fX2_lostKeys a0 G) := by
  unfold fX2_lostKeys
  refine PU_bd (fun v1 => ?_)
  refine PU_bd (fun v2 => ?_)
  refine x_lp (fun (rc5 : Int → Int → RT) => ∀ (v3 : Int) (v4 : Int), PU G (rc5 v3 v4)) (fun _ _ => PU_none) (fun rc5 phrc5 v3 v4 => ?_) 5000 v1 v2
  refine PU_ite ?_ ?_
  · refine PU_bp (fun v6 => ?_)
    refine PU_jn (fun (K8 : Int → RT) => ∀ (v7 : Int), PU G (K8 v7)) ?_ (fun K8 phK8 => ?_)
    · intro v7
      refine PU_bd (fun v9 => ?_)
      exact phrc5 v7 v9
    · refine PU_ite ?_ ?_
      · refine PU_bd (fun v10 => ?_)
        exact phK8 v10
      · exact phK8 v3
  · exact PU_rt
set_option maxRecDepth 20000 in
set_option maxHeartbeats 4000000 in
theorem tX2_lostKeys (l : Launch) (x : WX) (hi : Inj x.2.2) (G : Hp) (a0 : Nat) (ha0 : kd a0 = 2) : Ct l x yX2_lostKeys cX2_lostKeys 3 (some .int) 1 129 129 [vR a0] G (fX2_lostKeys a0 G) := by
  refine ct_of (plainFor_of_name (by decide)) hi (Nat.le_refl _) (Nat.le_refl _) (Nat.le_of_ble_eq_true rfl) (fun cx F hd hn0 hnE hl hQ => ?_)
  subst hl
  have F : Fx cx x RX2 cX2_lostKeys 3 (some .int) := F
  show Y cx x 3 (some .int) 129 0 [(0, vR a0)] [] G _
  unfold fX2_lostKeys
  refine x_iconst F dX2_lostKeys_0 ⟨by decide, by decide⟩ rfl ?_
  refine x_istore_n F dX2_lostKeys_1 rfl (by decide) rfl rfl (fun v1 => ?_)
  show Y cx x _ _ _ _ [(0, vR a0), (1, vI v1)] _ _ _
  refine x_iconst F dX2_lostKeys_2 ⟨by decide, by decide⟩ rfl ?_
  refine x_istore_n F dX2_lostKeys_3 rfl (by decide) rfl rfl (fun v2 => ?_)
  show Y cx x _ _ _ _ [(0, vR a0), (1, vI v1), (2, vI v2)] _ _ _
  refine x_lp (fun (rc5 : Int → Int → RT) => ∀ (v3 : Int) (v4 : Int), Y cx x 3 (some .int) 129 4 [(0, vR a0), (1, vI v3), (2, vI v4)] [] G (rc5 v3 v4)) (fun _ _ => Y_none) (fun rc5 hrc5 v3 v4 => ?_) 5000 v1 v2
  refine x_iload_n F dX2_lostKeys_4 rfl rfl rfl ?_
  refine x_aload_n F dX2_lostKeys_5 rfl rfl rfl ?_
  refine x_getR F flX2_9 ha0 rfl dX2_lostKeys_6 rfl ?_
  refine s_getI F flX2_37 (tf2_0 ha0).1 rfl dX2_lostKeys_9 rfl ?_
  refine x_icmpge (pt := 39) F dX2_lostKeys_12 rfl rfl ?_ ?_
  · refine x_aload_n F dX2_lostKeys_15 rfl rfl rfl ?_
    refine x_getR F flX2_15 ha0 rfl dX2_lostKeys_16 rfl ?_
    refine x_iload_n F dX2_lostKeys_19 rfl rfl rfl ?_
    refine s_callVP F [vI v4] [] lkX2_41 mX6_holderOf rfl (tf2_1 ha0).1 rfl hnE hn0 hd pX6_holderOf (tX6_holderOf cx.l x hi G ((rf a0 1)) v4 (tf2_1 ha0).1) rfl rfl dX2_lostKeys_20 rfl rfl (fun v6 => ?_)
    refine x_iconst F dX2_lostKeys_23 ⟨by decide, by decide⟩ rfl ?_
    refine x_jn (fun (K8 : Int → RT) => ∀ (v7 : Int), Y cx x 3 (some .int) 129 33 [(0, vR a0), (1, vI v7), (2, vI v4)] [] G (K8 v7)) ?_ (fun K8 hK8 => ?_)
    · intro v7
      refine x_iinc F dX2_lostKeys_33 rfl (by decide) rfl rfl (fun v9 => ?_)
      show Y cx x _ _ _ _ [(0, vR a0), (1, vI v7), (2, vI v9)] _ _ _
      refine x_goto (pc' := 4) F dX2_lostKeys_36 rfl ?_
      exact hrc5 v7 v9
    · refine x_icmpne (pt := 33) F dX2_lostKeys_24 rfl rfl ?_ ?_
      · refine x_iload_n F dX2_lostKeys_27 rfl rfl rfl ?_
        refine x_iconst F dX2_lostKeys_28 ⟨by decide, by decide⟩ rfl ?_
        refine x_iload_n F dX2_lostKeys_29 rfl rfl rfl ?_
        refine x_ishl F dX2_lostKeys_30 rfl ?_
        refine x_ior F dX2_lostKeys_31 rfl ?_
        refine x_istore_n F dX2_lostKeys_32 rfl (by decide) rfl rfl (fun v10 => ?_)
        show Y cx x _ _ _ _ [(0, vR a0), (1, vI v10), (2, vI v4)] _ _ _
        exact hK8 v10
      · exact hK8 v3
  · refine x_iload_n F dX2_lostKeys_39 rfl rfl rfl ?_
    exact x_iret F hnE hQ dX2_lostKeys_40
theorem dX2_nearerThan_0 : decode cX2_nearerThan 0 = .ok (.aload_n 0, 1) := by decide +kernel
theorem dX2_nearerThan_1 : decode cX2_nearerThan 1 = .ok (.getfield 9, 3) := by decide +kernel
theorem dX2_nearerThan_4 : decode cX2_nearerThan 4 = .ok (.iload_n 2, 1) := by decide +kernel
theorem dX2_nearerThan_5 : decode cX2_nearerThan 5 = .ok (.aload_n 0, 1) := by decide +kernel
theorem dX2_nearerThan_6 : decode cX2_nearerThan 6 = .ok (.getfield 9, 3) := by decide +kernel
theorem dX2_nearerThan_9 : decode cX2_nearerThan 9 = .ok (.getfield 27, 3) := by decide +kernel
theorem dX2_nearerThan_12 : decode cX2_nearerThan 12 = .ok (.iload_n 1, 1) := by decide +kernel
theorem dX2_nearerThan_13 : decode cX2_nearerThan 13 = .ok (.iaload, 1) := by decide +kernel
theorem dX2_nearerThan_14 : decode cX2_nearerThan 14 = .ok (.invokevirtual 33, 3) := by decide +kernel
theorem dX2_nearerThan_17 : decode cX2_nearerThan 17 = .ok (.istore_n 3, 1) := by decide +kernel
theorem dX2_nearerThan_18 : decode cX2_nearerThan 18 = .ok (.iconst 0, 1) := by decide +kernel
theorem dX2_nearerThan_19 : decode cX2_nearerThan 19 = .ok (.istore 4, 2) := by decide +kernel
theorem dX2_nearerThan_21 : decode cX2_nearerThan 21 = .ok (.iconst 0, 1) := by decide +kernel
theorem dX2_nearerThan_22 : decode cX2_nearerThan 22 = .ok (.istore 5, 2) := by decide +kernel
theorem dX2_nearerThan_24 : decode cX2_nearerThan 24 = .ok (.iload 5, 2) := by decide +kernel
theorem dX2_nearerThan_26 : decode cX2_nearerThan 26 = .ok (.bipush 8, 2) := by decide +kernel
theorem dX2_nearerThan_28 : decode cX2_nearerThan 28 = .ok (.if_icmp .ge 46, 3) := by decide +kernel
theorem dX2_nearerThan_31 : decode cX2_nearerThan 31 = .ok (.aload_n 0, 1) := by decide +kernel
theorem dX2_nearerThan_32 : decode cX2_nearerThan 32 = .ok (.getfield 15, 3) := by decide +kernel
theorem dX2_nearerThan_35 : decode cX2_nearerThan 35 = .ok (.iload 5, 2) := by decide +kernel
theorem dX2_nearerThan_37 : decode cX2_nearerThan 37 = .ok (.invokevirtual 56, 3) := by decide +kernel
theorem dX2_nearerThan_40 : decode cX2_nearerThan 40 = .ok (.ifCond .eq 28, 3) := by decide +kernel
theorem dX2_nearerThan_43 : decode cX2_nearerThan 43 = .ok (.aload_n 0, 1) := by decide +kernel
theorem dX2_nearerThan_44 : decode cX2_nearerThan 44 = .ok (.getfield 9, 3) := by decide +kernel
theorem dX2_nearerThan_47 : decode cX2_nearerThan 47 = .ok (.iload_n 2, 1) := by decide +kernel
theorem dX2_nearerThan_48 : decode cX2_nearerThan 48 = .ok (.aload_n 0, 1) := by decide +kernel
theorem dX2_nearerThan_49 : decode cX2_nearerThan 49 = .ok (.getfield 9, 3) := by decide +kernel
theorem dX2_nearerThan_52 : decode cX2_nearerThan 52 = .ok (.getfield 27, 3) := by decide +kernel
theorem dX2_nearerThan_55 : decode cX2_nearerThan 55 = .ok (.iload 5, 2) := by decide +kernel
theorem dX2_nearerThan_57 : decode cX2_nearerThan 57 = .ok (.iaload, 1) := by decide +kernel
theorem dX2_nearerThan_58 : decode cX2_nearerThan 58 = .ok (.invokevirtual 33, 3) := by decide +kernel
theorem dX2_nearerThan_61 : decode cX2_nearerThan 61 = .ok (.iload_n 3, 1) := by decide +kernel
theorem dX2_nearerThan_62 : decode cX2_nearerThan 62 = .ok (.if_icmp .ge 6, 3) := by decide +kernel
theorem dX2_nearerThan_65 : decode cX2_nearerThan 65 = .ok (.iinc 4 1, 3) := by decide +kernel
theorem dX2_nearerThan_68 : decode cX2_nearerThan 68 = .ok (.iinc 5 1, 3) := by decide +kernel
theorem dX2_nearerThan_71 : decode cX2_nearerThan 71 = .ok (.goto (-47), 3) := by decide +kernel
theorem dX2_nearerThan_74 : decode cX2_nearerThan 74 = .ok (.iload 4, 2) := by decide +kernel
theorem dX2_nearerThan_76 : decode cX2_nearerThan 76 = .ok (.ireturn, 1) := by decide +kernel
def fX2_nearerThan (a0 : Nat) (a1 : Int) (a2 : Int) (G : Hp) : RT := br (rd G ((rf ((rf a0 0)) 5)) 8 a1) fun v1 => bp (fX8_onward ((rf a0 0)) a2 v1 G) fun v2 => bd v2 fun v3 => bd 0 fun v4 => bd 0 fun v5 => (lp (fun (_ : Int) (_ : Int) => (none : RT)) 5000 (fun (rc8 : Int → Int → RT) (v6 : Int) (v7 : Int) => if v7 < 8 then (bp (fX6_isIn ((rf a0 1)) v7 G) fun v9 => jn (fun (v10 : Int) => bd (iadd v7 1) fun v12 => rc8 v10 v12) fun (K11 : Int → RT) => if v9 = 0 then K11 v6 else (br (rd G ((rf ((rf a0 0)) 5)) 8 v7) fun v13 => bp (fX8_onward ((rf a0 0)) a2 v13 G) fun v14 => if v14 < v3 then (bd (iadd v6 1) fun v15 => K11 v15) else K11 v6)) else rt v6 G)) v4 v5
theorem pX2_nearerThan {G : Hp} {a0 : Nat} {a1 : Int} {a2 : Int} : PU G (fX2_nearerThan a0 a1 a2 G) := by
  unfold fX2_nearerThan
  refine PU_br (fun v1 => ?_)
  refine PU_bp (fun v2 => ?_)
  refine PU_bd (fun v3 => ?_)
  refine PU_bd (fun v4 => ?_)
  refine PU_bd (fun v5 => ?_)
  refine x_lp (fun (rc8 : Int → Int → RT) => ∀ (v6 : Int) (v7 : Int), PU G (rc8 v6 v7)) (fun _ _ => PU_none) (fun rc8 phrc8 v6 v7 => ?_) 5000 v4 v5
  refine PU_ite ?_ ?_
  · refine PU_bp (fun v9 => ?_)
    refine PU_jn (fun (K11 : Int → RT) => ∀ (v10 : Int), PU G (K11 v10)) ?_ (fun K11 phK11 => ?_)
    · intro v10
      refine PU_bd (fun v12 => ?_)
      exact phrc8 v10 v12
    · refine PU_ite ?_ ?_
      · exact phK11 v6
      · refine PU_br (fun v13 => ?_)
        refine PU_bp (fun v14 => ?_)
        refine PU_ite ?_ ?_
        · refine PU_bd (fun v15 => ?_)
          exact phK11 v15
        · exact phK11 v6
  · exact PU_rt
set_option maxRecDepth 20000 in
set_option maxHeartbeats 4000000 in
theorem tX2_nearerThan (l : Launch) (x : WX) (hi : Inj x.2.2) (G : Hp) (a0 : Nat) (a1 : Int) (a2 : Int) (ha0 : kd a0 = 2) : Ct l x yX2_nearerThan cX2_nearerThan 6 (some .int) 1 129 129 [vR a0, vI a1, vI a2] G (fX2_nearerThan a0 a1 a2 G) := by
  refine ct_of (plainFor_of_name (by decide)) hi (Nat.le_refl _) (Nat.le_refl _) (Nat.le_of_ble_eq_true rfl) (fun cx F hd hn0 hnE hl hQ => ?_)
  subst hl
  have F : Fx cx x RX2 cX2_nearerThan 6 (some .int) := F
  show Y cx x 6 (some .int) 129 0 [(0, vR a0), (1, vI a1), (2, vI a2)] [] G _
  unfold fX2_nearerThan
  refine x_aload_n F dX2_nearerThan_0 rfl rfl rfl ?_
  refine x_getR F flX2_9 ha0 rfl dX2_nearerThan_1 rfl ?_
  refine x_iload_n F dX2_nearerThan_4 rfl rfl rfl ?_
  refine x_aload_n F dX2_nearerThan_5 rfl rfl rfl ?_
  refine x_getR F flX2_9 ha0 rfl dX2_nearerThan_6 rfl ?_
  refine x_getR F flX2_27 (tf2_0 ha0).1 rfl dX2_nearerThan_9 rfl ?_
  refine x_iload_n F dX2_nearerThan_12 rfl rfl rfl ?_
  refine s_iald F (tf8_5 (tf2_0 ha0).1).1 (tf8_5 (tf2_0 ha0).1).2 dX2_nearerThan_13 rfl (fun v1 => ?_)
  refine s_callVP F [vI a2, vI v1] [] lkX2_33 mX8_onward rfl (tf2_0 ha0).1 rfl hnE hn0 hd pX8_onward (tX8_onward cx.l x hi G ((rf a0 0)) a2 v1 (tf2_0 ha0).1) rfl rfl dX2_nearerThan_14 rfl rfl (fun v2 => ?_)
  refine x_dp (L' := [(0, vR a0), (2, vI a2)]) [0, 2] rfl ?_
  refine x_istore_n F dX2_nearerThan_17 rfl (by decide) rfl rfl (fun v3 => ?_)
  show Y cx x _ _ _ _ [(0, vR a0), (2, vI a2), (3, vI v3)] _ _ _
  refine x_iconst F dX2_nearerThan_18 ⟨by decide, by decide⟩ rfl ?_
  refine x_istore F dX2_nearerThan_19 (by decide) rfl rfl (fun v4 => ?_)
  show Y cx x _ _ _ _ [(0, vR a0), (2, vI a2), (3, vI v3), (4, vI v4)] _ _ _
  refine x_iconst F dX2_nearerThan_21 ⟨by decide, by decide⟩ rfl ?_
  refine x_istore F dX2_nearerThan_22 (by decide) rfl rfl (fun v5 => ?_)
  show Y cx x _ _ _ _ [(0, vR a0), (2, vI a2), (3, vI v3), (4, vI v4), (5, vI v5)] _ _ _
  refine x_lp (fun (rc8 : Int → Int → RT) => ∀ (v6 : Int) (v7 : Int), Y cx x 6 (some .int) 129 24 [(0, vR a0), (2, vI a2), (3, vI v3), (4, vI v6), (5, vI v7)] [] G (rc8 v6 v7)) (fun _ _ => Y_none) (fun rc8 hrc8 v6 v7 => ?_) 5000 v4 v5
  refine x_iload F dX2_nearerThan_24 rfl rfl ?_
  refine x_bipush F dX2_nearerThan_26 ⟨by decide, by decide⟩ (by decide) rfl ?_
  refine x_icmpge (pt := 74) F dX2_nearerThan_28 rfl rfl ?_ ?_
  · refine x_aload_n F dX2_nearerThan_31 rfl rfl rfl ?_
    refine x_getR F flX2_15 ha0 rfl dX2_nearerThan_32 rfl ?_
    refine x_iload F dX2_nearerThan_35 rfl rfl ?_
    refine s_callVP F [vI v7] [] lkX2_56 mX6_isIn rfl (tf2_1 ha0).1 rfl hnE hn0 hd pX6_isIn (tX6_isIn cx.l x hi G ((rf a0 1)) v7 (tf2_1 ha0).1) rfl rfl dX2_nearerThan_37 rfl rfl (fun v9 => ?_)
    refine x_jn (fun (K11 : Int → RT) => ∀ (v10 : Int), Y cx x 6 (some .int) 129 68 [(0, vR a0), (2, vI a2), (3, vI v3), (4, vI v10), (5, vI v7)] [] G (K11 v10)) ?_ (fun K11 hK11 => ?_)
    · intro v10
      refine x_iinc F dX2_nearerThan_68 rfl (by decide) rfl rfl (fun v12 => ?_)
      show Y cx x _ _ _ _ [(0, vR a0), (2, vI a2), (3, vI v3), (4, vI v10), (5, vI v12)] _ _ _
      refine x_goto (pc' := 24) F dX2_nearerThan_71 rfl ?_
      exact hrc8 v10 v12
    · refine x_ifeq (pt := 68) F dX2_nearerThan_40 rfl rfl ?_ ?_
      · exact hK11 v6
      · refine x_aload_n F dX2_nearerThan_43 rfl rfl rfl ?_
        refine x_getR F flX2_9 ha0 rfl dX2_nearerThan_44 rfl ?_
        refine x_iload_n F dX2_nearerThan_47 rfl rfl rfl ?_
        refine x_aload_n F dX2_nearerThan_48 rfl rfl rfl ?_
        refine x_getR F flX2_9 ha0 rfl dX2_nearerThan_49 rfl ?_
        refine x_getR F flX2_27 (tf2_0 ha0).1 rfl dX2_nearerThan_52 rfl ?_
        refine x_iload F dX2_nearerThan_55 rfl rfl ?_
        refine s_iald F (tf8_5 (tf2_0 ha0).1).1 (tf8_5 (tf2_0 ha0).1).2 dX2_nearerThan_57 rfl (fun v13 => ?_)
        refine s_callVP F [vI a2, vI v13] [] lkX2_33 mX8_onward rfl (tf2_0 ha0).1 rfl hnE hn0 hd pX8_onward (tX8_onward cx.l x hi G ((rf a0 0)) a2 v13 (tf2_0 ha0).1) rfl rfl dX2_nearerThan_58 rfl rfl (fun v14 => ?_)
        refine x_iload_n F dX2_nearerThan_61 rfl rfl rfl ?_
        refine x_icmpge (pt := 68) F dX2_nearerThan_62 rfl rfl ?_ ?_
        · refine x_iinc F dX2_nearerThan_65 rfl (by decide) rfl rfl (fun v15 => ?_)
          show Y cx x _ _ _ _ [(0, vR a0), (2, vI a2), (3, vI v3), (4, vI v15), (5, vI v7)] _ _ _
          exact hK11 v15
        · exact hK11 v6
  · refine x_iload F dX2_nearerThan_74 rfl rfl ?_
    exact x_iret F hnE hQ dX2_nearerThan_76
theorem dX2_hostsOf_0 : decode cX2_hostsOf 0 = .ok (.iconst 0, 1) := by decide +kernel
theorem dX2_hostsOf_1 : decode cX2_hostsOf 1 = .ok (.istore_n 2, 1) := by decide +kernel
theorem dX2_hostsOf_2 : decode cX2_hostsOf 2 = .ok (.iconst 0, 1) := by decide +kernel
theorem dX2_hostsOf_3 : decode cX2_hostsOf 3 = .ok (.istore_n 3, 1) := by decide +kernel
theorem dX2_hostsOf_4 : decode cX2_hostsOf 4 = .ok (.iload_n 3, 1) := by decide +kernel
theorem dX2_hostsOf_5 : decode cX2_hostsOf 5 = .ok (.bipush 8, 2) := by decide +kernel
theorem dX2_hostsOf_7 : decode cX2_hostsOf 7 = .ok (.if_icmp .ge 44, 3) := by decide +kernel
theorem dX2_hostsOf_10 : decode cX2_hostsOf 10 = .ok (.iconst 0, 1) := by decide +kernel
theorem dX2_hostsOf_11 : decode cX2_hostsOf 11 = .ok (.istore 4, 2) := by decide +kernel
theorem dX2_hostsOf_13 : decode cX2_hostsOf 13 = .ok (.iload 4, 2) := by decide +kernel
theorem dX2_hostsOf_15 : decode cX2_hostsOf 15 = .ok (.iconst 4, 1) := by decide +kernel
theorem dX2_hostsOf_16 : decode cX2_hostsOf 16 = .ok (.if_icmp .ge 29, 3) := by decide +kernel
theorem dX2_hostsOf_19 : decode cX2_hostsOf 19 = .ok (.aload_n 0, 1) := by decide +kernel
theorem dX2_hostsOf_20 : decode cX2_hostsOf 20 = .ok (.getfield 15, 3) := by decide +kernel
theorem dX2_hostsOf_23 : decode cX2_hostsOf 23 = .ok (.iload_n 3, 1) := by decide +kernel
theorem dX2_hostsOf_24 : decode cX2_hostsOf 24 = .ok (.iload 4, 2) := by decide +kernel
theorem dX2_hostsOf_26 : decode cX2_hostsOf 26 = .ok (.invokevirtual 120, 3) := by decide +kernel
theorem dX2_hostsOf_29 : decode cX2_hostsOf 29 = .ok (.iload_n 1, 1) := by decide +kernel
theorem dX2_hostsOf_30 : decode cX2_hostsOf 30 = .ok (.if_icmp .ne 9, 3) := by decide +kernel
theorem dX2_hostsOf_33 : decode cX2_hostsOf 33 = .ok (.iload_n 2, 1) := by decide +kernel
theorem dX2_hostsOf_34 : decode cX2_hostsOf 34 = .ok (.iconst 1, 1) := by decide +kernel
theorem dX2_hostsOf_35 : decode cX2_hostsOf 35 = .ok (.iload_n 3, 1) := by decide +kernel
theorem dX2_hostsOf_36 : decode cX2_hostsOf 36 = .ok (.ishl, 1) := by decide +kernel
theorem dX2_hostsOf_37 : decode cX2_hostsOf 37 = .ok (.ior, 1) := by decide +kernel
theorem dX2_hostsOf_38 : decode cX2_hostsOf 38 = .ok (.istore_n 2, 1) := by decide +kernel
theorem dX2_hostsOf_39 : decode cX2_hostsOf 39 = .ok (.iinc 4 1, 3) := by decide +kernel
theorem dX2_hostsOf_42 : decode cX2_hostsOf 42 = .ok (.goto (-29), 3) := by decide +kernel
theorem dX2_hostsOf_45 : decode cX2_hostsOf 45 = .ok (.iinc 3 1, 3) := by decide +kernel
theorem dX2_hostsOf_48 : decode cX2_hostsOf 48 = .ok (.goto (-44), 3) := by decide +kernel
theorem dX2_hostsOf_51 : decode cX2_hostsOf 51 = .ok (.iload_n 2, 1) := by decide +kernel
theorem dX2_hostsOf_52 : decode cX2_hostsOf 52 = .ok (.ireturn, 1) := by decide +kernel
def fX2_hostsOf (a0 : Nat) (a1 : Int) (G : Hp) : RT := bd 0 fun v1 => bd 0 fun v2 => (lp (fun (_ : Int) (_ : Int) => (none : RT)) 5000 (fun (rc5 : Int → Int → RT) (v3 : Int) (v4 : Int) => if v4 < 8 then (bd 0 fun v6 => (lp (fun (_ : Int) (_ : Int) => (none : RT)) 5000 (fun (rc9 : Int → Int → RT) (v7 : Int) (v8 : Int) => if v8 < 4 then (bp (fX6_listAt ((rf a0 1)) v4 v8 G) fun v11 => jn (fun (v12 : Int) => bd (iadd v8 1) fun v14 => rc9 v12 v14) fun (K13 : Int → RT) => if v11 = a1 then (bd (ior v7 (ishl 1 v4)) fun v15 => K13 v15) else K13 v7) else (bd (iadd v4 1) fun v10 => rc5 v7 v10))) v3 v6) else rt v3 G)) v1 v2
theorem pX2_hostsOf {G : Hp} {a0 : Nat} {a1 : Int} : PU G (fX2_hostsOf a0 a1 G) := by
  unfold fX2_hostsOf
  refine PU_bd (fun v1 => ?_)
  refine PU_bd (fun v2 => ?_)
  refine x_lp (fun (rc5 : Int → Int → RT) => ∀ (v3 : Int) (v4 : Int), PU G (rc5 v3 v4)) (fun _ _ => PU_none) (fun rc5 phrc5 v3 v4 => ?_) 5000 v1 v2
  refine PU_ite ?_ ?_
  · refine PU_bd (fun v6 => ?_)
    refine x_lp (fun (rc9 : Int → Int → RT) => ∀ (v7 : Int) (v8 : Int), PU G (rc9 v7 v8)) (fun _ _ => PU_none) (fun rc9 phrc9 v7 v8 => ?_) 5000 v3 v6
    refine PU_ite ?_ ?_
    · refine PU_bp (fun v11 => ?_)
      refine PU_jn (fun (K13 : Int → RT) => ∀ (v12 : Int), PU G (K13 v12)) ?_ (fun K13 phK13 => ?_)
      · intro v12
        refine PU_bd (fun v14 => ?_)
        exact phrc9 v12 v14
      · refine PU_ite ?_ ?_
        · refine PU_bd (fun v15 => ?_)
          exact phK13 v15
        · exact phK13 v7
    · refine PU_bd (fun v10 => ?_)
      exact phrc5 v7 v10
  · exact PU_rt
set_option maxRecDepth 20000 in
set_option maxHeartbeats 4000000 in
theorem tX2_hostsOf (l : Launch) (x : WX) (hi : Inj x.2.2) (G : Hp) (a0 : Nat) (a1 : Int) (ha0 : kd a0 = 2) : Ct l x yX2_hostsOf cX2_hostsOf 5 (some .int) 1 129 129 [vR a0, vI a1] G (fX2_hostsOf a0 a1 G) := by
  refine ct_of (plainFor_of_name (by decide)) hi (Nat.le_refl _) (Nat.le_refl _) (Nat.le_of_ble_eq_true rfl) (fun cx F hd hn0 hnE hl hQ => ?_)
  subst hl
  have F : Fx cx x RX2 cX2_hostsOf 5 (some .int) := F
  show Y cx x 5 (some .int) 129 0 [(0, vR a0), (1, vI a1)] [] G _
  unfold fX2_hostsOf
  refine x_iconst F dX2_hostsOf_0 ⟨by decide, by decide⟩ rfl ?_
  refine x_istore_n F dX2_hostsOf_1 rfl (by decide) rfl rfl (fun v1 => ?_)
  show Y cx x _ _ _ _ [(0, vR a0), (1, vI a1), (2, vI v1)] _ _ _
  refine x_iconst F dX2_hostsOf_2 ⟨by decide, by decide⟩ rfl ?_
  refine x_istore_n F dX2_hostsOf_3 rfl (by decide) rfl rfl (fun v2 => ?_)
  show Y cx x _ _ _ _ [(0, vR a0), (1, vI a1), (2, vI v1), (3, vI v2)] _ _ _
  refine x_lp (fun (rc5 : Int → Int → RT) => ∀ (v3 : Int) (v4 : Int), Y cx x 5 (some .int) 129 4 [(0, vR a0), (1, vI a1), (2, vI v3), (3, vI v4)] [] G (rc5 v3 v4)) (fun _ _ => Y_none) (fun rc5 hrc5 v3 v4 => ?_) 5000 v1 v2
  refine x_iload_n F dX2_hostsOf_4 rfl rfl rfl ?_
  refine x_bipush F dX2_hostsOf_5 ⟨by decide, by decide⟩ (by decide) rfl ?_
  refine x_icmpge (pt := 51) F dX2_hostsOf_7 rfl rfl ?_ ?_
  · refine x_iconst F dX2_hostsOf_10 ⟨by decide, by decide⟩ rfl ?_
    refine x_istore F dX2_hostsOf_11 (by decide) rfl rfl (fun v6 => ?_)
    show Y cx x _ _ _ _ [(0, vR a0), (1, vI a1), (2, vI v3), (3, vI v4), (4, vI v6)] _ _ _
    refine x_lp (fun (rc9 : Int → Int → RT) => ∀ (v7 : Int) (v8 : Int), Y cx x 5 (some .int) 129 13 [(0, vR a0), (1, vI a1), (2, vI v7), (3, vI v4), (4, vI v8)] [] G (rc9 v7 v8)) (fun _ _ => Y_none) (fun rc9 hrc9 v7 v8 => ?_) 5000 v3 v6
    refine x_iload F dX2_hostsOf_13 rfl rfl ?_
    refine x_iconst F dX2_hostsOf_15 ⟨by decide, by decide⟩ rfl ?_
    refine x_icmpge (pt := 45) F dX2_hostsOf_16 rfl rfl ?_ ?_
    · refine x_aload_n F dX2_hostsOf_19 rfl rfl rfl ?_
      refine x_getR F flX2_15 ha0 rfl dX2_hostsOf_20 rfl ?_
      refine x_iload_n F dX2_hostsOf_23 rfl rfl rfl ?_
      refine x_iload F dX2_hostsOf_24 rfl rfl ?_
      refine s_callVP F [vI v4, vI v8] [] lkX2_120 mX6_listAt rfl (tf2_1 ha0).1 rfl hnE hn0 hd pX6_listAt (tX6_listAt cx.l x hi G ((rf a0 1)) v4 v8 (tf2_1 ha0).1) rfl rfl dX2_hostsOf_26 rfl rfl (fun v11 => ?_)
      refine x_iload_n F dX2_hostsOf_29 rfl rfl rfl ?_
      refine x_jn (fun (K13 : Int → RT) => ∀ (v12 : Int), Y cx x 5 (some .int) 129 39 [(0, vR a0), (1, vI a1), (2, vI v12), (3, vI v4), (4, vI v8)] [] G (K13 v12)) ?_ (fun K13 hK13 => ?_)
      · intro v12
        refine x_iinc F dX2_hostsOf_39 rfl (by decide) rfl rfl (fun v14 => ?_)
        show Y cx x _ _ _ _ [(0, vR a0), (1, vI a1), (2, vI v12), (3, vI v4), (4, vI v14)] _ _ _
        refine x_goto (pc' := 13) F dX2_hostsOf_42 rfl ?_
        exact hrc9 v12 v14
      · refine x_icmpne (pt := 39) F dX2_hostsOf_30 rfl rfl ?_ ?_
        · refine x_iload_n F dX2_hostsOf_33 rfl rfl rfl ?_
          refine x_iconst F dX2_hostsOf_34 ⟨by decide, by decide⟩ rfl ?_
          refine x_iload_n F dX2_hostsOf_35 rfl rfl rfl ?_
          refine x_ishl F dX2_hostsOf_36 rfl ?_
          refine x_ior F dX2_hostsOf_37 rfl ?_
          refine x_istore_n F dX2_hostsOf_38 rfl (by decide) rfl rfl (fun v15 => ?_)
          show Y cx x _ _ _ _ [(0, vR a0), (1, vI a1), (2, vI v15), (3, vI v4), (4, vI v8)] _ _ _
          exact hK13 v15
        · exact hK13 v7
    · refine x_iinc F dX2_hostsOf_45 rfl (by decide) rfl rfl (fun v10 => ?_)
      show Y cx x _ _ _ _ [(0, vR a0), (1, vI a1), (2, vI v7), (3, vI v10), (4, vI v8)] _ _ _
      refine x_goto (pc' := 4) F dX2_hostsOf_48 rfl ?_
      refine x_dp (L' := [(0, vR a0), (1, vI a1), (2, vI v7), (3, vI v10)]) [0, 1, 2, 3] rfl ?_
      exact hrc5 v7 v10
  · refine x_iload_n F dX2_hostsOf_51 rfl rfl rfl ?_
    exact x_iret F hnE hQ dX2_hostsOf_52
theorem dX2_knownBy_0 : decode cX2_knownBy 0 = .ok (.aload_n 0, 1) := by decide +kernel
theorem dX2_knownBy_1 : decode cX2_knownBy 1 = .ok (.getfield 15, 3) := by decide +kernel
theorem dX2_knownBy_4 : decode cX2_knownBy 4 = .ok (.iload_n 1, 1) := by decide +kernel
theorem dX2_knownBy_5 : decode cX2_knownBy 5 = .ok (.invokevirtual 97, 3) := by decide +kernel
theorem dX2_knownBy_8 : decode cX2_knownBy 8 = .ok (.invokestatic 123, 3) := by decide +kernel
theorem dX2_knownBy_11 : decode cX2_knownBy 11 = .ok (.istore_n 2, 1) := by decide +kernel
theorem dX2_knownBy_12 : decode cX2_knownBy 12 = .ok (.iconst 0, 1) := by decide +kernel
theorem dX2_knownBy_13 : decode cX2_knownBy 13 = .ok (.istore_n 3, 1) := by decide +kernel
theorem dX2_knownBy_14 : decode cX2_knownBy 14 = .ok (.iload_n 3, 1) := by decide +kernel
theorem dX2_knownBy_15 : decode cX2_knownBy 15 = .ok (.iconst 4, 1) := by decide +kernel
theorem dX2_knownBy_16 : decode cX2_knownBy 16 = .ok (.if_icmp .ge 24, 3) := by decide +kernel
theorem dX2_knownBy_19 : decode cX2_knownBy 19 = .ok (.iload_n 2, 1) := by decide +kernel
theorem dX2_knownBy_20 : decode cX2_knownBy 20 = .ok (.aload_n 0, 1) := by decide +kernel
theorem dX2_knownBy_21 : decode cX2_knownBy 21 = .ok (.getfield 15, 3) := by decide +kernel
theorem dX2_knownBy_24 : decode cX2_knownBy 24 = .ok (.iload_n 1, 1) := by decide +kernel
theorem dX2_knownBy_25 : decode cX2_knownBy 25 = .ok (.iload_n 3, 1) := by decide +kernel
theorem dX2_knownBy_26 : decode cX2_knownBy 26 = .ok (.invokevirtual 120, 3) := by decide +kernel
theorem dX2_knownBy_29 : decode cX2_knownBy 29 = .ok (.invokestatic 123, 3) := by decide +kernel
theorem dX2_knownBy_32 : decode cX2_knownBy 32 = .ok (.ior, 1) := by decide +kernel
theorem dX2_knownBy_33 : decode cX2_knownBy 33 = .ok (.istore_n 2, 1) := by decide +kernel
theorem dX2_knownBy_34 : decode cX2_knownBy 34 = .ok (.iinc 3 1, 3) := by decide +kernel
theorem dX2_knownBy_37 : decode cX2_knownBy 37 = .ok (.goto (-23), 3) := by decide +kernel
theorem dX2_knownBy_40 : decode cX2_knownBy 40 = .ok (.iconst 0, 1) := by decide +kernel
theorem dX2_knownBy_41 : decode cX2_knownBy 41 = .ok (.istore_n 3, 1) := by decide +kernel
theorem dX2_knownBy_42 : decode cX2_knownBy 42 = .ok (.iload_n 3, 1) := by decide +kernel
theorem dX2_knownBy_43 : decode cX2_knownBy 43 = .ok (.bipush 8, 2) := by decide +kernel
theorem dX2_knownBy_45 : decode cX2_knownBy 45 = .ok (.if_icmp .ge 24, 3) := by decide +kernel
theorem dX2_knownBy_48 : decode cX2_knownBy 48 = .ok (.iload_n 2, 1) := by decide +kernel
theorem dX2_knownBy_49 : decode cX2_knownBy 49 = .ok (.aload_n 0, 1) := by decide +kernel
theorem dX2_knownBy_50 : decode cX2_knownBy 50 = .ok (.getfield 15, 3) := by decide +kernel
theorem dX2_knownBy_53 : decode cX2_knownBy 53 = .ok (.iload_n 1, 1) := by decide +kernel
theorem dX2_knownBy_54 : decode cX2_knownBy 54 = .ok (.iload_n 3, 1) := by decide +kernel
theorem dX2_knownBy_55 : decode cX2_knownBy 55 = .ok (.invokevirtual 106, 3) := by decide +kernel
theorem dX2_knownBy_58 : decode cX2_knownBy 58 = .ok (.invokestatic 123, 3) := by decide +kernel
theorem dX2_knownBy_61 : decode cX2_knownBy 61 = .ok (.ior, 1) := by decide +kernel
theorem dX2_knownBy_62 : decode cX2_knownBy 62 = .ok (.istore_n 2, 1) := by decide +kernel
theorem dX2_knownBy_63 : decode cX2_knownBy 63 = .ok (.iinc 3 1, 3) := by decide +kernel
theorem dX2_knownBy_66 : decode cX2_knownBy 66 = .ok (.goto (-24), 3) := by decide +kernel
theorem dX2_knownBy_69 : decode cX2_knownBy 69 = .ok (.iload_n 2, 1) := by decide +kernel
theorem dX2_knownBy_70 : decode cX2_knownBy 70 = .ok (.aload_n 0, 1) := by decide +kernel
theorem dX2_knownBy_71 : decode cX2_knownBy 71 = .ok (.getfield 15, 3) := by decide +kernel
theorem dX2_knownBy_74 : decode cX2_knownBy 74 = .ok (.getfield 50, 3) := by decide +kernel
theorem dX2_knownBy_77 : decode cX2_knownBy 77 = .ok (.iand, 1) := by decide +kernel
theorem dX2_knownBy_78 : decode cX2_knownBy 78 = .ok (.ireturn, 1) := by decide +kernel
def fX2_knownBy (a0 : Nat) (a1 : Int) (G : Hp) : RT := bp (fX6_aheadOf ((rf a0 1)) a1 G) fun v1 => bp (fX2_bitOf v1 G) fun v2 => bd v2 fun v3 => bd 0 fun v4 => (lp (fun (_ : Int) (_ : Int) => (none : RT)) 5000 (fun (rc7 : Int → Int → RT) (v5 : Int) (v6 : Int) => if v6 < 4 then (bp (fX6_listAt ((rf a0 1)) a1 v6 G) fun v16 => bp (fX2_bitOf v16 G) fun v17 => bd (ior v5 v17) fun v18 => bd (iadd v6 1) fun v19 => rc7 v18 v19) else (bd 0 fun v8 => (lp (fun (_ : Int) (_ : Int) => (none : RT)) 5000 (fun (rc11 : Int → Int → RT) (v9 : Int) (v10 : Int) => if v10 < 8 then (bp (fX6_fingerAt ((rf a0 1)) a1 v10 G) fun v12 => bp (fX2_bitOf v12 G) fun v13 => bd (ior v9 v13) fun v14 => bd (iadd v10 1) fun v15 => rc11 v14 v15) else (rt (iand v9 (G ((rf a0 1)) 1)) G))) v5 v8))) v3 v4
theorem pX2_knownBy {G : Hp} {a0 : Nat} {a1 : Int} : PU G (fX2_knownBy a0 a1 G) := by
  unfold fX2_knownBy
  refine PU_bp (fun v1 => ?_)
  refine PU_bp (fun v2 => ?_)
  refine PU_bd (fun v3 => ?_)
  refine PU_bd (fun v4 => ?_)
  refine x_lp (fun (rc7 : Int → Int → RT) => ∀ (v5 : Int) (v6 : Int), PU G (rc7 v5 v6)) (fun _ _ => PU_none) (fun rc7 phrc7 v5 v6 => ?_) 5000 v3 v4
  refine PU_ite ?_ ?_
  · refine PU_bp (fun v16 => ?_)
    refine PU_bp (fun v17 => ?_)
    refine PU_bd (fun v18 => ?_)
    refine PU_bd (fun v19 => ?_)
    exact phrc7 v18 v19
  · refine PU_bd (fun v8 => ?_)
    refine x_lp (fun (rc11 : Int → Int → RT) => ∀ (v9 : Int) (v10 : Int), PU G (rc11 v9 v10)) (fun _ _ => PU_none) (fun rc11 phrc11 v9 v10 => ?_) 5000 v5 v8
    refine PU_ite ?_ ?_
    · refine PU_bp (fun v12 => ?_)
      refine PU_bp (fun v13 => ?_)
      refine PU_bd (fun v14 => ?_)
      refine PU_bd (fun v15 => ?_)
      exact phrc11 v14 v15
    · exact PU_rt
set_option maxRecDepth 20000 in
set_option maxHeartbeats 4000000 in
theorem tX2_knownBy (l : Launch) (x : WX) (hi : Inj x.2.2) (G : Hp) (a0 : Nat) (a1 : Int) (ha0 : kd a0 = 2) : Ct l x yX2_knownBy cX2_knownBy 4 (some .int) 1 129 129 [vR a0, vI a1] G (fX2_knownBy a0 a1 G) := by
  refine ct_of (plainFor_of_name (by decide)) hi (Nat.le_refl _) (Nat.le_refl _) (Nat.le_of_ble_eq_true rfl) (fun cx F hd hn0 hnE hl hQ => ?_)
  subst hl
  have F : Fx cx x RX2 cX2_knownBy 4 (some .int) := F
  show Y cx x 4 (some .int) 129 0 [(0, vR a0), (1, vI a1)] [] G _
  unfold fX2_knownBy
  refine x_aload_n F dX2_knownBy_0 rfl rfl rfl ?_
  refine x_getR F flX2_15 ha0 rfl dX2_knownBy_1 rfl ?_
  refine x_iload_n F dX2_knownBy_4 rfl rfl rfl ?_
  refine s_callVP F [vI a1] [] lkX2_97 mX6_aheadOf rfl (tf2_1 ha0).1 rfl hnE hn0 hd pX6_aheadOf (tX6_aheadOf cx.l x hi G ((rf a0 1)) a1 (tf2_1 ha0).1) rfl rfl dX2_knownBy_5 rfl rfl (fun v1 => ?_)
  refine s_callSP F [vI v1] [] lkX2_123 mX2_bitOf hnE hn0 hd pX2_bitOf (tX2_bitOf cx.l x hi G v1) rfl rfl dX2_knownBy_8 rfl rfl (fun v2 => ?_)
  refine x_istore_n F dX2_knownBy_11 rfl (by decide) rfl rfl (fun v3 => ?_)
  show Y cx x _ _ _ _ [(0, vR a0), (1, vI a1), (2, vI v3)] _ _ _
  refine x_iconst F dX2_knownBy_12 ⟨by decide, by decide⟩ rfl ?_
  refine x_istore_n F dX2_knownBy_13 rfl (by decide) rfl rfl (fun v4 => ?_)
  show Y cx x _ _ _ _ [(0, vR a0), (1, vI a1), (2, vI v3), (3, vI v4)] _ _ _
  refine x_lp (fun (rc7 : Int → Int → RT) => ∀ (v5 : Int) (v6 : Int), Y cx x 4 (some .int) 129 14 [(0, vR a0), (1, vI a1), (2, vI v5), (3, vI v6)] [] G (rc7 v5 v6)) (fun _ _ => Y_none) (fun rc7 hrc7 v5 v6 => ?_) 5000 v3 v4
  refine x_iload_n F dX2_knownBy_14 rfl rfl rfl ?_
  refine x_iconst F dX2_knownBy_15 ⟨by decide, by decide⟩ rfl ?_
  refine x_icmpge (pt := 40) F dX2_knownBy_16 rfl rfl ?_ ?_
  · refine x_iload_n F dX2_knownBy_19 rfl rfl rfl ?_
    refine x_aload_n F dX2_knownBy_20 rfl rfl rfl ?_
    refine x_getR F flX2_15 ha0 rfl dX2_knownBy_21 rfl ?_
    refine x_iload_n F dX2_knownBy_24 rfl rfl rfl ?_
    refine x_iload_n F dX2_knownBy_25 rfl rfl rfl ?_
    refine s_callVP F [vI a1, vI v6] [vI v5] lkX2_120 mX6_listAt rfl (tf2_1 ha0).1 rfl hnE hn0 hd pX6_listAt (tX6_listAt cx.l x hi G ((rf a0 1)) a1 v6 (tf2_1 ha0).1) rfl rfl dX2_knownBy_26 rfl rfl (fun v16 => ?_)
    refine s_callSP F [vI v16] [vI v5] lkX2_123 mX2_bitOf hnE hn0 hd pX2_bitOf (tX2_bitOf cx.l x hi G v16) rfl rfl dX2_knownBy_29 rfl rfl (fun v17 => ?_)
    refine x_ior F dX2_knownBy_32 rfl ?_
    refine x_istore_n F dX2_knownBy_33 rfl (by decide) rfl rfl (fun v18 => ?_)
    show Y cx x _ _ _ _ [(0, vR a0), (1, vI a1), (2, vI v18), (3, vI v6)] _ _ _
    refine x_iinc F dX2_knownBy_34 rfl (by decide) rfl rfl (fun v19 => ?_)
    show Y cx x _ _ _ _ [(0, vR a0), (1, vI a1), (2, vI v18), (3, vI v19)] _ _ _
    refine x_goto (pc' := 14) F dX2_knownBy_37 rfl ?_
    exact hrc7 v18 v19
  · refine x_iconst F dX2_knownBy_40 ⟨by decide, by decide⟩ rfl ?_
    refine x_istore_n F dX2_knownBy_41 rfl (by decide) rfl rfl (fun v8 => ?_)
    show Y cx x _ _ _ _ [(0, vR a0), (1, vI a1), (2, vI v5), (3, vI v8)] _ _ _
    refine x_lp (fun (rc11 : Int → Int → RT) => ∀ (v9 : Int) (v10 : Int), Y cx x 4 (some .int) 129 42 [(0, vR a0), (1, vI a1), (2, vI v9), (3, vI v10)] [] G (rc11 v9 v10)) (fun _ _ => Y_none) (fun rc11 hrc11 v9 v10 => ?_) 5000 v5 v8
    refine x_iload_n F dX2_knownBy_42 rfl rfl rfl ?_
    refine x_bipush F dX2_knownBy_43 ⟨by decide, by decide⟩ (by decide) rfl ?_
    refine x_icmpge (pt := 69) F dX2_knownBy_45 rfl rfl ?_ ?_
    · refine x_iload_n F dX2_knownBy_48 rfl rfl rfl ?_
      refine x_aload_n F dX2_knownBy_49 rfl rfl rfl ?_
      refine x_getR F flX2_15 ha0 rfl dX2_knownBy_50 rfl ?_
      refine x_iload_n F dX2_knownBy_53 rfl rfl rfl ?_
      refine x_iload_n F dX2_knownBy_54 rfl rfl rfl ?_
      refine s_callVP F [vI a1, vI v10] [vI v9] lkX2_106 mX6_fingerAt rfl (tf2_1 ha0).1 rfl hnE hn0 hd pX6_fingerAt (tX6_fingerAt cx.l x hi G ((rf a0 1)) a1 v10 (tf2_1 ha0).1) rfl rfl dX2_knownBy_55 rfl rfl (fun v12 => ?_)
      refine s_callSP F [vI v12] [vI v9] lkX2_123 mX2_bitOf hnE hn0 hd pX2_bitOf (tX2_bitOf cx.l x hi G v12) rfl rfl dX2_knownBy_58 rfl rfl (fun v13 => ?_)
      refine x_ior F dX2_knownBy_61 rfl ?_
      refine x_istore_n F dX2_knownBy_62 rfl (by decide) rfl rfl (fun v14 => ?_)
      show Y cx x _ _ _ _ [(0, vR a0), (1, vI a1), (2, vI v14), (3, vI v10)] _ _ _
      refine x_iinc F dX2_knownBy_63 rfl (by decide) rfl rfl (fun v15 => ?_)
      show Y cx x _ _ _ _ [(0, vR a0), (1, vI a1), (2, vI v14), (3, vI v15)] _ _ _
      refine x_goto (pc' := 42) F dX2_knownBy_66 rfl ?_
      exact hrc11 v14 v15
    · refine x_iload_n F dX2_knownBy_69 rfl rfl rfl ?_
      refine x_aload_n F dX2_knownBy_70 rfl rfl rfl ?_
      refine x_getR F flX2_15 ha0 rfl dX2_knownBy_71 rfl ?_
      refine s_getI F flX2_50 (tf2_1 ha0).1 rfl dX2_knownBy_74 rfl ?_
      refine x_iand F dX2_knownBy_77 rfl ?_
      exact x_iret F hnE hQ dX2_knownBy_78
theorem dX2_astrayKeys_0 : decode cX2_astrayKeys 0 = .ok (.iconst 0, 1) := by decide +kernel
theorem dX2_astrayKeys_1 : decode cX2_astrayKeys 1 = .ok (.istore_n 1, 1) := by decide +kernel
theorem dX2_astrayKeys_2 : decode cX2_astrayKeys 2 = .ok (.iconst 0, 1) := by decide +kernel
theorem dX2_astrayKeys_3 : decode cX2_astrayKeys 3 = .ok (.istore_n 2, 1) := by decide +kernel
theorem dX2_astrayKeys_4 : decode cX2_astrayKeys 4 = .ok (.iload_n 2, 1) := by decide +kernel
theorem dX2_astrayKeys_5 : decode cX2_astrayKeys 5 = .ok (.aload_n 0, 1) := by decide +kernel
theorem dX2_astrayKeys_6 : decode cX2_astrayKeys 6 = .ok (.getfield 9, 3) := by decide +kernel
theorem dX2_astrayKeys_9 : decode cX2_astrayKeys 9 = .ok (.getfield 37, 3) := by decide +kernel
theorem dX2_astrayKeys_12 : decode cX2_astrayKeys 12 = .ok (.if_icmp .ge 53, 3) := by decide +kernel
theorem dX2_astrayKeys_15 : decode cX2_astrayKeys 15 = .ok (.aload_n 0, 1) := by decide +kernel
theorem dX2_astrayKeys_16 : decode cX2_astrayKeys 16 = .ok (.getfield 15, 3) := by decide +kernel
theorem dX2_astrayKeys_19 : decode cX2_astrayKeys 19 = .ok (.iload_n 2, 1) := by decide +kernel
theorem dX2_astrayKeys_20 : decode cX2_astrayKeys 20 = .ok (.invokevirtual 41, 3) := by decide +kernel
theorem dX2_astrayKeys_23 : decode cX2_astrayKeys 23 = .ok (.istore_n 3, 1) := by decide +kernel
theorem dX2_astrayKeys_24 : decode cX2_astrayKeys 24 = .ok (.iload_n 3, 1) := by decide +kernel
theorem dX2_astrayKeys_25 : decode cX2_astrayKeys 25 = .ok (.iconst (-1), 1) := by decide +kernel
theorem dX2_astrayKeys_26 : decode cX2_astrayKeys 26 = .ok (.if_icmp .eq 33, 3) := by decide +kernel
theorem dX2_astrayKeys_29 : decode cX2_astrayKeys 29 = .ok (.iload_n 3, 1) := by decide +kernel
theorem dX2_astrayKeys_30 : decode cX2_astrayKeys 30 = .ok (.aload_n 0, 1) := by decide +kernel
theorem dX2_astrayKeys_31 : decode cX2_astrayKeys 31 = .ok (.aload_n 0, 1) := by decide +kernel
theorem dX2_astrayKeys_32 : decode cX2_astrayKeys 32 = .ok (.getfield 9, 3) := by decide +kernel
theorem dX2_astrayKeys_35 : decode cX2_astrayKeys 35 = .ok (.getfield 47, 3) := by decide +kernel
theorem dX2_astrayKeys_38 : decode cX2_astrayKeys 38 = .ok (.iload_n 2, 1) := by decide +kernel
theorem dX2_astrayKeys_39 : decode cX2_astrayKeys 39 = .ok (.iaload, 1) := by decide +kernel
theorem dX2_astrayKeys_40 : decode cX2_astrayKeys 40 = .ok (.aload_n 0, 1) := by decide +kernel
theorem dX2_astrayKeys_41 : decode cX2_astrayKeys 41 = .ok (.getfield 15, 3) := by decide +kernel
theorem dX2_astrayKeys_44 : decode cX2_astrayKeys 44 = .ok (.getfield 50, 3) := by decide +kernel
theorem dX2_astrayKeys_47 : decode cX2_astrayKeys 47 = .ok (.invokevirtual 53, 3) := by decide +kernel
theorem dX2_astrayKeys_50 : decode cX2_astrayKeys 50 = .ok (.if_icmp .eq 9, 3) := by decide +kernel
theorem dX2_astrayKeys_53 : decode cX2_astrayKeys 53 = .ok (.iload_n 1, 1) := by decide +kernel
theorem dX2_astrayKeys_54 : decode cX2_astrayKeys 54 = .ok (.iconst 1, 1) := by decide +kernel
theorem dX2_astrayKeys_55 : decode cX2_astrayKeys 55 = .ok (.iload_n 2, 1) := by decide +kernel
theorem dX2_astrayKeys_56 : decode cX2_astrayKeys 56 = .ok (.ishl, 1) := by decide +kernel
theorem dX2_astrayKeys_57 : decode cX2_astrayKeys 57 = .ok (.ior, 1) := by decide +kernel
theorem dX2_astrayKeys_58 : decode cX2_astrayKeys 58 = .ok (.istore_n 1, 1) := by decide +kernel
theorem dX2_astrayKeys_59 : decode cX2_astrayKeys 59 = .ok (.iinc 2 1, 3) := by decide +kernel
theorem dX2_astrayKeys_62 : decode cX2_astrayKeys 62 = .ok (.goto (-58), 3) := by decide +kernel
theorem dX2_astrayKeys_65 : decode cX2_astrayKeys 65 = .ok (.iload_n 1, 1) := by decide +kernel
theorem dX2_astrayKeys_66 : decode cX2_astrayKeys 66 = .ok (.ireturn, 1) := by decide +kernel
def fX2_astrayKeys (a0 : Nat) (G : Hp) : RT := bd 0 fun v1 => bd 0 fun v2 => (lp (fun (_ : Int) (_ : Int) => (none : RT)) 5000 (fun (rc5 : Int → Int → RT) (v3 : Int) (v4 : Int) => if v4 < (G ((rf a0 0)) 3) then (bp (fX6_holderOf ((rf a0 1)) v4 G) fun v6 => bd v6 fun v7 => jn (fun (v8 : Int) => bd (iadd v4 1) fun v10 => rc5 v8 v10) fun (K9 : Int → RT) => if v7 = ((-1)) then K9 v3 else (br (rd G ((rf ((rf a0 0)) 8)) 10 v4) fun v11 => bp (fX2_ownerOf a0 v11 (G ((rf a0 1)) 1) G) fun v12 => if v7 = v12 then K9 v3 else (bd (ior v3 (ishl 1 v4)) fun v13 => K9 v13))) else rt v3 G)) v1 v2
theorem pX2_astrayKeys {G : Hp} {a0 : Nat} : PU G (fX2_astrayKeys a0 G) := by
  unfold fX2_astrayKeys
  refine PU_bd (fun v1 => ?_)
  refine PU_bd (fun v2 => ?_)
  refine x_lp (fun (rc5 : Int → Int → RT) => ∀ (v3 : Int) (v4 : Int), PU G (rc5 v3 v4)) (fun _ _ => PU_none) (fun rc5 phrc5 v3 v4 => ?_) 5000 v1 v2
  refine PU_ite ?_ ?_
  · refine PU_bp (fun v6 => ?_)
    refine PU_bd (fun v7 => ?_)
    refine PU_jn (fun (K9 : Int → RT) => ∀ (v8 : Int), PU G (K9 v8)) ?_ (fun K9 phK9 => ?_)
    · intro v8
      refine PU_bd (fun v10 => ?_)
      exact phrc5 v8 v10
    · refine PU_ite ?_ ?_
      · exact phK9 v3
      · refine PU_br (fun v11 => ?_)
        refine PU_bp (fun v12 => ?_)
        refine PU_ite ?_ ?_
        · exact phK9 v3
        · refine PU_bd (fun v13 => ?_)
          exact phK9 v13
  · exact PU_rt
set_option maxRecDepth 20000 in
set_option maxHeartbeats 4000000 in
theorem tX2_astrayKeys (l : Launch) (x : WX) (hi : Inj x.2.2) (G : Hp) (a0 : Nat) (ha0 : kd a0 = 2) : Ct l x yX2_astrayKeys cX2_astrayKeys 4 (some .int) 2 129 129 [vR a0] G (fX2_astrayKeys a0 G) := by
  refine ct_of (plainFor_of_name (by decide)) hi (Nat.le_refl _) (Nat.le_refl _) (Nat.le_of_ble_eq_true rfl) (fun cx F hd hn0 hnE hl hQ => ?_)
  subst hl
  have F : Fx cx x RX2 cX2_astrayKeys 4 (some .int) := F
  show Y cx x 4 (some .int) 129 0 [(0, vR a0)] [] G _
  unfold fX2_astrayKeys
  refine x_iconst F dX2_astrayKeys_0 ⟨by decide, by decide⟩ rfl ?_
  refine x_istore_n F dX2_astrayKeys_1 rfl (by decide) rfl rfl (fun v1 => ?_)
  show Y cx x _ _ _ _ [(0, vR a0), (1, vI v1)] _ _ _
  refine x_iconst F dX2_astrayKeys_2 ⟨by decide, by decide⟩ rfl ?_
  refine x_istore_n F dX2_astrayKeys_3 rfl (by decide) rfl rfl (fun v2 => ?_)
  show Y cx x _ _ _ _ [(0, vR a0), (1, vI v1), (2, vI v2)] _ _ _
  refine x_lp (fun (rc5 : Int → Int → RT) => ∀ (v3 : Int) (v4 : Int), Y cx x 4 (some .int) 129 4 [(0, vR a0), (1, vI v3), (2, vI v4)] [] G (rc5 v3 v4)) (fun _ _ => Y_none) (fun rc5 hrc5 v3 v4 => ?_) 5000 v1 v2
  refine x_iload_n F dX2_astrayKeys_4 rfl rfl rfl ?_
  refine x_aload_n F dX2_astrayKeys_5 rfl rfl rfl ?_
  refine x_getR F flX2_9 ha0 rfl dX2_astrayKeys_6 rfl ?_
  refine s_getI F flX2_37 (tf2_0 ha0).1 rfl dX2_astrayKeys_9 rfl ?_
  refine x_icmpge (pt := 65) F dX2_astrayKeys_12 rfl rfl ?_ ?_
  · refine x_aload_n F dX2_astrayKeys_15 rfl rfl rfl ?_
    refine x_getR F flX2_15 ha0 rfl dX2_astrayKeys_16 rfl ?_
    refine x_iload_n F dX2_astrayKeys_19 rfl rfl rfl ?_
    refine s_callVP F [vI v4] [] lkX2_41 mX6_holderOf rfl (tf2_1 ha0).1 rfl hnE hn0 hd pX6_holderOf (tX6_holderOf cx.l x hi G ((rf a0 1)) v4 (tf2_1 ha0).1) rfl rfl dX2_astrayKeys_20 rfl rfl (fun v6 => ?_)
    refine x_istore_n F dX2_astrayKeys_23 rfl (by decide) rfl rfl (fun v7 => ?_)
    show Y cx x _ _ _ _ [(0, vR a0), (1, vI v3), (2, vI v4), (3, vI v7)] _ _ _
    refine x_iload_n F dX2_astrayKeys_24 rfl rfl rfl ?_
    refine x_iconst F dX2_astrayKeys_25 ⟨by decide, by decide⟩ rfl ?_
    refine x_jn (fun (K9 : Int → RT) => ∀ (v8 : Int), Y cx x 4 (some .int) 129 59 [(0, vR a0), (1, vI v8), (2, vI v4)] [] G (K9 v8)) ?_ (fun K9 hK9 => ?_)
    · intro v8
      refine x_iinc F dX2_astrayKeys_59 rfl (by decide) rfl rfl (fun v10 => ?_)
      show Y cx x _ _ _ _ [(0, vR a0), (1, vI v8), (2, vI v10)] _ _ _
      refine x_goto (pc' := 4) F dX2_astrayKeys_62 rfl ?_
      exact hrc5 v8 v10
    · refine x_icmpeq (pt := 59) F dX2_astrayKeys_26 rfl rfl ?_ ?_
      · refine x_dp (L' := [(0, vR a0), (1, vI v3), (2, vI v4)]) [0, 1, 2] rfl ?_
        exact hK9 v3
      · refine x_iload_n F dX2_astrayKeys_29 rfl rfl rfl ?_
        refine x_aload_n F dX2_astrayKeys_30 rfl rfl rfl ?_
        refine x_aload_n F dX2_astrayKeys_31 rfl rfl rfl ?_
        refine x_getR F flX2_9 ha0 rfl dX2_astrayKeys_32 rfl ?_
        refine x_getR F flX2_47 (tf2_0 ha0).1 rfl dX2_astrayKeys_35 rfl ?_
        refine x_iload_n F dX2_astrayKeys_38 rfl rfl rfl ?_
        refine s_iald F (tf8_8 (tf2_0 ha0).1).1 (tf8_8 (tf2_0 ha0).1).2 dX2_astrayKeys_39 rfl (fun v11 => ?_)
        refine x_aload_n F dX2_astrayKeys_40 rfl rfl rfl ?_
        refine x_getR F flX2_15 ha0 rfl dX2_astrayKeys_41 rfl ?_
        refine s_getI F flX2_50 (tf2_1 ha0).1 rfl dX2_astrayKeys_44 rfl ?_
        refine s_callVP F [vI v11, vI (G ((rf a0 1)) 1)] [vI v7] lkX2_53 mX2_ownerOf rfl ha0 rfl hnE hn0 hd pX2_ownerOf (tX2_ownerOf cx.l x hi G a0 v11 (G ((rf a0 1)) 1) ha0) rfl rfl dX2_astrayKeys_47 rfl rfl (fun v12 => ?_)
        refine x_icmpeq (pt := 59) F dX2_astrayKeys_50 rfl rfl ?_ ?_
        · refine x_dp (L' := [(0, vR a0), (1, vI v3), (2, vI v4)]) [0, 1, 2] rfl ?_
          exact hK9 v3
        · refine x_iload_n F dX2_astrayKeys_53 rfl rfl rfl ?_
          refine x_iconst F dX2_astrayKeys_54 ⟨by decide, by decide⟩ rfl ?_
          refine x_iload_n F dX2_astrayKeys_55 rfl rfl rfl ?_
          refine x_ishl F dX2_astrayKeys_56 rfl ?_
          refine x_ior F dX2_astrayKeys_57 rfl ?_
          refine x_dp (L' := [(0, vR a0), (1, vI v3), (2, vI v4)]) [0, 1, 2] rfl ?_
          refine x_istore_n F dX2_astrayKeys_58 rfl (by decide) rfl rfl (fun v13 => ?_)
          show Y cx x _ _ _ _ [(0, vR a0), (1, vI v13), (2, vI v4)] _ _ _
          exact hK9 v13
  · refine x_iload_n F dX2_astrayKeys_65 rfl rfl rfl ?_
    exact x_iret F hnE hQ dX2_astrayKeys_66
theorem dX2_ownedBy_0 : decode cX2_ownedBy 0 = .ok (.iconst 0, 1) := by decide +kernel
theorem dX2_ownedBy_1 : decode cX2_ownedBy 1 = .ok (.istore_n 2, 1) := by decide +kernel
theorem dX2_ownedBy_2 : decode cX2_ownedBy 2 = .ok (.iconst 0, 1) := by decide +kernel
theorem dX2_ownedBy_3 : decode cX2_ownedBy 3 = .ok (.istore_n 3, 1) := by decide +kernel
theorem dX2_ownedBy_4 : decode cX2_ownedBy 4 = .ok (.iload_n 3, 1) := by decide +kernel
theorem dX2_ownedBy_5 : decode cX2_ownedBy 5 = .ok (.aload_n 0, 1) := by decide +kernel
theorem dX2_ownedBy_6 : decode cX2_ownedBy 6 = .ok (.getfield 9, 3) := by decide +kernel
theorem dX2_ownedBy_9 : decode cX2_ownedBy 9 = .ok (.getfield 37, 3) := by decide +kernel
theorem dX2_ownedBy_12 : decode cX2_ownedBy 12 = .ok (.if_icmp .ge 39, 3) := by decide +kernel
theorem dX2_ownedBy_15 : decode cX2_ownedBy 15 = .ok (.aload_n 0, 1) := by decide +kernel
theorem dX2_ownedBy_16 : decode cX2_ownedBy 16 = .ok (.aload_n 0, 1) := by decide +kernel
theorem dX2_ownedBy_17 : decode cX2_ownedBy 17 = .ok (.getfield 9, 3) := by decide +kernel
theorem dX2_ownedBy_20 : decode cX2_ownedBy 20 = .ok (.getfield 47, 3) := by decide +kernel
theorem dX2_ownedBy_23 : decode cX2_ownedBy 23 = .ok (.iload_n 3, 1) := by decide +kernel
theorem dX2_ownedBy_24 : decode cX2_ownedBy 24 = .ok (.iaload, 1) := by decide +kernel
theorem dX2_ownedBy_25 : decode cX2_ownedBy 25 = .ok (.aload_n 0, 1) := by decide +kernel
theorem dX2_ownedBy_26 : decode cX2_ownedBy 26 = .ok (.getfield 15, 3) := by decide +kernel
theorem dX2_ownedBy_29 : decode cX2_ownedBy 29 = .ok (.getfield 50, 3) := by decide +kernel
theorem dX2_ownedBy_32 : decode cX2_ownedBy 32 = .ok (.invokevirtual 53, 3) := by decide +kernel
theorem dX2_ownedBy_35 : decode cX2_ownedBy 35 = .ok (.iload_n 1, 1) := by decide +kernel
theorem dX2_ownedBy_36 : decode cX2_ownedBy 36 = .ok (.if_icmp .ne 9, 3) := by decide +kernel
theorem dX2_ownedBy_39 : decode cX2_ownedBy 39 = .ok (.iload_n 2, 1) := by decide +kernel
theorem dX2_ownedBy_40 : decode cX2_ownedBy 40 = .ok (.iconst 1, 1) := by decide +kernel
theorem dX2_ownedBy_41 : decode cX2_ownedBy 41 = .ok (.iload_n 3, 1) := by decide +kernel
theorem dX2_ownedBy_42 : decode cX2_ownedBy 42 = .ok (.ishl, 1) := by decide +kernel
theorem dX2_ownedBy_43 : decode cX2_ownedBy 43 = .ok (.ior, 1) := by decide +kernel
theorem dX2_ownedBy_44 : decode cX2_ownedBy 44 = .ok (.istore_n 2, 1) := by decide +kernel
theorem dX2_ownedBy_45 : decode cX2_ownedBy 45 = .ok (.iinc 3 1, 3) := by decide +kernel
theorem dX2_ownedBy_48 : decode cX2_ownedBy 48 = .ok (.goto (-44), 3) := by decide +kernel
theorem dX2_ownedBy_51 : decode cX2_ownedBy 51 = .ok (.iload_n 2, 1) := by decide +kernel
theorem dX2_ownedBy_52 : decode cX2_ownedBy 52 = .ok (.ireturn, 1) := by decide +kernel
def fX2_ownedBy (a0 : Nat) (a1 : Int) (G : Hp) : RT := bd 0 fun v1 => bd 0 fun v2 => (lp (fun (_ : Int) (_ : Int) => (none : RT)) 5000 (fun (rc5 : Int → Int → RT) (v3 : Int) (v4 : Int) => if v4 < (G ((rf a0 0)) 3) then (br (rd G ((rf ((rf a0 0)) 8)) 10 v4) fun v6 => bp (fX2_ownerOf a0 v6 (G ((rf a0 1)) 1) G) fun v7 => jn (fun (v8 : Int) => bd (iadd v4 1) fun v10 => rc5 v8 v10) fun (K9 : Int → RT) => if v7 = a1 then (bd (ior v3 (ishl 1 v4)) fun v11 => K9 v11) else K9 v3) else rt v3 G)) v1 v2
theorem pX2_ownedBy {G : Hp} {a0 : Nat} {a1 : Int} : PU G (fX2_ownedBy a0 a1 G) := by
  unfold fX2_ownedBy
  refine PU_bd (fun v1 => ?_)
  refine PU_bd (fun v2 => ?_)
  refine x_lp (fun (rc5 : Int → Int → RT) => ∀ (v3 : Int) (v4 : Int), PU G (rc5 v3 v4)) (fun _ _ => PU_none) (fun rc5 phrc5 v3 v4 => ?_) 5000 v1 v2
  refine PU_ite ?_ ?_
  · refine PU_br (fun v6 => ?_)
    refine PU_bp (fun v7 => ?_)
    refine PU_jn (fun (K9 : Int → RT) => ∀ (v8 : Int), PU G (K9 v8)) ?_ (fun K9 phK9 => ?_)
    · intro v8
      refine PU_bd (fun v10 => ?_)
      exact phrc5 v8 v10
    · refine PU_ite ?_ ?_
      · refine PU_bd (fun v11 => ?_)
        exact phK9 v11
      · exact phK9 v3
  · exact PU_rt
set_option maxRecDepth 20000 in
set_option maxHeartbeats 4000000 in
theorem tX2_ownedBy (l : Launch) (x : WX) (hi : Inj x.2.2) (G : Hp) (a0 : Nat) (a1 : Int) (ha0 : kd a0 = 2) : Ct l x yX2_ownedBy cX2_ownedBy 4 (some .int) 2 129 129 [vR a0, vI a1] G (fX2_ownedBy a0 a1 G) := by
  refine ct_of (plainFor_of_name (by decide)) hi (Nat.le_refl _) (Nat.le_refl _) (Nat.le_of_ble_eq_true rfl) (fun cx F hd hn0 hnE hl hQ => ?_)
  subst hl
  have F : Fx cx x RX2 cX2_ownedBy 4 (some .int) := F
  show Y cx x 4 (some .int) 129 0 [(0, vR a0), (1, vI a1)] [] G _
  unfold fX2_ownedBy
  refine x_iconst F dX2_ownedBy_0 ⟨by decide, by decide⟩ rfl ?_
  refine x_istore_n F dX2_ownedBy_1 rfl (by decide) rfl rfl (fun v1 => ?_)
  show Y cx x _ _ _ _ [(0, vR a0), (1, vI a1), (2, vI v1)] _ _ _
  refine x_iconst F dX2_ownedBy_2 ⟨by decide, by decide⟩ rfl ?_
  refine x_istore_n F dX2_ownedBy_3 rfl (by decide) rfl rfl (fun v2 => ?_)
  show Y cx x _ _ _ _ [(0, vR a0), (1, vI a1), (2, vI v1), (3, vI v2)] _ _ _
  refine x_lp (fun (rc5 : Int → Int → RT) => ∀ (v3 : Int) (v4 : Int), Y cx x 4 (some .int) 129 4 [(0, vR a0), (1, vI a1), (2, vI v3), (3, vI v4)] [] G (rc5 v3 v4)) (fun _ _ => Y_none) (fun rc5 hrc5 v3 v4 => ?_) 5000 v1 v2
  refine x_iload_n F dX2_ownedBy_4 rfl rfl rfl ?_
  refine x_aload_n F dX2_ownedBy_5 rfl rfl rfl ?_
  refine x_getR F flX2_9 ha0 rfl dX2_ownedBy_6 rfl ?_
  refine s_getI F flX2_37 (tf2_0 ha0).1 rfl dX2_ownedBy_9 rfl ?_
  refine x_icmpge (pt := 51) F dX2_ownedBy_12 rfl rfl ?_ ?_
  · refine x_aload_n F dX2_ownedBy_15 rfl rfl rfl ?_
    refine x_aload_n F dX2_ownedBy_16 rfl rfl rfl ?_
    refine x_getR F flX2_9 ha0 rfl dX2_ownedBy_17 rfl ?_
    refine x_getR F flX2_47 (tf2_0 ha0).1 rfl dX2_ownedBy_20 rfl ?_
    refine x_iload_n F dX2_ownedBy_23 rfl rfl rfl ?_
    refine s_iald F (tf8_8 (tf2_0 ha0).1).1 (tf8_8 (tf2_0 ha0).1).2 dX2_ownedBy_24 rfl (fun v6 => ?_)
    refine x_aload_n F dX2_ownedBy_25 rfl rfl rfl ?_
    refine x_getR F flX2_15 ha0 rfl dX2_ownedBy_26 rfl ?_
    refine s_getI F flX2_50 (tf2_1 ha0).1 rfl dX2_ownedBy_29 rfl ?_
    refine s_callVP F [vI v6, vI (G ((rf a0 1)) 1)] [] lkX2_53 mX2_ownerOf rfl ha0 rfl hnE hn0 hd pX2_ownerOf (tX2_ownerOf cx.l x hi G a0 v6 (G ((rf a0 1)) 1) ha0) rfl rfl dX2_ownedBy_32 rfl rfl (fun v7 => ?_)
    refine x_iload_n F dX2_ownedBy_35 rfl rfl rfl ?_
    refine x_jn (fun (K9 : Int → RT) => ∀ (v8 : Int), Y cx x 4 (some .int) 129 45 [(0, vR a0), (1, vI a1), (2, vI v8), (3, vI v4)] [] G (K9 v8)) ?_ (fun K9 hK9 => ?_)
    · intro v8
      refine x_iinc F dX2_ownedBy_45 rfl (by decide) rfl rfl (fun v10 => ?_)
      show Y cx x _ _ _ _ [(0, vR a0), (1, vI a1), (2, vI v8), (3, vI v10)] _ _ _
      refine x_goto (pc' := 4) F dX2_ownedBy_48 rfl ?_
      exact hrc5 v8 v10
    · refine x_icmpne (pt := 45) F dX2_ownedBy_36 rfl rfl ?_ ?_
      · refine x_iload_n F dX2_ownedBy_39 rfl rfl rfl ?_
        refine x_iconst F dX2_ownedBy_40 ⟨by decide, by decide⟩ rfl ?_
        refine x_iload_n F dX2_ownedBy_41 rfl rfl rfl ?_
        refine x_ishl F dX2_ownedBy_42 rfl ?_
        refine x_ior F dX2_ownedBy_43 rfl ?_
        refine x_istore_n F dX2_ownedBy_44 rfl (by decide) rfl rfl (fun v11 => ?_)
        show Y cx x _ _ _ _ [(0, vR a0), (1, vI a1), (2, vI v11), (3, vI v4)] _ _ _
        exact hK9 v11
      · exact hK9 v3
  · refine x_iload_n F dX2_ownedBy_51 rfl rfl rfl ?_
    exact x_iret F hnE hQ dX2_ownedBy_52
theorem dX2_movedKeys_0 : decode cX2_movedKeys 0 = .ok (.iconst 0, 1) := by decide +kernel
theorem dX2_movedKeys_1 : decode cX2_movedKeys 1 = .ok (.istore_n 2, 1) := by decide +kernel
theorem dX2_movedKeys_2 : decode cX2_movedKeys 2 = .ok (.aload_n 0, 1) := by decide +kernel
theorem dX2_movedKeys_3 : decode cX2_movedKeys 3 = .ok (.getfield 15, 3) := by decide +kernel
theorem dX2_movedKeys_6 : decode cX2_movedKeys 6 = .ok (.getfield 50, 3) := by decide +kernel
theorem dX2_movedKeys_9 : decode cX2_movedKeys 9 = .ok (.iconst 1, 1) := by decide +kernel
theorem dX2_movedKeys_10 : decode cX2_movedKeys 10 = .ok (.iload_n 1, 1) := by decide +kernel
theorem dX2_movedKeys_11 : decode cX2_movedKeys 11 = .ok (.ishl, 1) := by decide +kernel
theorem dX2_movedKeys_12 : decode cX2_movedKeys 12 = .ok (.ixor, 1) := by decide +kernel
theorem dX2_movedKeys_13 : decode cX2_movedKeys 13 = .ok (.istore_n 3, 1) := by decide +kernel
theorem dX2_movedKeys_14 : decode cX2_movedKeys 14 = .ok (.iconst 0, 1) := by decide +kernel
theorem dX2_movedKeys_15 : decode cX2_movedKeys 15 = .ok (.istore 4, 2) := by decide +kernel
theorem dX2_movedKeys_17 : decode cX2_movedKeys 17 = .ok (.iload 4, 2) := by decide +kernel
theorem dX2_movedKeys_19 : decode cX2_movedKeys 19 = .ok (.aload_n 0, 1) := by decide +kernel
theorem dX2_movedKeys_20 : decode cX2_movedKeys 20 = .ok (.getfield 9, 3) := by decide +kernel
theorem dX2_movedKeys_23 : decode cX2_movedKeys 23 = .ok (.getfield 37, 3) := by decide +kernel
theorem dX2_movedKeys_26 : decode cX2_movedKeys 26 = .ok (.if_icmp .ge 51, 3) := by decide +kernel
theorem dX2_movedKeys_29 : decode cX2_movedKeys 29 = .ok (.aload_n 0, 1) := by decide +kernel
theorem dX2_movedKeys_30 : decode cX2_movedKeys 30 = .ok (.aload_n 0, 1) := by decide +kernel
theorem dX2_movedKeys_31 : decode cX2_movedKeys 31 = .ok (.getfield 9, 3) := by decide +kernel
theorem dX2_movedKeys_34 : decode cX2_movedKeys 34 = .ok (.getfield 47, 3) := by decide +kernel
theorem dX2_movedKeys_37 : decode cX2_movedKeys 37 = .ok (.iload 4, 2) := by decide +kernel
theorem dX2_movedKeys_39 : decode cX2_movedKeys 39 = .ok (.iaload, 1) := by decide +kernel
theorem dX2_movedKeys_40 : decode cX2_movedKeys 40 = .ok (.aload_n 0, 1) := by decide +kernel
theorem dX2_movedKeys_41 : decode cX2_movedKeys 41 = .ok (.getfield 15, 3) := by decide +kernel
theorem dX2_movedKeys_44 : decode cX2_movedKeys 44 = .ok (.getfield 50, 3) := by decide +kernel
theorem dX2_movedKeys_47 : decode cX2_movedKeys 47 = .ok (.invokevirtual 53, 3) := by decide +kernel
theorem dX2_movedKeys_50 : decode cX2_movedKeys 50 = .ok (.aload_n 0, 1) := by decide +kernel
theorem dX2_movedKeys_51 : decode cX2_movedKeys 51 = .ok (.aload_n 0, 1) := by decide +kernel
theorem dX2_movedKeys_52 : decode cX2_movedKeys 52 = .ok (.getfield 9, 3) := by decide +kernel
theorem dX2_movedKeys_55 : decode cX2_movedKeys 55 = .ok (.getfield 47, 3) := by decide +kernel
theorem dX2_movedKeys_58 : decode cX2_movedKeys 58 = .ok (.iload 4, 2) := by decide +kernel
theorem dX2_movedKeys_60 : decode cX2_movedKeys 60 = .ok (.iaload, 1) := by decide +kernel
theorem dX2_movedKeys_61 : decode cX2_movedKeys 61 = .ok (.iload_n 3, 1) := by decide +kernel
theorem dX2_movedKeys_62 : decode cX2_movedKeys 62 = .ok (.invokevirtual 53, 3) := by decide +kernel
theorem dX2_movedKeys_65 : decode cX2_movedKeys 65 = .ok (.if_icmp .eq 6, 3) := by decide +kernel
theorem dX2_movedKeys_68 : decode cX2_movedKeys 68 = .ok (.iinc 2 1, 3) := by decide +kernel
theorem dX2_movedKeys_71 : decode cX2_movedKeys 71 = .ok (.iinc 4 1, 3) := by decide +kernel
theorem dX2_movedKeys_74 : decode cX2_movedKeys 74 = .ok (.goto (-57), 3) := by decide +kernel
theorem dX2_movedKeys_77 : decode cX2_movedKeys 77 = .ok (.iload_n 2, 1) := by decide +kernel
theorem dX2_movedKeys_78 : decode cX2_movedKeys 78 = .ok (.ireturn, 1) := by decide +kernel
def fX2_movedKeys (a0 : Nat) (a1 : Int) (G : Hp) : RT := bd 0 fun v1 => bd (ixor (G ((rf a0 1)) 1) (ishl 1 a1)) fun v2 => bd 0 fun v3 => (lp (fun (_ : Int) (_ : Int) => (none : RT)) 5000 (fun (rc6 : Int → Int → RT) (v4 : Int) (v5 : Int) => if v5 < (G ((rf a0 0)) 3) then (br (rd G ((rf ((rf a0 0)) 8)) 10 v5) fun v7 => bp (fX2_ownerOf a0 v7 (G ((rf a0 1)) 1) G) fun v8 => br (rd G ((rf ((rf a0 0)) 8)) 10 v5) fun v9 => bp (fX2_ownerOf a0 v9 v2 G) fun v10 => jn (fun (v11 : Int) => bd (iadd v5 1) fun v13 => rc6 v11 v13) fun (K12 : Int → RT) => if v8 = v10 then K12 v4 else (bd (iadd v4 1) fun v14 => K12 v14)) else rt v4 G)) v1 v3
theorem pX2_movedKeys {G : Hp} {a0 : Nat} {a1 : Int} : PU G (fX2_movedKeys a0 a1 G) := by
  unfold fX2_movedKeys
  refine PU_bd (fun v1 => ?_)
  refine PU_bd (fun v2 => ?_)
  refine PU_bd (fun v3 => ?_)
  refine x_lp (fun (rc6 : Int → Int → RT) => ∀ (v4 : Int) (v5 : Int), PU G (rc6 v4 v5)) (fun _ _ => PU_none) (fun rc6 phrc6 v4 v5 => ?_) 5000 v1 v3
  refine PU_ite ?_ ?_
  · refine PU_br (fun v7 => ?_)
    refine PU_bp (fun v8 => ?_)
    refine PU_br (fun v9 => ?_)
    refine PU_bp (fun v10 => ?_)
    refine PU_jn (fun (K12 : Int → RT) => ∀ (v11 : Int), PU G (K12 v11)) ?_ (fun K12 phK12 => ?_)
    · intro v11
      refine PU_bd (fun v13 => ?_)
      exact phrc6 v11 v13
    · refine PU_ite ?_ ?_
      · exact phK12 v4
      · refine PU_bd (fun v14 => ?_)
        exact phK12 v14
  · exact PU_rt
set_option maxRecDepth 20000 in
set_option maxHeartbeats 4000000 in
theorem tX2_movedKeys (l : Launch) (x : WX) (hi : Inj x.2.2) (G : Hp) (a0 : Nat) (a1 : Int) (ha0 : kd a0 = 2) : Ct l x yX2_movedKeys cX2_movedKeys 5 (some .int) 2 129 129 [vR a0, vI a1] G (fX2_movedKeys a0 a1 G) := by
  refine ct_of (plainFor_of_name (by decide)) hi (Nat.le_refl _) (Nat.le_refl _) (Nat.le_of_ble_eq_true rfl) (fun cx F hd hn0 hnE hl hQ => ?_)
  subst hl
  have F : Fx cx x RX2 cX2_movedKeys 5 (some .int) := F
  show Y cx x 5 (some .int) 129 0 [(0, vR a0), (1, vI a1)] [] G _
  unfold fX2_movedKeys
  refine x_iconst F dX2_movedKeys_0 ⟨by decide, by decide⟩ rfl ?_
  refine x_istore_n F dX2_movedKeys_1 rfl (by decide) rfl rfl (fun v1 => ?_)
  show Y cx x _ _ _ _ [(0, vR a0), (1, vI a1), (2, vI v1)] _ _ _
  refine x_aload_n F dX2_movedKeys_2 rfl rfl rfl ?_
  refine x_getR F flX2_15 ha0 rfl dX2_movedKeys_3 rfl ?_
  refine s_getI F flX2_50 (tf2_1 ha0).1 rfl dX2_movedKeys_6 rfl ?_
  refine x_iconst F dX2_movedKeys_9 ⟨by decide, by decide⟩ rfl ?_
  refine x_iload_n F dX2_movedKeys_10 rfl rfl rfl ?_
  refine x_ishl F dX2_movedKeys_11 rfl ?_
  refine x_ixor F dX2_movedKeys_12 rfl ?_
  refine x_dp (L' := [(0, vR a0), (2, vI v1)]) [0, 2] rfl ?_
  refine x_istore_n F dX2_movedKeys_13 rfl (by decide) rfl rfl (fun v2 => ?_)
  show Y cx x _ _ _ _ [(0, vR a0), (2, vI v1), (3, vI v2)] _ _ _
  refine x_iconst F dX2_movedKeys_14 ⟨by decide, by decide⟩ rfl ?_
  refine x_istore F dX2_movedKeys_15 (by decide) rfl rfl (fun v3 => ?_)
  show Y cx x _ _ _ _ [(0, vR a0), (2, vI v1), (3, vI v2), (4, vI v3)] _ _ _
  refine x_lp (fun (rc6 : Int → Int → RT) => ∀ (v4 : Int) (v5 : Int), Y cx x 5 (some .int) 129 17 [(0, vR a0), (2, vI v4), (3, vI v2), (4, vI v5)] [] G (rc6 v4 v5)) (fun _ _ => Y_none) (fun rc6 hrc6 v4 v5 => ?_) 5000 v1 v3
  refine x_iload F dX2_movedKeys_17 rfl rfl ?_
  refine x_aload_n F dX2_movedKeys_19 rfl rfl rfl ?_
  refine x_getR F flX2_9 ha0 rfl dX2_movedKeys_20 rfl ?_
  refine s_getI F flX2_37 (tf2_0 ha0).1 rfl dX2_movedKeys_23 rfl ?_
  refine x_icmpge (pt := 77) F dX2_movedKeys_26 rfl rfl ?_ ?_
  · refine x_aload_n F dX2_movedKeys_29 rfl rfl rfl ?_
    refine x_aload_n F dX2_movedKeys_30 rfl rfl rfl ?_
    refine x_getR F flX2_9 ha0 rfl dX2_movedKeys_31 rfl ?_
    refine x_getR F flX2_47 (tf2_0 ha0).1 rfl dX2_movedKeys_34 rfl ?_
    refine x_iload F dX2_movedKeys_37 rfl rfl ?_
    refine s_iald F (tf8_8 (tf2_0 ha0).1).1 (tf8_8 (tf2_0 ha0).1).2 dX2_movedKeys_39 rfl (fun v7 => ?_)
    refine x_aload_n F dX2_movedKeys_40 rfl rfl rfl ?_
    refine x_getR F flX2_15 ha0 rfl dX2_movedKeys_41 rfl ?_
    refine s_getI F flX2_50 (tf2_1 ha0).1 rfl dX2_movedKeys_44 rfl ?_
    refine s_callVP F [vI v7, vI (G ((rf a0 1)) 1)] [] lkX2_53 mX2_ownerOf rfl ha0 rfl hnE hn0 hd pX2_ownerOf (tX2_ownerOf cx.l x hi G a0 v7 (G ((rf a0 1)) 1) ha0) rfl rfl dX2_movedKeys_47 rfl rfl (fun v8 => ?_)
    refine x_aload_n F dX2_movedKeys_50 rfl rfl rfl ?_
    refine x_aload_n F dX2_movedKeys_51 rfl rfl rfl ?_
    refine x_getR F flX2_9 ha0 rfl dX2_movedKeys_52 rfl ?_
    refine x_getR F flX2_47 (tf2_0 ha0).1 rfl dX2_movedKeys_55 rfl ?_
    refine x_iload F dX2_movedKeys_58 rfl rfl ?_
    refine s_iald F (tf8_8 (tf2_0 ha0).1).1 (tf8_8 (tf2_0 ha0).1).2 dX2_movedKeys_60 rfl (fun v9 => ?_)
    refine x_iload_n F dX2_movedKeys_61 rfl rfl rfl ?_
    refine s_callVP F [vI v9, vI v2] [vI v8] lkX2_53 mX2_ownerOf rfl ha0 rfl hnE hn0 hd pX2_ownerOf (tX2_ownerOf cx.l x hi G a0 v9 v2 ha0) rfl rfl dX2_movedKeys_62 rfl rfl (fun v10 => ?_)
    refine x_jn (fun (K12 : Int → RT) => ∀ (v11 : Int), Y cx x 5 (some .int) 129 71 [(0, vR a0), (2, vI v11), (3, vI v2), (4, vI v5)] [] G (K12 v11)) ?_ (fun K12 hK12 => ?_)
    · intro v11
      refine x_iinc F dX2_movedKeys_71 rfl (by decide) rfl rfl (fun v13 => ?_)
      show Y cx x _ _ _ _ [(0, vR a0), (2, vI v11), (3, vI v2), (4, vI v13)] _ _ _
      refine x_goto (pc' := 17) F dX2_movedKeys_74 rfl ?_
      exact hrc6 v11 v13
    · refine x_icmpeq (pt := 71) F dX2_movedKeys_65 rfl rfl ?_ ?_
      · exact hK12 v4
      · refine x_iinc F dX2_movedKeys_68 rfl (by decide) rfl rfl (fun v14 => ?_)
        show Y cx x _ _ _ _ [(0, vR a0), (2, vI v14), (3, vI v2), (4, vI v5)] _ _ _
        exact hK12 v14
  · refine x_iload_n F dX2_movedKeys_77 rfl rfl rfl ?_
    exact x_iret F hnE hQ dX2_movedKeys_78
theorem dX2_heirOf_0 : decode cX2_heirOf 0 = .ok (.iconst 0, 1) := by decide +kernel
theorem dX2_heirOf_1 : decode cX2_heirOf 1 = .ok (.istore_n 3, 1) := by decide +kernel
theorem dX2_heirOf_2 : decode cX2_heirOf 2 = .ok (.iload_n 3, 1) := by decide +kernel
theorem dX2_heirOf_3 : decode cX2_heirOf 3 = .ok (.bipush 8, 2) := by decide +kernel
theorem dX2_heirOf_5 : decode cX2_heirOf 5 = .ok (.if_icmp .ge 40, 3) := by decide +kernel
theorem dX2_heirOf_8 : decode cX2_heirOf 8 = .ok (.aload_n 0, 1) := by decide +kernel
theorem dX2_heirOf_9 : decode cX2_heirOf 9 = .ok (.getfield 15, 3) := by decide +kernel
theorem dX2_heirOf_12 : decode cX2_heirOf 12 = .ok (.iload_n 3, 1) := by decide +kernel
theorem dX2_heirOf_13 : decode cX2_heirOf 13 = .ok (.invokevirtual 56, 3) := by decide +kernel
theorem dX2_heirOf_16 : decode cX2_heirOf 16 = .ok (.ifCond .eq 23, 3) := by decide +kernel
theorem dX2_heirOf_19 : decode cX2_heirOf 19 = .ok (.aload_n 0, 1) := by decide +kernel
theorem dX2_heirOf_20 : decode cX2_heirOf 20 = .ok (.iload_n 3, 1) := by decide +kernel
theorem dX2_heirOf_21 : decode cX2_heirOf 21 = .ok (.aload_n 0, 1) := by decide +kernel
theorem dX2_heirOf_22 : decode cX2_heirOf 22 = .ok (.getfield 9, 3) := by decide +kernel
theorem dX2_heirOf_25 : decode cX2_heirOf 25 = .ok (.getfield 47, 3) := by decide +kernel
theorem dX2_heirOf_28 : decode cX2_heirOf 28 = .ok (.iload_n 1, 1) := by decide +kernel
theorem dX2_heirOf_29 : decode cX2_heirOf 29 = .ok (.iaload, 1) := by decide +kernel
theorem dX2_heirOf_30 : decode cX2_heirOf 30 = .ok (.invokevirtual 60, 3) := by decide +kernel
theorem dX2_heirOf_33 : decode cX2_heirOf 33 = .ok (.iload_n 2, 1) := by decide +kernel
theorem dX2_heirOf_34 : decode cX2_heirOf 34 = .ok (.if_icmp .ne 5, 3) := by decide +kernel
theorem dX2_heirOf_37 : decode cX2_heirOf 37 = .ok (.iload_n 3, 1) := by decide +kernel
theorem dX2_heirOf_38 : decode cX2_heirOf 38 = .ok (.ireturn, 1) := by decide +kernel
theorem dX2_heirOf_39 : decode cX2_heirOf 39 = .ok (.iinc 3 1, 3) := by decide +kernel
theorem dX2_heirOf_42 : decode cX2_heirOf 42 = .ok (.goto (-40), 3) := by decide +kernel
theorem dX2_heirOf_45 : decode cX2_heirOf 45 = .ok (.iconst (-1), 1) := by decide +kernel
theorem dX2_heirOf_46 : decode cX2_heirOf 46 = .ok (.ireturn, 1) := by decide +kernel
def fX2_heirOf (a0 : Nat) (a1 : Int) (a2 : Int) (G : Hp) : RT := bd 0 fun v1 => (lp (fun (_ : Int) => (none : RT)) 5000 (fun (rc3 : Int → RT) (v2 : Int) => if v2 < 8 then (bp (fX6_isIn ((rf a0 1)) v2 G) fun v4 => jn (bd (iadd v2 1) fun v6 => rc3 v6) fun (K5 : RT) => if v4 = 0 then K5 else (br (rd G ((rf ((rf a0 0)) 8)) 10 a1) fun v7 => bp (fX2_nearerThan a0 v2 v7 G) fun v8 => if v8 = a2 then rt v2 G else K5)) else (rt ((-1)) G))) v1
theorem pX2_heirOf {G : Hp} {a0 : Nat} {a1 : Int} {a2 : Int} : PU G (fX2_heirOf a0 a1 a2 G) := by
  unfold fX2_heirOf
  refine PU_bd (fun v1 => ?_)
  refine x_lp (fun (rc3 : Int → RT) => ∀ (v2 : Int), PU G (rc3 v2)) (fun _ => PU_none) (fun rc3 phrc3 v2 => ?_) 5000 v1
  refine PU_ite ?_ ?_
  · refine PU_bp (fun v4 => ?_)
    refine PU_jn (fun (K5 : RT) => PU G (K5)) ?_ (fun K5 phK5 => ?_)
    · refine PU_bd (fun v6 => ?_)
      exact phrc3 v6
    · refine PU_ite ?_ ?_
      · exact phK5
      · refine PU_br (fun v7 => ?_)
        refine PU_bp (fun v8 => ?_)
        refine PU_ite ?_ ?_
        · exact PU_rt
        · exact phK5
  · exact PU_rt
set_option maxRecDepth 20000 in
set_option maxHeartbeats 4000000 in
theorem tX2_heirOf (l : Launch) (x : WX) (hi : Inj x.2.2) (G : Hp) (a0 : Nat) (a1 : Int) (a2 : Int) (ha0 : kd a0 = 2) : Ct l x yX2_heirOf cX2_heirOf 4 (some .int) 2 129 129 [vR a0, vI a1, vI a2] G (fX2_heirOf a0 a1 a2 G) := by
  refine ct_of (plainFor_of_name (by decide)) hi (Nat.le_refl _) (Nat.le_refl _) (Nat.le_of_ble_eq_true rfl) (fun cx F hd hn0 hnE hl hQ => ?_)
  subst hl
  have F : Fx cx x RX2 cX2_heirOf 4 (some .int) := F
  show Y cx x 4 (some .int) 129 0 [(0, vR a0), (1, vI a1), (2, vI a2)] [] G _
  unfold fX2_heirOf
  refine x_iconst F dX2_heirOf_0 ⟨by decide, by decide⟩ rfl ?_
  refine x_istore_n F dX2_heirOf_1 rfl (by decide) rfl rfl (fun v1 => ?_)
  show Y cx x _ _ _ _ [(0, vR a0), (1, vI a1), (2, vI a2), (3, vI v1)] _ _ _
  refine x_lp (fun (rc3 : Int → RT) => ∀ (v2 : Int), Y cx x 4 (some .int) 129 2 [(0, vR a0), (1, vI a1), (2, vI a2), (3, vI v2)] [] G (rc3 v2)) (fun _ => Y_none) (fun rc3 hrc3 v2 => ?_) 5000 v1
  refine x_iload_n F dX2_heirOf_2 rfl rfl rfl ?_
  refine x_bipush F dX2_heirOf_3 ⟨by decide, by decide⟩ (by decide) rfl ?_
  refine x_icmpge (pt := 45) F dX2_heirOf_5 rfl rfl ?_ ?_
  · refine x_aload_n F dX2_heirOf_8 rfl rfl rfl ?_
    refine x_getR F flX2_15 ha0 rfl dX2_heirOf_9 rfl ?_
    refine x_iload_n F dX2_heirOf_12 rfl rfl rfl ?_
    refine s_callVP F [vI v2] [] lkX2_56 mX6_isIn rfl (tf2_1 ha0).1 rfl hnE hn0 hd pX6_isIn (tX6_isIn cx.l x hi G ((rf a0 1)) v2 (tf2_1 ha0).1) rfl rfl dX2_heirOf_13 rfl rfl (fun v4 => ?_)
    refine x_jn (fun (K5 : RT) => Y cx x 4 (some .int) 129 39 [(0, vR a0), (1, vI a1), (2, vI a2), (3, vI v2)] [] G K5) ?_ (fun K5 hK5 => ?_)
    · refine x_iinc F dX2_heirOf_39 rfl (by decide) rfl rfl (fun v6 => ?_)
      show Y cx x _ _ _ _ [(0, vR a0), (1, vI a1), (2, vI a2), (3, vI v6)] _ _ _
      refine x_goto (pc' := 2) F dX2_heirOf_42 rfl ?_
      exact hrc3 v6
    · refine x_ifeq (pt := 39) F dX2_heirOf_16 rfl rfl ?_ ?_
      · exact hK5
      · refine x_aload_n F dX2_heirOf_19 rfl rfl rfl ?_
        refine x_iload_n F dX2_heirOf_20 rfl rfl rfl ?_
        refine x_aload_n F dX2_heirOf_21 rfl rfl rfl ?_
        refine x_getR F flX2_9 ha0 rfl dX2_heirOf_22 rfl ?_
        refine x_getR F flX2_47 (tf2_0 ha0).1 rfl dX2_heirOf_25 rfl ?_
        refine x_iload_n F dX2_heirOf_28 rfl rfl rfl ?_
        refine s_iald F (tf8_8 (tf2_0 ha0).1).1 (tf8_8 (tf2_0 ha0).1).2 dX2_heirOf_29 rfl (fun v7 => ?_)
        refine s_callVP F [vI v2, vI v7] [] lkX2_60 mX2_nearerThan rfl ha0 rfl hnE hn0 hd pX2_nearerThan (tX2_nearerThan cx.l x hi G a0 v2 v7 ha0) rfl rfl dX2_heirOf_30 rfl rfl (fun v8 => ?_)
        refine x_iload_n F dX2_heirOf_33 rfl rfl rfl ?_
        refine x_icmpne (pt := 39) F dX2_heirOf_34 rfl rfl ?_ ?_
        · refine x_iload_n F dX2_heirOf_37 rfl rfl rfl ?_
          exact x_iret F hnE hQ dX2_heirOf_38
        · exact hK5
  · refine x_iconst F dX2_heirOf_45 ⟨by decide, by decide⟩ rfl ?_
    exact x_iret F hnE hQ dX2_heirOf_46
theorem dX2_onCycles_0 : decode cX2_onCycles 0 = .ok (.iconst 0, 1) := by decide +kernel
theorem dX2_onCycles_1 : decode cX2_onCycles 1 = .ok (.istore_n 1, 1) := by decide +kernel
theorem dX2_onCycles_2 : decode cX2_onCycles 2 = .ok (.iconst 0, 1) := by decide +kernel
theorem dX2_onCycles_3 : decode cX2_onCycles 3 = .ok (.istore_n 2, 1) := by decide +kernel
theorem dX2_onCycles_4 : decode cX2_onCycles 4 = .ok (.iload_n 2, 1) := by decide +kernel
theorem dX2_onCycles_5 : decode cX2_onCycles 5 = .ok (.bipush 8, 2) := by decide +kernel
theorem dX2_onCycles_7 : decode cX2_onCycles 7 = .ok (.if_icmp .ge 59, 3) := by decide +kernel
theorem dX2_onCycles_10 : decode cX2_onCycles 10 = .ok (.iload_n 2, 1) := by decide +kernel
theorem dX2_onCycles_11 : decode cX2_onCycles 11 = .ok (.istore_n 3, 1) := by decide +kernel
theorem dX2_onCycles_12 : decode cX2_onCycles 12 = .ok (.iconst 0, 1) := by decide +kernel
theorem dX2_onCycles_13 : decode cX2_onCycles 13 = .ok (.istore 4, 2) := by decide +kernel
theorem dX2_onCycles_15 : decode cX2_onCycles 15 = .ok (.iload 4, 2) := by decide +kernel
theorem dX2_onCycles_17 : decode cX2_onCycles 17 = .ok (.bipush 8, 2) := by decide +kernel
theorem dX2_onCycles_19 : decode cX2_onCycles 19 = .ok (.if_icmp .ge 41, 3) := by decide +kernel
theorem dX2_onCycles_22 : decode cX2_onCycles 22 = .ok (.iload_n 3, 1) := by decide +kernel
theorem dX2_onCycles_23 : decode cX2_onCycles 23 = .ok (.iconst (-1), 1) := by decide +kernel
theorem dX2_onCycles_24 : decode cX2_onCycles 24 = .ok (.if_icmp .eq 36, 3) := by decide +kernel
theorem dX2_onCycles_27 : decode cX2_onCycles 27 = .ok (.aload_n 0, 1) := by decide +kernel
theorem dX2_onCycles_28 : decode cX2_onCycles 28 = .ok (.getfield 15, 3) := by decide +kernel
theorem dX2_onCycles_31 : decode cX2_onCycles 31 = .ok (.iload_n 3, 1) := by decide +kernel
theorem dX2_onCycles_32 : decode cX2_onCycles 32 = .ok (.aload_n 0, 1) := by decide +kernel
theorem dX2_onCycles_33 : decode cX2_onCycles 33 = .ok (.getfield 15, 3) := by decide +kernel
theorem dX2_onCycles_36 : decode cX2_onCycles 36 = .ok (.getfield 50, 3) := by decide +kernel
theorem dX2_onCycles_39 : decode cX2_onCycles 39 = .ok (.invokevirtual 63, 3) := by decide +kernel
theorem dX2_onCycles_42 : decode cX2_onCycles 42 = .ok (.istore_n 3, 1) := by decide +kernel
theorem dX2_onCycles_43 : decode cX2_onCycles 43 = .ok (.iload_n 3, 1) := by decide +kernel
theorem dX2_onCycles_44 : decode cX2_onCycles 44 = .ok (.iload_n 2, 1) := by decide +kernel
theorem dX2_onCycles_45 : decode cX2_onCycles 45 = .ok (.if_icmp .ne 9, 3) := by decide +kernel
theorem dX2_onCycles_48 : decode cX2_onCycles 48 = .ok (.iload_n 1, 1) := by decide +kernel
theorem dX2_onCycles_49 : decode cX2_onCycles 49 = .ok (.iconst 1, 1) := by decide +kernel
theorem dX2_onCycles_50 : decode cX2_onCycles 50 = .ok (.iload_n 2, 1) := by decide +kernel
theorem dX2_onCycles_51 : decode cX2_onCycles 51 = .ok (.ishl, 1) := by decide +kernel
theorem dX2_onCycles_52 : decode cX2_onCycles 52 = .ok (.ior, 1) := by decide +kernel
theorem dX2_onCycles_53 : decode cX2_onCycles 53 = .ok (.istore_n 1, 1) := by decide +kernel
theorem dX2_onCycles_54 : decode cX2_onCycles 54 = .ok (.iinc 4 1, 3) := by decide +kernel
theorem dX2_onCycles_57 : decode cX2_onCycles 57 = .ok (.goto (-42), 3) := by decide +kernel
theorem dX2_onCycles_60 : decode cX2_onCycles 60 = .ok (.iinc 2 1, 3) := by decide +kernel
theorem dX2_onCycles_63 : decode cX2_onCycles 63 = .ok (.goto (-59), 3) := by decide +kernel
theorem dX2_onCycles_66 : decode cX2_onCycles 66 = .ok (.iload_n 1, 1) := by decide +kernel
theorem dX2_onCycles_67 : decode cX2_onCycles 67 = .ok (.ireturn, 1) := by decide +kernel
def fX2_onCycles (a0 : Nat) (G : Hp) : RT := bd 0 fun v1 => bd 0 fun v2 => (lp (fun (_ : Int) (_ : Int) => (none : RT)) 5000 (fun (rc5 : Int → Int → RT) (v3 : Int) (v4 : Int) => if v4 < 8 then (bd v4 fun v6 => bd 0 fun v7 => (lp (fun (_ : Int) (_ : Int) (_ : Int) => (none : RT)) 5000 (fun (rc11 : Int → Int → Int → RT) (v8 : Int) (v9 : Int) (v10 : Int) => jn (bd (iadd v4 1) fun v13 => rc5 v8 v13) fun (K12 : RT) => if v10 < 8 then (if v9 = ((-1)) then K12 else (bp (fX6_firstOf ((rf a0 1)) v9 (G ((rf a0 1)) 1) G) fun v14 => bd v14 fun v15 => jn (fun (v16 : Int) => bd (iadd v10 1) fun v18 => rc11 v16 v15 v18) fun (K17 : Int → RT) => if v15 = v4 then (bd (ior v8 (ishl 1 v4)) fun v19 => K17 v19) else K17 v8)) else K12)) v3 v6 v7) else rt v3 G)) v1 v2
theorem pX2_onCycles {G : Hp} {a0 : Nat} : PU G (fX2_onCycles a0 G) := by
  unfold fX2_onCycles
  refine PU_bd (fun v1 => ?_)
  refine PU_bd (fun v2 => ?_)
  refine x_lp (fun (rc5 : Int → Int → RT) => ∀ (v3 : Int) (v4 : Int), PU G (rc5 v3 v4)) (fun _ _ => PU_none) (fun rc5 phrc5 v3 v4 => ?_) 5000 v1 v2
  refine PU_ite ?_ ?_
  · refine PU_bd (fun v6 => ?_)
    refine PU_bd (fun v7 => ?_)
    refine x_lp (fun (rc11 : Int → Int → Int → RT) => ∀ (v8 : Int) (v9 : Int) (v10 : Int), PU G (rc11 v8 v9 v10)) (fun _ _ _ => PU_none) (fun rc11 phrc11 v8 v9 v10 => ?_) 5000 v3 v6 v7
    refine PU_jn (fun (K12 : RT) => PU G (K12)) ?_ (fun K12 phK12 => ?_)
    · refine PU_bd (fun v13 => ?_)
      exact phrc5 v8 v13
    · refine PU_ite ?_ ?_
      · refine PU_ite ?_ ?_
        · exact phK12
        · refine PU_bp (fun v14 => ?_)
          refine PU_bd (fun v15 => ?_)
          refine PU_jn (fun (K17 : Int → RT) => ∀ (v16 : Int), PU G (K17 v16)) ?_ (fun K17 phK17 => ?_)
          · intro v16
            refine PU_bd (fun v18 => ?_)
            exact phrc11 v16 v15 v18
          · refine PU_ite ?_ ?_
            · refine PU_bd (fun v19 => ?_)
              exact phK17 v19
            · exact phK17 v8
      · exact phK12
  · exact PU_rt
set_option maxRecDepth 20000 in
set_option maxHeartbeats 4000000 in
theorem tX2_onCycles (l : Launch) (x : WX) (hi : Inj x.2.2) (G : Hp) (a0 : Nat) (ha0 : kd a0 = 2) : Ct l x yX2_onCycles cX2_onCycles 5 (some .int) 2 129 129 [vR a0] G (fX2_onCycles a0 G) := by
  refine ct_of (plainFor_of_name (by decide)) hi (Nat.le_refl _) (Nat.le_refl _) (Nat.le_of_ble_eq_true rfl) (fun cx F hd hn0 hnE hl hQ => ?_)
  subst hl
  have F : Fx cx x RX2 cX2_onCycles 5 (some .int) := F
  show Y cx x 5 (some .int) 129 0 [(0, vR a0)] [] G _
  unfold fX2_onCycles
  refine x_iconst F dX2_onCycles_0 ⟨by decide, by decide⟩ rfl ?_
  refine x_istore_n F dX2_onCycles_1 rfl (by decide) rfl rfl (fun v1 => ?_)
  show Y cx x _ _ _ _ [(0, vR a0), (1, vI v1)] _ _ _
  refine x_iconst F dX2_onCycles_2 ⟨by decide, by decide⟩ rfl ?_
  refine x_istore_n F dX2_onCycles_3 rfl (by decide) rfl rfl (fun v2 => ?_)
  show Y cx x _ _ _ _ [(0, vR a0), (1, vI v1), (2, vI v2)] _ _ _
  refine x_lp (fun (rc5 : Int → Int → RT) => ∀ (v3 : Int) (v4 : Int), Y cx x 5 (some .int) 129 4 [(0, vR a0), (1, vI v3), (2, vI v4)] [] G (rc5 v3 v4)) (fun _ _ => Y_none) (fun rc5 hrc5 v3 v4 => ?_) 5000 v1 v2
  refine x_iload_n F dX2_onCycles_4 rfl rfl rfl ?_
  refine x_bipush F dX2_onCycles_5 ⟨by decide, by decide⟩ (by decide) rfl ?_
  refine x_icmpge (pt := 66) F dX2_onCycles_7 rfl rfl ?_ ?_
  · refine x_iload_n F dX2_onCycles_10 rfl rfl rfl ?_
    refine x_istore_n F dX2_onCycles_11 rfl (by decide) rfl rfl (fun v6 => ?_)
    show Y cx x _ _ _ _ [(0, vR a0), (1, vI v3), (2, vI v4), (3, vI v6)] _ _ _
    refine x_iconst F dX2_onCycles_12 ⟨by decide, by decide⟩ rfl ?_
    refine x_istore F dX2_onCycles_13 (by decide) rfl rfl (fun v7 => ?_)
    show Y cx x _ _ _ _ [(0, vR a0), (1, vI v3), (2, vI v4), (3, vI v6), (4, vI v7)] _ _ _
    refine x_lp (fun (rc11 : Int → Int → Int → RT) => ∀ (v8 : Int) (v9 : Int) (v10 : Int), Y cx x 5 (some .int) 129 15 [(0, vR a0), (1, vI v8), (2, vI v4), (3, vI v9), (4, vI v10)] [] G (rc11 v8 v9 v10)) (fun _ _ _ => Y_none) (fun rc11 hrc11 v8 v9 v10 => ?_) 5000 v3 v6 v7
    refine x_iload F dX2_onCycles_15 rfl rfl ?_
    refine x_bipush F dX2_onCycles_17 ⟨by decide, by decide⟩ (by decide) rfl ?_
    refine x_jn (fun (K12 : RT) => Y cx x 5 (some .int) 129 60 [(0, vR a0), (1, vI v8), (2, vI v4)] [] G K12) ?_ (fun K12 hK12 => ?_)
    · refine x_iinc F dX2_onCycles_60 rfl (by decide) rfl rfl (fun v13 => ?_)
      show Y cx x _ _ _ _ [(0, vR a0), (1, vI v8), (2, vI v13)] _ _ _
      refine x_goto (pc' := 4) F dX2_onCycles_63 rfl ?_
      exact hrc5 v8 v13
    · refine x_icmpge (pt := 60) F dX2_onCycles_19 rfl rfl ?_ ?_
      · refine x_iload_n F dX2_onCycles_22 rfl rfl rfl ?_
        refine x_iconst F dX2_onCycles_23 ⟨by decide, by decide⟩ rfl ?_
        refine x_icmpeq (pt := 60) F dX2_onCycles_24 rfl rfl ?_ ?_
        · refine x_dp (L' := [(0, vR a0), (1, vI v8), (2, vI v4)]) [0, 1, 2] rfl ?_
          exact hK12
        · refine x_aload_n F dX2_onCycles_27 rfl rfl rfl ?_
          refine x_getR F flX2_15 ha0 rfl dX2_onCycles_28 rfl ?_
          refine x_iload_n F dX2_onCycles_31 rfl rfl rfl ?_
          refine x_aload_n F dX2_onCycles_32 rfl rfl rfl ?_
          refine x_getR F flX2_15 ha0 rfl dX2_onCycles_33 rfl ?_
          refine s_getI F flX2_50 (tf2_1 ha0).1 rfl dX2_onCycles_36 rfl ?_
          refine s_callVP F [vI v9, vI (G ((rf a0 1)) 1)] [] lkX2_63 mX6_firstOf rfl (tf2_1 ha0).1 rfl hnE hn0 hd pX6_firstOf (tX6_firstOf cx.l x hi G ((rf a0 1)) v9 (G ((rf a0 1)) 1) (tf2_1 ha0).1) rfl rfl dX2_onCycles_39 rfl rfl (fun v14 => ?_)
          refine x_istore_n F dX2_onCycles_42 rfl (by decide) rfl rfl (fun v15 => ?_)
          show Y cx x _ _ _ _ [(0, vR a0), (1, vI v8), (2, vI v4), (3, vI v15), (4, vI v10)] _ _ _
          refine x_iload_n F dX2_onCycles_43 rfl rfl rfl ?_
          refine x_iload_n F dX2_onCycles_44 rfl rfl rfl ?_
          refine x_jn (fun (K17 : Int → RT) => ∀ (v16 : Int), Y cx x 5 (some .int) 129 54 [(0, vR a0), (1, vI v16), (2, vI v4), (3, vI v15), (4, vI v10)] [] G (K17 v16)) ?_ (fun K17 hK17 => ?_)
          · intro v16
            refine x_iinc F dX2_onCycles_54 rfl (by decide) rfl rfl (fun v18 => ?_)
            show Y cx x _ _ _ _ [(0, vR a0), (1, vI v16), (2, vI v4), (3, vI v15), (4, vI v18)] _ _ _
            refine x_goto (pc' := 15) F dX2_onCycles_57 rfl ?_
            exact hrc11 v16 v15 v18
          · refine x_icmpne (pt := 54) F dX2_onCycles_45 rfl rfl ?_ ?_
            · refine x_iload_n F dX2_onCycles_48 rfl rfl rfl ?_
              refine x_iconst F dX2_onCycles_49 ⟨by decide, by decide⟩ rfl ?_
              refine x_iload_n F dX2_onCycles_50 rfl rfl rfl ?_
              refine x_ishl F dX2_onCycles_51 rfl ?_
              refine x_ior F dX2_onCycles_52 rfl ?_
              refine x_istore_n F dX2_onCycles_53 rfl (by decide) rfl rfl (fun v19 => ?_)
              show Y cx x _ _ _ _ [(0, vR a0), (1, vI v19), (2, vI v4), (3, vI v15), (4, vI v10)] _ _ _
              exact hK17 v19
            · exact hK17 v8
      · refine x_dp (L' := [(0, vR a0), (1, vI v8), (2, vI v4)]) [0, 1, 2] rfl ?_
        exact hK12
  · refine x_iload_n F dX2_onCycles_66 rfl rfl rfl ?_
    exact x_iret F hnE hQ dX2_onCycles_67
theorem dX2_broken_0 : decode cX2_broken 0 = .ok (.iconst 0, 1) := by decide +kernel
theorem dX2_broken_1 : decode cX2_broken 1 = .ok (.istore_n 1, 1) := by decide +kernel
theorem dX2_broken_2 : decode cX2_broken 2 = .ok (.iconst 0, 1) := by decide +kernel
theorem dX2_broken_3 : decode cX2_broken 3 = .ok (.istore_n 2, 1) := by decide +kernel
theorem dX2_broken_4 : decode cX2_broken 4 = .ok (.iload_n 2, 1) := by decide +kernel
theorem dX2_broken_5 : decode cX2_broken 5 = .ok (.bipush 8, 2) := by decide +kernel
theorem dX2_broken_7 : decode cX2_broken 7 = .ok (.if_icmp .ge 70, 3) := by decide +kernel
theorem dX2_broken_10 : decode cX2_broken 10 = .ok (.iload_n 2, 1) := by decide +kernel
theorem dX2_broken_11 : decode cX2_broken 11 = .ok (.istore_n 3, 1) := by decide +kernel
theorem dX2_broken_12 : decode cX2_broken 12 = .ok (.iconst 0, 1) := by decide +kernel
theorem dX2_broken_13 : decode cX2_broken 13 = .ok (.istore 4, 2) := by decide +kernel
theorem dX2_broken_15 : decode cX2_broken 15 = .ok (.iload 4, 2) := by decide +kernel
theorem dX2_broken_17 : decode cX2_broken 17 = .ok (.bipush 8, 2) := by decide +kernel
theorem dX2_broken_19 : decode cX2_broken 19 = .ok (.if_icmp .ge 30, 3) := by decide +kernel
theorem dX2_broken_22 : decode cX2_broken 22 = .ok (.iload_n 3, 1) := by decide +kernel
theorem dX2_broken_23 : decode cX2_broken 23 = .ok (.iconst (-1), 1) := by decide +kernel
theorem dX2_broken_24 : decode cX2_broken 24 = .ok (.if_icmp .eq 25, 3) := by decide +kernel
theorem dX2_broken_27 : decode cX2_broken 27 = .ok (.aload_n 0, 1) := by decide +kernel
theorem dX2_broken_28 : decode cX2_broken 28 = .ok (.getfield 15, 3) := by decide +kernel
theorem dX2_broken_31 : decode cX2_broken 31 = .ok (.iload_n 3, 1) := by decide +kernel
theorem dX2_broken_32 : decode cX2_broken 32 = .ok (.aload_n 0, 1) := by decide +kernel
theorem dX2_broken_33 : decode cX2_broken 33 = .ok (.getfield 15, 3) := by decide +kernel
theorem dX2_broken_36 : decode cX2_broken 36 = .ok (.getfield 50, 3) := by decide +kernel
theorem dX2_broken_39 : decode cX2_broken 39 = .ok (.invokevirtual 63, 3) := by decide +kernel
theorem dX2_broken_42 : decode cX2_broken 42 = .ok (.istore_n 3, 1) := by decide +kernel
theorem dX2_broken_43 : decode cX2_broken 43 = .ok (.iinc 4 1, 3) := by decide +kernel
theorem dX2_broken_46 : decode cX2_broken 46 = .ok (.goto (-31), 3) := by decide +kernel
theorem dX2_broken_49 : decode cX2_broken 49 = .ok (.iload_n 3, 1) := by decide +kernel
theorem dX2_broken_50 : decode cX2_broken 50 = .ok (.iconst (-1), 1) := by decide +kernel
theorem dX2_broken_51 : decode cX2_broken 51 = .ok (.if_icmp .ne 20, 3) := by decide +kernel
theorem dX2_broken_54 : decode cX2_broken 54 = .ok (.aload_n 0, 1) := by decide +kernel
theorem dX2_broken_55 : decode cX2_broken 55 = .ok (.getfield 15, 3) := by decide +kernel
theorem dX2_broken_58 : decode cX2_broken 58 = .ok (.iload_n 2, 1) := by decide +kernel
theorem dX2_broken_59 : decode cX2_broken 59 = .ok (.invokevirtual 56, 3) := by decide +kernel
theorem dX2_broken_62 : decode cX2_broken 62 = .ok (.ifCond .eq 9, 3) := by decide +kernel
theorem dX2_broken_65 : decode cX2_broken 65 = .ok (.iload_n 1, 1) := by decide +kernel
theorem dX2_broken_66 : decode cX2_broken 66 = .ok (.iconst 1, 1) := by decide +kernel
theorem dX2_broken_67 : decode cX2_broken 67 = .ok (.iload_n 2, 1) := by decide +kernel
theorem dX2_broken_68 : decode cX2_broken 68 = .ok (.ishl, 1) := by decide +kernel
theorem dX2_broken_69 : decode cX2_broken 69 = .ok (.ior, 1) := by decide +kernel
theorem dX2_broken_70 : decode cX2_broken 70 = .ok (.istore_n 1, 1) := by decide +kernel
theorem dX2_broken_71 : decode cX2_broken 71 = .ok (.iinc 2 1, 3) := by decide +kernel
theorem dX2_broken_74 : decode cX2_broken 74 = .ok (.goto (-70), 3) := by decide +kernel
theorem dX2_broken_77 : decode cX2_broken 77 = .ok (.iload_n 1, 1) := by decide +kernel
theorem dX2_broken_78 : decode cX2_broken 78 = .ok (.ireturn, 1) := by decide +kernel
def fX2_broken (a0 : Nat) (G : Hp) : RT := bd 0 fun v1 => bd 0 fun v2 => (lp (fun (_ : Int) (_ : Int) => (none : RT)) 5000 (fun (rc5 : Int → Int → RT) (v3 : Int) (v4 : Int) => if v4 < 8 then (bd v4 fun v6 => bd 0 fun v7 => (lp (fun (_ : Int) (_ : Int) => (none : RT)) 5000 (fun (rc10 : Int → Int → RT) (v8 : Int) (v9 : Int) => jn (jn (fun (v12 : Int) => bd (iadd v4 1) fun v14 => rc5 v12 v14) fun (K13 : Int → RT) => if v8 = ((-1)) then (bp (fX6_isIn ((rf a0 1)) v4 G) fun v15 => if v15 = 0 then K13 v3 else (bd (ior v3 (ishl 1 v4)) fun v16 => K13 v16)) else K13 v3) fun (K11 : RT) => if v9 < 8 then (if v8 = ((-1)) then K11 else (bp (fX6_firstOf ((rf a0 1)) v8 (G ((rf a0 1)) 1) G) fun v17 => bd v17 fun v18 => bd (iadd v9 1) fun v19 => rc10 v18 v19)) else K11)) v6 v7) else rt v3 G)) v1 v2
theorem pX2_broken {G : Hp} {a0 : Nat} : PU G (fX2_broken a0 G) := by
  unfold fX2_broken
  refine PU_bd (fun v1 => ?_)
  refine PU_bd (fun v2 => ?_)
  refine x_lp (fun (rc5 : Int → Int → RT) => ∀ (v3 : Int) (v4 : Int), PU G (rc5 v3 v4)) (fun _ _ => PU_none) (fun rc5 phrc5 v3 v4 => ?_) 5000 v1 v2
  refine PU_ite ?_ ?_
  · refine PU_bd (fun v6 => ?_)
    refine PU_bd (fun v7 => ?_)
    refine x_lp (fun (rc10 : Int → Int → RT) => ∀ (v8 : Int) (v9 : Int), PU G (rc10 v8 v9)) (fun _ _ => PU_none) (fun rc10 phrc10 v8 v9 => ?_) 5000 v6 v7
    refine PU_jn (fun (K11 : RT) => PU G (K11)) ?_ (fun K11 phK11 => ?_)
    · refine PU_jn (fun (K13 : Int → RT) => ∀ (v12 : Int), PU G (K13 v12)) ?_ (fun K13 phK13 => ?_)
      · intro v12
        refine PU_bd (fun v14 => ?_)
        exact phrc5 v12 v14
      · refine PU_ite ?_ ?_
        · refine PU_bp (fun v15 => ?_)
          refine PU_ite ?_ ?_
          · exact phK13 v3
          · refine PU_bd (fun v16 => ?_)
            exact phK13 v16
        · exact phK13 v3
    · refine PU_ite ?_ ?_
      · refine PU_ite ?_ ?_
        · exact phK11
        · refine PU_bp (fun v17 => ?_)
          refine PU_bd (fun v18 => ?_)
          refine PU_bd (fun v19 => ?_)
          exact phrc10 v18 v19
      · exact phK11
  · exact PU_rt
set_option maxRecDepth 20000 in
set_option maxHeartbeats 4000000 in
theorem tX2_broken (l : Launch) (x : WX) (hi : Inj x.2.2) (G : Hp) (a0 : Nat) (ha0 : kd a0 = 2) : Ct l x yX2_broken cX2_broken 5 (some .int) 2 129 129 [vR a0] G (fX2_broken a0 G) := by
  refine ct_of (plainFor_of_name (by decide)) hi (Nat.le_refl _) (Nat.le_refl _) (Nat.le_of_ble_eq_true rfl) (fun cx F hd hn0 hnE hl hQ => ?_)
  subst hl
  have F : Fx cx x RX2 cX2_broken 5 (some .int) := F
  show Y cx x 5 (some .int) 129 0 [(0, vR a0)] [] G _
  unfold fX2_broken
  refine x_iconst F dX2_broken_0 ⟨by decide, by decide⟩ rfl ?_
  refine x_istore_n F dX2_broken_1 rfl (by decide) rfl rfl (fun v1 => ?_)
  show Y cx x _ _ _ _ [(0, vR a0), (1, vI v1)] _ _ _
  refine x_iconst F dX2_broken_2 ⟨by decide, by decide⟩ rfl ?_
  refine x_istore_n F dX2_broken_3 rfl (by decide) rfl rfl (fun v2 => ?_)
  show Y cx x _ _ _ _ [(0, vR a0), (1, vI v1), (2, vI v2)] _ _ _
  refine x_lp (fun (rc5 : Int → Int → RT) => ∀ (v3 : Int) (v4 : Int), Y cx x 5 (some .int) 129 4 [(0, vR a0), (1, vI v3), (2, vI v4)] [] G (rc5 v3 v4)) (fun _ _ => Y_none) (fun rc5 hrc5 v3 v4 => ?_) 5000 v1 v2
  refine x_iload_n F dX2_broken_4 rfl rfl rfl ?_
  refine x_bipush F dX2_broken_5 ⟨by decide, by decide⟩ (by decide) rfl ?_
  refine x_icmpge (pt := 77) F dX2_broken_7 rfl rfl ?_ ?_
  · refine x_iload_n F dX2_broken_10 rfl rfl rfl ?_
    refine x_istore_n F dX2_broken_11 rfl (by decide) rfl rfl (fun v6 => ?_)
    show Y cx x _ _ _ _ [(0, vR a0), (1, vI v3), (2, vI v4), (3, vI v6)] _ _ _
    refine x_iconst F dX2_broken_12 ⟨by decide, by decide⟩ rfl ?_
    refine x_istore F dX2_broken_13 (by decide) rfl rfl (fun v7 => ?_)
    show Y cx x _ _ _ _ [(0, vR a0), (1, vI v3), (2, vI v4), (3, vI v6), (4, vI v7)] _ _ _
    refine x_lp (fun (rc10 : Int → Int → RT) => ∀ (v8 : Int) (v9 : Int), Y cx x 5 (some .int) 129 15 [(0, vR a0), (1, vI v3), (2, vI v4), (3, vI v8), (4, vI v9)] [] G (rc10 v8 v9)) (fun _ _ => Y_none) (fun rc10 hrc10 v8 v9 => ?_) 5000 v6 v7
    refine x_iload F dX2_broken_15 rfl rfl ?_
    refine x_bipush F dX2_broken_17 ⟨by decide, by decide⟩ (by decide) rfl ?_
    refine x_jn (fun (K11 : RT) => Y cx x 5 (some .int) 129 49 [(0, vR a0), (1, vI v3), (2, vI v4), (3, vI v8)] [] G K11) ?_ (fun K11 hK11 => ?_)
    · refine x_iload_n F dX2_broken_49 rfl rfl rfl ?_
      refine x_iconst F dX2_broken_50 ⟨by decide, by decide⟩ rfl ?_
      refine x_jn (fun (K13 : Int → RT) => ∀ (v12 : Int), Y cx x 5 (some .int) 129 71 [(0, vR a0), (1, vI v12), (2, vI v4)] [] G (K13 v12)) ?_ (fun K13 hK13 => ?_)
      · intro v12
        refine x_iinc F dX2_broken_71 rfl (by decide) rfl rfl (fun v14 => ?_)
        show Y cx x _ _ _ _ [(0, vR a0), (1, vI v12), (2, vI v14)] _ _ _
        refine x_goto (pc' := 4) F dX2_broken_74 rfl ?_
        exact hrc5 v12 v14
      · refine x_icmpne (pt := 71) F dX2_broken_51 rfl rfl ?_ ?_
        · refine x_aload_n F dX2_broken_54 rfl rfl rfl ?_
          refine x_getR F flX2_15 ha0 rfl dX2_broken_55 rfl ?_
          refine x_iload_n F dX2_broken_58 rfl rfl rfl ?_
          refine s_callVP F [vI v4] [] lkX2_56 mX6_isIn rfl (tf2_1 ha0).1 rfl hnE hn0 hd pX6_isIn (tX6_isIn cx.l x hi G ((rf a0 1)) v4 (tf2_1 ha0).1) rfl rfl dX2_broken_59 rfl rfl (fun v15 => ?_)
          refine x_ifeq (pt := 71) F dX2_broken_62 rfl rfl ?_ ?_
          · refine x_dp (L' := [(0, vR a0), (1, vI v3), (2, vI v4)]) [0, 1, 2] rfl ?_
            exact hK13 v3
          · refine x_iload_n F dX2_broken_65 rfl rfl rfl ?_
            refine x_iconst F dX2_broken_66 ⟨by decide, by decide⟩ rfl ?_
            refine x_iload_n F dX2_broken_67 rfl rfl rfl ?_
            refine x_ishl F dX2_broken_68 rfl ?_
            refine x_ior F dX2_broken_69 rfl ?_
            refine x_dp (L' := [(0, vR a0), (1, vI v3), (2, vI v4)]) [0, 1, 2] rfl ?_
            refine x_istore_n F dX2_broken_70 rfl (by decide) rfl rfl (fun v16 => ?_)
            show Y cx x _ _ _ _ [(0, vR a0), (1, vI v16), (2, vI v4)] _ _ _
            exact hK13 v16
        · refine x_dp (L' := [(0, vR a0), (1, vI v3), (2, vI v4)]) [0, 1, 2] rfl ?_
          exact hK13 v3
    · refine x_icmpge (pt := 49) F dX2_broken_19 rfl rfl ?_ ?_
      · refine x_iload_n F dX2_broken_22 rfl rfl rfl ?_
        refine x_iconst F dX2_broken_23 ⟨by decide, by decide⟩ rfl ?_
        refine x_icmpeq (pt := 49) F dX2_broken_24 rfl rfl ?_ ?_
        · refine x_dp (L' := [(0, vR a0), (1, vI v3), (2, vI v4), (3, vI v8)]) [0, 1, 2, 3] rfl ?_
          exact hK11
        · refine x_aload_n F dX2_broken_27 rfl rfl rfl ?_
          refine x_getR F flX2_15 ha0 rfl dX2_broken_28 rfl ?_
          refine x_iload_n F dX2_broken_31 rfl rfl rfl ?_
          refine x_aload_n F dX2_broken_32 rfl rfl rfl ?_
          refine x_getR F flX2_15 ha0 rfl dX2_broken_33 rfl ?_
          refine s_getI F flX2_50 (tf2_1 ha0).1 rfl dX2_broken_36 rfl ?_
          refine s_callVP F [vI v8, vI (G ((rf a0 1)) 1)] [] lkX2_63 mX6_firstOf rfl (tf2_1 ha0).1 rfl hnE hn0 hd pX6_firstOf (tX6_firstOf cx.l x hi G ((rf a0 1)) v8 (G ((rf a0 1)) 1) (tf2_1 ha0).1) rfl rfl dX2_broken_39 rfl rfl (fun v17 => ?_)
          refine x_istore_n F dX2_broken_42 rfl (by decide) rfl rfl (fun v18 => ?_)
          show Y cx x _ _ _ _ [(0, vR a0), (1, vI v3), (2, vI v4), (3, vI v18), (4, vI v9)] _ _ _
          refine x_iinc F dX2_broken_43 rfl (by decide) rfl rfl (fun v19 => ?_)
          show Y cx x _ _ _ _ [(0, vR a0), (1, vI v3), (2, vI v4), (3, vI v18), (4, vI v19)] _ _ _
          refine x_goto (pc' := 15) F dX2_broken_46 rfl ?_
          exact hrc10 v18 v19
      · refine x_dp (L' := [(0, vR a0), (1, vI v3), (2, vI v4), (3, vI v8)]) [0, 1, 2, 3] rfl ?_
        exact hK11
  · refine x_iload_n F dX2_broken_77 rfl rfl rfl ?_
    exact x_iret F hnE hQ dX2_broken_78
theorem dX2_nextOf_0 : decode cX2_nextOf 0 = .ok (.iconst (-1), 1) := by decide +kernel
theorem dX2_nextOf_1 : decode cX2_nextOf 1 = .ok (.istore_n 2, 1) := by decide +kernel
theorem dX2_nextOf_2 : decode cX2_nextOf 2 = .ok (.iconst 0, 1) := by decide +kernel
theorem dX2_nextOf_3 : decode cX2_nextOf 3 = .ok (.istore_n 3, 1) := by decide +kernel
theorem dX2_nextOf_4 : decode cX2_nextOf 4 = .ok (.iload_n 3, 1) := by decide +kernel
theorem dX2_nextOf_5 : decode cX2_nextOf 5 = .ok (.bipush 8, 2) := by decide +kernel
theorem dX2_nextOf_7 : decode cX2_nextOf 7 = .ok (.if_icmp .ge 57, 3) := by decide +kernel
theorem dX2_nextOf_10 : decode cX2_nextOf 10 = .ok (.iload_n 3, 1) := by decide +kernel
theorem dX2_nextOf_11 : decode cX2_nextOf 11 = .ok (.iload_n 1, 1) := by decide +kernel
theorem dX2_nextOf_12 : decode cX2_nextOf 12 = .ok (.if_icmp .eq 18, 3) := by decide +kernel
theorem dX2_nextOf_15 : decode cX2_nextOf 15 = .ok (.aload_n 0, 1) := by decide +kernel
theorem dX2_nextOf_16 : decode cX2_nextOf 16 = .ok (.getfield 15, 3) := by decide +kernel
theorem dX2_nextOf_19 : decode cX2_nextOf 19 = .ok (.iload_n 3, 1) := by decide +kernel
theorem dX2_nextOf_20 : decode cX2_nextOf 20 = .ok (.invokevirtual 56, 3) := by decide +kernel
theorem dX2_nextOf_23 : decode cX2_nextOf 23 = .ok (.ifCond .eq 7, 3) := by decide +kernel
theorem dX2_nextOf_26 : decode cX2_nextOf 26 = .ok (.iconst 1, 1) := by decide +kernel
theorem dX2_nextOf_27 : decode cX2_nextOf 27 = .ok (.goto 4, 3) := by decide +kernel
theorem dX2_nextOf_30 : decode cX2_nextOf 30 = .ok (.iconst 0, 1) := by decide +kernel
theorem dX2_nextOf_31 : decode cX2_nextOf 31 = .ok (.istore 4, 2) := by decide +kernel
theorem dX2_nextOf_33 : decode cX2_nextOf 33 = .ok (.iload 4, 2) := by decide +kernel
theorem dX2_nextOf_35 : decode cX2_nextOf 35 = .ok (.ifCond .eq 23, 3) := by decide +kernel
theorem dX2_nextOf_38 : decode cX2_nextOf 38 = .ok (.iload_n 2, 1) := by decide +kernel
theorem dX2_nextOf_39 : decode cX2_nextOf 39 = .ok (.iconst (-1), 1) := by decide +kernel
theorem dX2_nextOf_40 : decode cX2_nextOf 40 = .ok (.if_icmp .eq 16, 3) := by decide +kernel
theorem dX2_nextOf_43 : decode cX2_nextOf 43 = .ok (.aload_n 0, 1) := by decide +kernel
theorem dX2_nextOf_44 : decode cX2_nextOf 44 = .ok (.getfield 9, 3) := by decide +kernel
theorem dX2_nextOf_47 : decode cX2_nextOf 47 = .ok (.iload_n 3, 1) := by decide +kernel
theorem dX2_nextOf_48 : decode cX2_nextOf 48 = .ok (.iload_n 1, 1) := by decide +kernel
theorem dX2_nextOf_49 : decode cX2_nextOf 49 = .ok (.iload_n 2, 1) := by decide +kernel
theorem dX2_nextOf_50 : decode cX2_nextOf 50 = .ok (.invokevirtual 87, 3) := by decide +kernel
theorem dX2_nextOf_53 : decode cX2_nextOf 53 = .ok (.ifCond .eq 5, 3) := by decide +kernel
theorem dX2_nextOf_56 : decode cX2_nextOf 56 = .ok (.iload_n 3, 1) := by decide +kernel
theorem dX2_nextOf_57 : decode cX2_nextOf 57 = .ok (.istore_n 2, 1) := by decide +kernel
theorem dX2_nextOf_58 : decode cX2_nextOf 58 = .ok (.iinc 3 1, 3) := by decide +kernel
theorem dX2_nextOf_61 : decode cX2_nextOf 61 = .ok (.goto (-57), 3) := by decide +kernel
theorem dX2_nextOf_64 : decode cX2_nextOf 64 = .ok (.iload_n 2, 1) := by decide +kernel
theorem dX2_nextOf_65 : decode cX2_nextOf 65 = .ok (.ireturn, 1) := by decide +kernel
def fX2_nextOf (a0 : Nat) (a1 : Int) (G : Hp) : RT := bd ((-1)) fun v1 => bd 0 fun v2 => (lp (fun (_ : Int) (_ : Int) => (none : RT)) 5000 (fun (rc5 : Int → Int → RT) (v3 : Int) (v4 : Int) => if v4 < 8 then (jn (fun (v6 : Int) => bd v6 fun v8 => jn (fun (v9 : Int) => bd (iadd v4 1) fun v11 => rc5 v9 v11) fun (K10 : Int → RT) => if v8 = 0 then K10 v3 else (jn (bd v4 fun v13 => K10 v13) fun (K12 : RT) => if v3 = ((-1)) then K12 else (bp (fX8_isBetween ((rf a0 0)) v4 a1 v3 G) fun v14 => if v14 = 0 then K10 v3 else K12))) fun (K7 : Int → RT) => jn (K7 0) fun (K15 : RT) => if v4 = a1 then K15 else (bp (fX6_isIn ((rf a0 1)) v4 G) fun v16 => if v16 = 0 then K15 else K7 1)) else rt v3 G)) v1 v2
theorem pX2_nextOf {G : Hp} {a0 : Nat} {a1 : Int} : PU G (fX2_nextOf a0 a1 G) := by
  unfold fX2_nextOf
  refine PU_bd (fun v1 => ?_)
  refine PU_bd (fun v2 => ?_)
  refine x_lp (fun (rc5 : Int → Int → RT) => ∀ (v3 : Int) (v4 : Int), PU G (rc5 v3 v4)) (fun _ _ => PU_none) (fun rc5 phrc5 v3 v4 => ?_) 5000 v1 v2
  refine PU_ite ?_ ?_
  · refine PU_jn (fun (K7 : Int → RT) => ∀ (v6 : Int), PU G (K7 v6)) ?_ (fun K7 phK7 => ?_)
    · intro v6
      refine PU_bd (fun v8 => ?_)
      refine PU_jn (fun (K10 : Int → RT) => ∀ (v9 : Int), PU G (K10 v9)) ?_ (fun K10 phK10 => ?_)
      · intro v9
        refine PU_bd (fun v11 => ?_)
        exact phrc5 v9 v11
      · refine PU_ite ?_ ?_
        · exact phK10 v3
        · refine PU_jn (fun (K12 : RT) => PU G (K12)) ?_ (fun K12 phK12 => ?_)
          · refine PU_bd (fun v13 => ?_)
            exact phK10 v13
          · refine PU_ite ?_ ?_
            · exact phK12
            · refine PU_bp (fun v14 => ?_)
              refine PU_ite ?_ ?_
              · exact phK10 v3
              · exact phK12
    · refine PU_jn (fun (K15 : RT) => PU G (K15)) ?_ (fun K15 phK15 => ?_)
      · exact phK7 0
      · refine PU_ite ?_ ?_
        · exact phK15
        · refine PU_bp (fun v16 => ?_)
          refine PU_ite ?_ ?_
          · exact phK15
          · exact phK7 1
  · exact PU_rt
set_option maxRecDepth 20000 in
set_option maxHeartbeats 4000000 in
theorem tX2_nextOf (l : Launch) (x : WX) (hi : Inj x.2.2) (G : Hp) (a0 : Nat) (a1 : Int) (ha0 : kd a0 = 2) : Ct l x yX2_nextOf cX2_nextOf 5 (some .int) 2 129 129 [vR a0, vI a1] G (fX2_nextOf a0 a1 G) := by
  refine ct_of (plainFor_of_name (by decide)) hi (Nat.le_refl _) (Nat.le_refl _) (Nat.le_of_ble_eq_true rfl) (fun cx F hd hn0 hnE hl hQ => ?_)
  subst hl
  have F : Fx cx x RX2 cX2_nextOf 5 (some .int) := F
  show Y cx x 5 (some .int) 129 0 [(0, vR a0), (1, vI a1)] [] G _
  unfold fX2_nextOf
  refine x_iconst F dX2_nextOf_0 ⟨by decide, by decide⟩ rfl ?_
  refine x_istore_n F dX2_nextOf_1 rfl (by decide) rfl rfl (fun v1 => ?_)
  show Y cx x _ _ _ _ [(0, vR a0), (1, vI a1), (2, vI v1)] _ _ _
  refine x_iconst F dX2_nextOf_2 ⟨by decide, by decide⟩ rfl ?_
  refine x_istore_n F dX2_nextOf_3 rfl (by decide) rfl rfl (fun v2 => ?_)
  show Y cx x _ _ _ _ [(0, vR a0), (1, vI a1), (2, vI v1), (3, vI v2)] _ _ _
  refine x_lp (fun (rc5 : Int → Int → RT) => ∀ (v3 : Int) (v4 : Int), Y cx x 5 (some .int) 129 4 [(0, vR a0), (1, vI a1), (2, vI v3), (3, vI v4)] [] G (rc5 v3 v4)) (fun _ _ => Y_none) (fun rc5 hrc5 v3 v4 => ?_) 5000 v1 v2
  refine x_iload_n F dX2_nextOf_4 rfl rfl rfl ?_
  refine x_bipush F dX2_nextOf_5 ⟨by decide, by decide⟩ (by decide) rfl ?_
  refine x_icmpge (pt := 64) F dX2_nextOf_7 rfl rfl ?_ ?_
  · refine x_iload_n F dX2_nextOf_10 rfl rfl rfl ?_
    refine x_iload_n F dX2_nextOf_11 rfl rfl rfl ?_
    refine x_jn (fun (K7 : Int → RT) => ∀ (v6 : Int), Y cx x 5 (some .int) 129 31 [(0, vR a0), (1, vI a1), (2, vI v3), (3, vI v4)] [vI v6] G (K7 v6)) ?_ (fun K7 hK7 => ?_)
    · intro v6
      refine x_istore F dX2_nextOf_31 (by decide) rfl rfl (fun v8 => ?_)
      show Y cx x _ _ _ _ [(0, vR a0), (1, vI a1), (2, vI v3), (3, vI v4), (4, vI v8)] _ _ _
      refine x_iload F dX2_nextOf_33 rfl rfl ?_
      refine x_jn (fun (K10 : Int → RT) => ∀ (v9 : Int), Y cx x 5 (some .int) 129 58 [(0, vR a0), (1, vI a1), (2, vI v9), (3, vI v4)] [] G (K10 v9)) ?_ (fun K10 hK10 => ?_)
      · intro v9
        refine x_iinc F dX2_nextOf_58 rfl (by decide) rfl rfl (fun v11 => ?_)
        show Y cx x _ _ _ _ [(0, vR a0), (1, vI a1), (2, vI v9), (3, vI v11)] _ _ _
        refine x_goto (pc' := 4) F dX2_nextOf_61 rfl ?_
        exact hrc5 v9 v11
      · refine x_ifeq (pt := 58) F dX2_nextOf_35 rfl rfl ?_ ?_
        · refine x_dp (L' := [(0, vR a0), (1, vI a1), (2, vI v3), (3, vI v4)]) [0, 1, 2, 3] rfl ?_
          exact hK10 v3
        · refine x_iload_n F dX2_nextOf_38 rfl rfl rfl ?_
          refine x_iconst F dX2_nextOf_39 ⟨by decide, by decide⟩ rfl ?_
          refine x_jn (fun (K12 : RT) => Y cx x 5 (some .int) 129 56 [(0, vR a0), (1, vI a1), (3, vI v4)] [] G K12) ?_ (fun K12 hK12 => ?_)
          · refine x_iload_n F dX2_nextOf_56 rfl rfl rfl ?_
            refine x_istore_n F dX2_nextOf_57 rfl (by decide) rfl rfl (fun v13 => ?_)
            show Y cx x _ _ _ _ [(0, vR a0), (1, vI a1), (3, vI v4), (2, vI v13)] _ _ _
            refine x_dp (L' := [(0, vR a0), (1, vI a1), (2, vI v13), (3, vI v4)]) [0, 1, 3, 2] rfl ?_
            exact hK10 v13
          · refine x_icmpeq (pt := 56) F dX2_nextOf_40 rfl rfl ?_ ?_
            · refine x_dp (L' := [(0, vR a0), (1, vI a1), (3, vI v4)]) [0, 1, 3] rfl ?_
              exact hK12
            · refine x_aload_n F dX2_nextOf_43 rfl rfl rfl ?_
              refine x_getR F flX2_9 ha0 rfl dX2_nextOf_44 rfl ?_
              refine x_iload_n F dX2_nextOf_47 rfl rfl rfl ?_
              refine x_iload_n F dX2_nextOf_48 rfl rfl rfl ?_
              refine x_iload_n F dX2_nextOf_49 rfl rfl rfl ?_
              refine s_callVP F [vI v4, vI a1, vI v3] [] lkX2_87 mX8_isBetween rfl (tf2_0 ha0).1 rfl hnE hn0 hd pX8_isBetween (tX8_isBetween cx.l x hi G ((rf a0 0)) v4 a1 v3 (tf2_0 ha0).1) rfl rfl dX2_nextOf_50 rfl rfl (fun v14 => ?_)
              refine x_ifeq (pt := 58) F dX2_nextOf_53 rfl rfl ?_ ?_
              · refine x_dp (L' := [(0, vR a0), (1, vI a1), (2, vI v3), (3, vI v4)]) [0, 1, 2, 3] rfl ?_
                exact hK10 v3
              · refine x_dp (L' := [(0, vR a0), (1, vI a1), (3, vI v4)]) [0, 1, 3] rfl ?_
                exact hK12
    · refine x_jn (fun (K15 : RT) => Y cx x 5 (some .int) 129 30 [(0, vR a0), (1, vI a1), (2, vI v3), (3, vI v4)] [] G K15) ?_ (fun K15 hK15 => ?_)
      · refine x_iconst F dX2_nextOf_30 ⟨by decide, by decide⟩ rfl ?_
        exact hK7 0
      · refine x_icmpeq (pt := 30) F dX2_nextOf_12 rfl rfl ?_ ?_
        · exact hK15
        · refine x_aload_n F dX2_nextOf_15 rfl rfl rfl ?_
          refine x_getR F flX2_15 ha0 rfl dX2_nextOf_16 rfl ?_
          refine x_iload_n F dX2_nextOf_19 rfl rfl rfl ?_
          refine s_callVP F [vI v4] [] lkX2_56 mX6_isIn rfl (tf2_1 ha0).1 rfl hnE hn0 hd pX6_isIn (tX6_isIn cx.l x hi G ((rf a0 1)) v4 (tf2_1 ha0).1) rfl rfl dX2_nextOf_20 rfl rfl (fun v16 => ?_)
          refine x_ifeq (pt := 30) F dX2_nextOf_23 rfl rfl ?_ ?_
          · exact hK15
          · refine x_iconst F dX2_nextOf_26 ⟨by decide, by decide⟩ rfl ?_
            refine x_goto (pc' := 31) F dX2_nextOf_27 rfl ?_
            exact hK7 1
  · refine x_iload_n F dX2_nextOf_64 rfl rfl rfl ?_
    exact x_iret F hnE hQ dX2_nextOf_65
theorem dX2_previousOf_0 : decode cX2_previousOf 0 = .ok (.iconst (-1), 1) := by decide +kernel
theorem dX2_previousOf_1 : decode cX2_previousOf 1 = .ok (.istore_n 2, 1) := by decide +kernel
theorem dX2_previousOf_2 : decode cX2_previousOf 2 = .ok (.iconst 0, 1) := by decide +kernel
theorem dX2_previousOf_3 : decode cX2_previousOf 3 = .ok (.istore_n 3, 1) := by decide +kernel
theorem dX2_previousOf_4 : decode cX2_previousOf 4 = .ok (.iload_n 3, 1) := by decide +kernel
theorem dX2_previousOf_5 : decode cX2_previousOf 5 = .ok (.bipush 8, 2) := by decide +kernel
theorem dX2_previousOf_7 : decode cX2_previousOf 7 = .ok (.if_icmp .ge 57, 3) := by decide +kernel
theorem dX2_previousOf_10 : decode cX2_previousOf 10 = .ok (.iload_n 3, 1) := by decide +kernel
theorem dX2_previousOf_11 : decode cX2_previousOf 11 = .ok (.iload_n 1, 1) := by decide +kernel
theorem dX2_previousOf_12 : decode cX2_previousOf 12 = .ok (.if_icmp .eq 18, 3) := by decide +kernel
theorem dX2_previousOf_15 : decode cX2_previousOf 15 = .ok (.aload_n 0, 1) := by decide +kernel
theorem dX2_previousOf_16 : decode cX2_previousOf 16 = .ok (.getfield 15, 3) := by decide +kernel
theorem dX2_previousOf_19 : decode cX2_previousOf 19 = .ok (.iload_n 3, 1) := by decide +kernel
theorem dX2_previousOf_20 : decode cX2_previousOf 20 = .ok (.invokevirtual 56, 3) := by decide +kernel
theorem dX2_previousOf_23 : decode cX2_previousOf 23 = .ok (.ifCond .eq 7, 3) := by decide +kernel
theorem dX2_previousOf_26 : decode cX2_previousOf 26 = .ok (.iconst 1, 1) := by decide +kernel
theorem dX2_previousOf_27 : decode cX2_previousOf 27 = .ok (.goto 4, 3) := by decide +kernel
theorem dX2_previousOf_30 : decode cX2_previousOf 30 = .ok (.iconst 0, 1) := by decide +kernel
theorem dX2_previousOf_31 : decode cX2_previousOf 31 = .ok (.istore 4, 2) := by decide +kernel
theorem dX2_previousOf_33 : decode cX2_previousOf 33 = .ok (.iload 4, 2) := by decide +kernel
theorem dX2_previousOf_35 : decode cX2_previousOf 35 = .ok (.ifCond .eq 23, 3) := by decide +kernel
theorem dX2_previousOf_38 : decode cX2_previousOf 38 = .ok (.iload_n 2, 1) := by decide +kernel
theorem dX2_previousOf_39 : decode cX2_previousOf 39 = .ok (.iconst (-1), 1) := by decide +kernel
theorem dX2_previousOf_40 : decode cX2_previousOf 40 = .ok (.if_icmp .eq 16, 3) := by decide +kernel
theorem dX2_previousOf_43 : decode cX2_previousOf 43 = .ok (.aload_n 0, 1) := by decide +kernel
theorem dX2_previousOf_44 : decode cX2_previousOf 44 = .ok (.getfield 9, 3) := by decide +kernel
theorem dX2_previousOf_47 : decode cX2_previousOf 47 = .ok (.iload_n 3, 1) := by decide +kernel
theorem dX2_previousOf_48 : decode cX2_previousOf 48 = .ok (.iload_n 2, 1) := by decide +kernel
theorem dX2_previousOf_49 : decode cX2_previousOf 49 = .ok (.iload_n 1, 1) := by decide +kernel
theorem dX2_previousOf_50 : decode cX2_previousOf 50 = .ok (.invokevirtual 87, 3) := by decide +kernel
theorem dX2_previousOf_53 : decode cX2_previousOf 53 = .ok (.ifCond .eq 5, 3) := by decide +kernel
theorem dX2_previousOf_56 : decode cX2_previousOf 56 = .ok (.iload_n 3, 1) := by decide +kernel
theorem dX2_previousOf_57 : decode cX2_previousOf 57 = .ok (.istore_n 2, 1) := by decide +kernel
theorem dX2_previousOf_58 : decode cX2_previousOf 58 = .ok (.iinc 3 1, 3) := by decide +kernel
theorem dX2_previousOf_61 : decode cX2_previousOf 61 = .ok (.goto (-57), 3) := by decide +kernel
theorem dX2_previousOf_64 : decode cX2_previousOf 64 = .ok (.iload_n 2, 1) := by decide +kernel
theorem dX2_previousOf_65 : decode cX2_previousOf 65 = .ok (.ireturn, 1) := by decide +kernel
def fX2_previousOf (a0 : Nat) (a1 : Int) (G : Hp) : RT := bd ((-1)) fun v1 => bd 0 fun v2 => (lp (fun (_ : Int) (_ : Int) => (none : RT)) 5000 (fun (rc5 : Int → Int → RT) (v3 : Int) (v4 : Int) => if v4 < 8 then (jn (fun (v6 : Int) => bd v6 fun v8 => jn (fun (v9 : Int) => bd (iadd v4 1) fun v11 => rc5 v9 v11) fun (K10 : Int → RT) => if v8 = 0 then K10 v3 else (jn (bd v4 fun v13 => K10 v13) fun (K12 : RT) => if v3 = ((-1)) then K12 else (bp (fX8_isBetween ((rf a0 0)) v4 v3 a1 G) fun v14 => if v14 = 0 then K10 v3 else K12))) fun (K7 : Int → RT) => jn (K7 0) fun (K15 : RT) => if v4 = a1 then K15 else (bp (fX6_isIn ((rf a0 1)) v4 G) fun v16 => if v16 = 0 then K15 else K7 1)) else rt v3 G)) v1 v2
theorem pX2_previousOf {G : Hp} {a0 : Nat} {a1 : Int} : PU G (fX2_previousOf a0 a1 G) := by
  unfold fX2_previousOf
  refine PU_bd (fun v1 => ?_)
  refine PU_bd (fun v2 => ?_)
  refine x_lp (fun (rc5 : Int → Int → RT) => ∀ (v3 : Int) (v4 : Int), PU G (rc5 v3 v4)) (fun _ _ => PU_none) (fun rc5 phrc5 v3 v4 => ?_) 5000 v1 v2
  refine PU_ite ?_ ?_
  · refine PU_jn (fun (K7 : Int → RT) => ∀ (v6 : Int), PU G (K7 v6)) ?_ (fun K7 phK7 => ?_)
    · intro v6
      refine PU_bd (fun v8 => ?_)
      refine PU_jn (fun (K10 : Int → RT) => ∀ (v9 : Int), PU G (K10 v9)) ?_ (fun K10 phK10 => ?_)
      · intro v9
        refine PU_bd (fun v11 => ?_)
        exact phrc5 v9 v11
      · refine PU_ite ?_ ?_
        · exact phK10 v3
        · refine PU_jn (fun (K12 : RT) => PU G (K12)) ?_ (fun K12 phK12 => ?_)
          · refine PU_bd (fun v13 => ?_)
            exact phK10 v13
          · refine PU_ite ?_ ?_
            · exact phK12
            · refine PU_bp (fun v14 => ?_)
              refine PU_ite ?_ ?_
              · exact phK10 v3
              · exact phK12
    · refine PU_jn (fun (K15 : RT) => PU G (K15)) ?_ (fun K15 phK15 => ?_)
      · exact phK7 0
      · refine PU_ite ?_ ?_
        · exact phK15
        · refine PU_bp (fun v16 => ?_)
          refine PU_ite ?_ ?_
          · exact phK15
          · exact phK7 1
  · exact PU_rt
set_option maxRecDepth 20000 in
set_option maxHeartbeats 4000000 in
theorem tX2_previousOf (l : Launch) (x : WX) (hi : Inj x.2.2) (G : Hp) (a0 : Nat) (a1 : Int) (ha0 : kd a0 = 2) : Ct l x yX2_previousOf cX2_previousOf 5 (some .int) 2 129 129 [vR a0, vI a1] G (fX2_previousOf a0 a1 G) := by
  refine ct_of (plainFor_of_name (by decide)) hi (Nat.le_refl _) (Nat.le_refl _) (Nat.le_of_ble_eq_true rfl) (fun cx F hd hn0 hnE hl hQ => ?_)
  subst hl
  have F : Fx cx x RX2 cX2_previousOf 5 (some .int) := F
  show Y cx x 5 (some .int) 129 0 [(0, vR a0), (1, vI a1)] [] G _
  unfold fX2_previousOf
  refine x_iconst F dX2_previousOf_0 ⟨by decide, by decide⟩ rfl ?_
  refine x_istore_n F dX2_previousOf_1 rfl (by decide) rfl rfl (fun v1 => ?_)
  show Y cx x _ _ _ _ [(0, vR a0), (1, vI a1), (2, vI v1)] _ _ _
  refine x_iconst F dX2_previousOf_2 ⟨by decide, by decide⟩ rfl ?_
  refine x_istore_n F dX2_previousOf_3 rfl (by decide) rfl rfl (fun v2 => ?_)
  show Y cx x _ _ _ _ [(0, vR a0), (1, vI a1), (2, vI v1), (3, vI v2)] _ _ _
  refine x_lp (fun (rc5 : Int → Int → RT) => ∀ (v3 : Int) (v4 : Int), Y cx x 5 (some .int) 129 4 [(0, vR a0), (1, vI a1), (2, vI v3), (3, vI v4)] [] G (rc5 v3 v4)) (fun _ _ => Y_none) (fun rc5 hrc5 v3 v4 => ?_) 5000 v1 v2
  refine x_iload_n F dX2_previousOf_4 rfl rfl rfl ?_
  refine x_bipush F dX2_previousOf_5 ⟨by decide, by decide⟩ (by decide) rfl ?_
  refine x_icmpge (pt := 64) F dX2_previousOf_7 rfl rfl ?_ ?_
  · refine x_iload_n F dX2_previousOf_10 rfl rfl rfl ?_
    refine x_iload_n F dX2_previousOf_11 rfl rfl rfl ?_
    refine x_jn (fun (K7 : Int → RT) => ∀ (v6 : Int), Y cx x 5 (some .int) 129 31 [(0, vR a0), (1, vI a1), (2, vI v3), (3, vI v4)] [vI v6] G (K7 v6)) ?_ (fun K7 hK7 => ?_)
    · intro v6
      refine x_istore F dX2_previousOf_31 (by decide) rfl rfl (fun v8 => ?_)
      show Y cx x _ _ _ _ [(0, vR a0), (1, vI a1), (2, vI v3), (3, vI v4), (4, vI v8)] _ _ _
      refine x_iload F dX2_previousOf_33 rfl rfl ?_
      refine x_jn (fun (K10 : Int → RT) => ∀ (v9 : Int), Y cx x 5 (some .int) 129 58 [(0, vR a0), (1, vI a1), (2, vI v9), (3, vI v4)] [] G (K10 v9)) ?_ (fun K10 hK10 => ?_)
      · intro v9
        refine x_iinc F dX2_previousOf_58 rfl (by decide) rfl rfl (fun v11 => ?_)
        show Y cx x _ _ _ _ [(0, vR a0), (1, vI a1), (2, vI v9), (3, vI v11)] _ _ _
        refine x_goto (pc' := 4) F dX2_previousOf_61 rfl ?_
        exact hrc5 v9 v11
      · refine x_ifeq (pt := 58) F dX2_previousOf_35 rfl rfl ?_ ?_
        · refine x_dp (L' := [(0, vR a0), (1, vI a1), (2, vI v3), (3, vI v4)]) [0, 1, 2, 3] rfl ?_
          exact hK10 v3
        · refine x_iload_n F dX2_previousOf_38 rfl rfl rfl ?_
          refine x_iconst F dX2_previousOf_39 ⟨by decide, by decide⟩ rfl ?_
          refine x_jn (fun (K12 : RT) => Y cx x 5 (some .int) 129 56 [(0, vR a0), (1, vI a1), (3, vI v4)] [] G K12) ?_ (fun K12 hK12 => ?_)
          · refine x_iload_n F dX2_previousOf_56 rfl rfl rfl ?_
            refine x_istore_n F dX2_previousOf_57 rfl (by decide) rfl rfl (fun v13 => ?_)
            show Y cx x _ _ _ _ [(0, vR a0), (1, vI a1), (3, vI v4), (2, vI v13)] _ _ _
            refine x_dp (L' := [(0, vR a0), (1, vI a1), (2, vI v13), (3, vI v4)]) [0, 1, 3, 2] rfl ?_
            exact hK10 v13
          · refine x_icmpeq (pt := 56) F dX2_previousOf_40 rfl rfl ?_ ?_
            · refine x_dp (L' := [(0, vR a0), (1, vI a1), (3, vI v4)]) [0, 1, 3] rfl ?_
              exact hK12
            · refine x_aload_n F dX2_previousOf_43 rfl rfl rfl ?_
              refine x_getR F flX2_9 ha0 rfl dX2_previousOf_44 rfl ?_
              refine x_iload_n F dX2_previousOf_47 rfl rfl rfl ?_
              refine x_iload_n F dX2_previousOf_48 rfl rfl rfl ?_
              refine x_iload_n F dX2_previousOf_49 rfl rfl rfl ?_
              refine s_callVP F [vI v4, vI v3, vI a1] [] lkX2_87 mX8_isBetween rfl (tf2_0 ha0).1 rfl hnE hn0 hd pX8_isBetween (tX8_isBetween cx.l x hi G ((rf a0 0)) v4 v3 a1 (tf2_0 ha0).1) rfl rfl dX2_previousOf_50 rfl rfl (fun v14 => ?_)
              refine x_ifeq (pt := 58) F dX2_previousOf_53 rfl rfl ?_ ?_
              · refine x_dp (L' := [(0, vR a0), (1, vI a1), (2, vI v3), (3, vI v4)]) [0, 1, 2, 3] rfl ?_
                exact hK10 v3
              · refine x_dp (L' := [(0, vR a0), (1, vI a1), (3, vI v4)]) [0, 1, 3] rfl ?_
                exact hK12
    · refine x_jn (fun (K15 : RT) => Y cx x 5 (some .int) 129 30 [(0, vR a0), (1, vI a1), (2, vI v3), (3, vI v4)] [] G K15) ?_ (fun K15 hK15 => ?_)
      · refine x_iconst F dX2_previousOf_30 ⟨by decide, by decide⟩ rfl ?_
        exact hK7 0
      · refine x_icmpeq (pt := 30) F dX2_previousOf_12 rfl rfl ?_ ?_
        · exact hK15
        · refine x_aload_n F dX2_previousOf_15 rfl rfl rfl ?_
          refine x_getR F flX2_15 ha0 rfl dX2_previousOf_16 rfl ?_
          refine x_iload_n F dX2_previousOf_19 rfl rfl rfl ?_
          refine s_callVP F [vI v4] [] lkX2_56 mX6_isIn rfl (tf2_1 ha0).1 rfl hnE hn0 hd pX6_isIn (tX6_isIn cx.l x hi G ((rf a0 1)) v4 (tf2_1 ha0).1) rfl rfl dX2_previousOf_20 rfl rfl (fun v16 => ?_)
          refine x_ifeq (pt := 30) F dX2_previousOf_23 rfl rfl ?_ ?_
          · exact hK15
          · refine x_iconst F dX2_previousOf_26 ⟨by decide, by decide⟩ rfl ?_
            refine x_goto (pc' := 31) F dX2_previousOf_27 rfl ?_
            exact hK7 1
  · refine x_iload_n F dX2_previousOf_64 rfl rfl rfl ?_
    exact x_iret F hnE hQ dX2_previousOf_65
theorem dX2_wrongFingers_0 : decode cX2_wrongFingers 0 = .ok (.iconst 0, 1) := by decide +kernel
theorem dX2_wrongFingers_1 : decode cX2_wrongFingers 1 = .ok (.istore_n 2, 1) := by decide +kernel
theorem dX2_wrongFingers_2 : decode cX2_wrongFingers 2 = .ok (.iconst 0, 1) := by decide +kernel
theorem dX2_wrongFingers_3 : decode cX2_wrongFingers 3 = .ok (.istore_n 3, 1) := by decide +kernel
theorem dX2_wrongFingers_4 : decode cX2_wrongFingers 4 = .ok (.iload_n 3, 1) := by decide +kernel
theorem dX2_wrongFingers_5 : decode cX2_wrongFingers 5 = .ok (.bipush 8, 2) := by decide +kernel
theorem dX2_wrongFingers_7 : decode cX2_wrongFingers 7 = .ok (.if_icmp .ge 57, 3) := by decide +kernel
theorem dX2_wrongFingers_10 : decode cX2_wrongFingers 10 = .ok (.aload_n 0, 1) := by decide +kernel
theorem dX2_wrongFingers_11 : decode cX2_wrongFingers 11 = .ok (.getfield 9, 3) := by decide +kernel
theorem dX2_wrongFingers_14 : decode cX2_wrongFingers 14 = .ok (.iload_n 1, 1) := by decide +kernel
theorem dX2_wrongFingers_15 : decode cX2_wrongFingers 15 = .ok (.iload_n 3, 1) := by decide +kernel
theorem dX2_wrongFingers_16 : decode cX2_wrongFingers 16 = .ok (.invokevirtual 103, 3) := by decide +kernel
theorem dX2_wrongFingers_19 : decode cX2_wrongFingers 19 = .ok (.istore 4, 2) := by decide +kernel
theorem dX2_wrongFingers_21 : decode cX2_wrongFingers 21 = .ok (.iload 4, 2) := by decide +kernel
theorem dX2_wrongFingers_23 : decode cX2_wrongFingers 23 = .ok (.iconst (-1), 1) := by decide +kernel
theorem dX2_wrongFingers_24 : decode cX2_wrongFingers 24 = .ok (.if_icmp .eq 34, 3) := by decide +kernel
theorem dX2_wrongFingers_27 : decode cX2_wrongFingers 27 = .ok (.aload_n 0, 1) := by decide +kernel
theorem dX2_wrongFingers_28 : decode cX2_wrongFingers 28 = .ok (.getfield 15, 3) := by decide +kernel
theorem dX2_wrongFingers_31 : decode cX2_wrongFingers 31 = .ok (.iload_n 1, 1) := by decide +kernel
theorem dX2_wrongFingers_32 : decode cX2_wrongFingers 32 = .ok (.iload_n 3, 1) := by decide +kernel
theorem dX2_wrongFingers_33 : decode cX2_wrongFingers 33 = .ok (.invokevirtual 106, 3) := by decide +kernel
theorem dX2_wrongFingers_36 : decode cX2_wrongFingers 36 = .ok (.aload_n 0, 1) := by decide +kernel
theorem dX2_wrongFingers_37 : decode cX2_wrongFingers 37 = .ok (.iload 4, 2) := by decide +kernel
theorem dX2_wrongFingers_39 : decode cX2_wrongFingers 39 = .ok (.aload_n 0, 1) := by decide +kernel
theorem dX2_wrongFingers_40 : decode cX2_wrongFingers 40 = .ok (.getfield 15, 3) := by decide +kernel
theorem dX2_wrongFingers_43 : decode cX2_wrongFingers 43 = .ok (.getfield 50, 3) := by decide +kernel
theorem dX2_wrongFingers_46 : decode cX2_wrongFingers 46 = .ok (.invokevirtual 53, 3) := by decide +kernel
theorem dX2_wrongFingers_49 : decode cX2_wrongFingers 49 = .ok (.if_icmp .eq 9, 3) := by decide +kernel
theorem dX2_wrongFingers_52 : decode cX2_wrongFingers 52 = .ok (.iload_n 2, 1) := by decide +kernel
theorem dX2_wrongFingers_53 : decode cX2_wrongFingers 53 = .ok (.iconst 1, 1) := by decide +kernel
theorem dX2_wrongFingers_54 : decode cX2_wrongFingers 54 = .ok (.iload_n 3, 1) := by decide +kernel
theorem dX2_wrongFingers_55 : decode cX2_wrongFingers 55 = .ok (.ishl, 1) := by decide +kernel
theorem dX2_wrongFingers_56 : decode cX2_wrongFingers 56 = .ok (.ior, 1) := by decide +kernel
theorem dX2_wrongFingers_57 : decode cX2_wrongFingers 57 = .ok (.istore_n 2, 1) := by decide +kernel
theorem dX2_wrongFingers_58 : decode cX2_wrongFingers 58 = .ok (.iinc 3 1, 3) := by decide +kernel
theorem dX2_wrongFingers_61 : decode cX2_wrongFingers 61 = .ok (.goto (-57), 3) := by decide +kernel
theorem dX2_wrongFingers_64 : decode cX2_wrongFingers 64 = .ok (.iload_n 2, 1) := by decide +kernel
theorem dX2_wrongFingers_65 : decode cX2_wrongFingers 65 = .ok (.ireturn, 1) := by decide +kernel
def fX2_wrongFingers (a0 : Nat) (a1 : Int) (G : Hp) : RT := bd 0 fun v1 => bd 0 fun v2 => (lp (fun (_ : Int) (_ : Int) => (none : RT)) 5000 (fun (rc5 : Int → Int → RT) (v3 : Int) (v4 : Int) => if v4 < 8 then (bp (fX8_fingerPlace ((rf a0 0)) a1 v4 G) fun v6 => bd v6 fun v7 => jn (fun (v8 : Int) => bd (iadd v4 1) fun v10 => rc5 v8 v10) fun (K9 : Int → RT) => if v7 = ((-1)) then K9 v3 else (bp (fX6_fingerAt ((rf a0 1)) a1 v4 G) fun v11 => bp (fX2_ownerOf a0 v7 (G ((rf a0 1)) 1) G) fun v12 => if v11 = v12 then K9 v3 else (bd (ior v3 (ishl 1 v4)) fun v13 => K9 v13))) else rt v3 G)) v1 v2
theorem pX2_wrongFingers {G : Hp} {a0 : Nat} {a1 : Int} : PU G (fX2_wrongFingers a0 a1 G) := by
  unfold fX2_wrongFingers
  refine PU_bd (fun v1 => ?_)
  refine PU_bd (fun v2 => ?_)
  refine x_lp (fun (rc5 : Int → Int → RT) => ∀ (v3 : Int) (v4 : Int), PU G (rc5 v3 v4)) (fun _ _ => PU_none) (fun rc5 phrc5 v3 v4 => ?_) 5000 v1 v2
  refine PU_ite ?_ ?_
  · refine PU_bp (fun v6 => ?_)
    refine PU_bd (fun v7 => ?_)
    refine PU_jn (fun (K9 : Int → RT) => ∀ (v8 : Int), PU G (K9 v8)) ?_ (fun K9 phK9 => ?_)
    · intro v8
      refine PU_bd (fun v10 => ?_)
      exact phrc5 v8 v10
    · refine PU_ite ?_ ?_
      · exact phK9 v3
      · refine PU_bp (fun v11 => ?_)
        refine PU_bp (fun v12 => ?_)
        refine PU_ite ?_ ?_
        · exact phK9 v3
        · refine PU_bd (fun v13 => ?_)
          exact phK9 v13
  · exact PU_rt
set_option maxRecDepth 20000 in
set_option maxHeartbeats 4000000 in
theorem tX2_wrongFingers (l : Launch) (x : WX) (hi : Inj x.2.2) (G : Hp) (a0 : Nat) (a1 : Int) (ha0 : kd a0 = 2) : Ct l x yX2_wrongFingers cX2_wrongFingers 5 (some .int) 2 129 129 [vR a0, vI a1] G (fX2_wrongFingers a0 a1 G) := by
  refine ct_of (plainFor_of_name (by decide)) hi (Nat.le_refl _) (Nat.le_refl _) (Nat.le_of_ble_eq_true rfl) (fun cx F hd hn0 hnE hl hQ => ?_)
  subst hl
  have F : Fx cx x RX2 cX2_wrongFingers 5 (some .int) := F
  show Y cx x 5 (some .int) 129 0 [(0, vR a0), (1, vI a1)] [] G _
  unfold fX2_wrongFingers
  refine x_iconst F dX2_wrongFingers_0 ⟨by decide, by decide⟩ rfl ?_
  refine x_istore_n F dX2_wrongFingers_1 rfl (by decide) rfl rfl (fun v1 => ?_)
  show Y cx x _ _ _ _ [(0, vR a0), (1, vI a1), (2, vI v1)] _ _ _
  refine x_iconst F dX2_wrongFingers_2 ⟨by decide, by decide⟩ rfl ?_
  refine x_istore_n F dX2_wrongFingers_3 rfl (by decide) rfl rfl (fun v2 => ?_)
  show Y cx x _ _ _ _ [(0, vR a0), (1, vI a1), (2, vI v1), (3, vI v2)] _ _ _
  refine x_lp (fun (rc5 : Int → Int → RT) => ∀ (v3 : Int) (v4 : Int), Y cx x 5 (some .int) 129 4 [(0, vR a0), (1, vI a1), (2, vI v3), (3, vI v4)] [] G (rc5 v3 v4)) (fun _ _ => Y_none) (fun rc5 hrc5 v3 v4 => ?_) 5000 v1 v2
  refine x_iload_n F dX2_wrongFingers_4 rfl rfl rfl ?_
  refine x_bipush F dX2_wrongFingers_5 ⟨by decide, by decide⟩ (by decide) rfl ?_
  refine x_icmpge (pt := 64) F dX2_wrongFingers_7 rfl rfl ?_ ?_
  · refine x_aload_n F dX2_wrongFingers_10 rfl rfl rfl ?_
    refine x_getR F flX2_9 ha0 rfl dX2_wrongFingers_11 rfl ?_
    refine x_iload_n F dX2_wrongFingers_14 rfl rfl rfl ?_
    refine x_iload_n F dX2_wrongFingers_15 rfl rfl rfl ?_
    refine s_callVP F [vI a1, vI v4] [] lkX2_103 mX8_fingerPlace rfl (tf2_0 ha0).1 rfl hnE hn0 hd pX8_fingerPlace (tX8_fingerPlace cx.l x hi G ((rf a0 0)) a1 v4 (tf2_0 ha0).1) rfl rfl dX2_wrongFingers_16 rfl rfl (fun v6 => ?_)
    refine x_istore F dX2_wrongFingers_19 (by decide) rfl rfl (fun v7 => ?_)
    show Y cx x _ _ _ _ [(0, vR a0), (1, vI a1), (2, vI v3), (3, vI v4), (4, vI v7)] _ _ _
    refine x_iload F dX2_wrongFingers_21 rfl rfl ?_
    refine x_iconst F dX2_wrongFingers_23 ⟨by decide, by decide⟩ rfl ?_
    refine x_jn (fun (K9 : Int → RT) => ∀ (v8 : Int), Y cx x 5 (some .int) 129 58 [(0, vR a0), (1, vI a1), (2, vI v8), (3, vI v4)] [] G (K9 v8)) ?_ (fun K9 hK9 => ?_)
    · intro v8
      refine x_iinc F dX2_wrongFingers_58 rfl (by decide) rfl rfl (fun v10 => ?_)
      show Y cx x _ _ _ _ [(0, vR a0), (1, vI a1), (2, vI v8), (3, vI v10)] _ _ _
      refine x_goto (pc' := 4) F dX2_wrongFingers_61 rfl ?_
      exact hrc5 v8 v10
    · refine x_icmpeq (pt := 58) F dX2_wrongFingers_24 rfl rfl ?_ ?_
      · refine x_dp (L' := [(0, vR a0), (1, vI a1), (2, vI v3), (3, vI v4)]) [0, 1, 2, 3] rfl ?_
        exact hK9 v3
      · refine x_aload_n F dX2_wrongFingers_27 rfl rfl rfl ?_
        refine x_getR F flX2_15 ha0 rfl dX2_wrongFingers_28 rfl ?_
        refine x_iload_n F dX2_wrongFingers_31 rfl rfl rfl ?_
        refine x_iload_n F dX2_wrongFingers_32 rfl rfl rfl ?_
        refine s_callVP F [vI a1, vI v4] [] lkX2_106 mX6_fingerAt rfl (tf2_1 ha0).1 rfl hnE hn0 hd pX6_fingerAt (tX6_fingerAt cx.l x hi G ((rf a0 1)) a1 v4 (tf2_1 ha0).1) rfl rfl dX2_wrongFingers_33 rfl rfl (fun v11 => ?_)
        refine x_aload_n F dX2_wrongFingers_36 rfl rfl rfl ?_
        refine x_iload F dX2_wrongFingers_37 rfl rfl ?_
        refine x_aload_n F dX2_wrongFingers_39 rfl rfl rfl ?_
        refine x_getR F flX2_15 ha0 rfl dX2_wrongFingers_40 rfl ?_
        refine s_getI F flX2_50 (tf2_1 ha0).1 rfl dX2_wrongFingers_43 rfl ?_
        refine s_callVP F [vI v7, vI (G ((rf a0 1)) 1)] [vI v11] lkX2_53 mX2_ownerOf rfl ha0 rfl hnE hn0 hd pX2_ownerOf (tX2_ownerOf cx.l x hi G a0 v7 (G ((rf a0 1)) 1) ha0) rfl rfl dX2_wrongFingers_46 rfl rfl (fun v12 => ?_)
        refine x_icmpeq (pt := 58) F dX2_wrongFingers_49 rfl rfl ?_ ?_
        · refine x_dp (L' := [(0, vR a0), (1, vI a1), (2, vI v3), (3, vI v4)]) [0, 1, 2, 3] rfl ?_
          exact hK9 v3
        · refine x_iload_n F dX2_wrongFingers_52 rfl rfl rfl ?_
          refine x_iconst F dX2_wrongFingers_53 ⟨by decide, by decide⟩ rfl ?_
          refine x_iload_n F dX2_wrongFingers_54 rfl rfl rfl ?_
          refine x_ishl F dX2_wrongFingers_55 rfl ?_
          refine x_ior F dX2_wrongFingers_56 rfl ?_
          refine x_dp (L' := [(0, vR a0), (1, vI a1), (2, vI v3), (3, vI v4)]) [0, 1, 2, 3] rfl ?_
          refine x_istore_n F dX2_wrongFingers_57 rfl (by decide) rfl rfl (fun v13 => ?_)
          show Y cx x _ _ _ _ [(0, vR a0), (1, vI a1), (2, vI v13), (3, vI v4)] _ _ _
          exact hK9 v13
  · refine x_iload_n F dX2_wrongFingers_64 rfl rfl rfl ?_
    exact x_iret F hnE hQ dX2_wrongFingers_65
theorem dX2_reachedFrom_0 : decode cX2_reachedFrom 0 = .ok (.iconst 1, 1) := by decide +kernel
theorem dX2_reachedFrom_1 : decode cX2_reachedFrom 1 = .ok (.iload_n 1, 1) := by decide +kernel
theorem dX2_reachedFrom_2 : decode cX2_reachedFrom 2 = .ok (.ishl, 1) := by decide +kernel
theorem dX2_reachedFrom_3 : decode cX2_reachedFrom 3 = .ok (.istore_n 2, 1) := by decide +kernel
theorem dX2_reachedFrom_4 : decode cX2_reachedFrom 4 = .ok (.iconst 0, 1) := by decide +kernel
theorem dX2_reachedFrom_5 : decode cX2_reachedFrom 5 = .ok (.istore_n 3, 1) := by decide +kernel
theorem dX2_reachedFrom_6 : decode cX2_reachedFrom 6 = .ok (.iload_n 3, 1) := by decide +kernel
theorem dX2_reachedFrom_7 : decode cX2_reachedFrom 7 = .ok (.bipush 8, 2) := by decide +kernel
theorem dX2_reachedFrom_9 : decode cX2_reachedFrom 9 = .ok (.if_icmp .ge 47, 3) := by decide +kernel
theorem dX2_reachedFrom_12 : decode cX2_reachedFrom 12 = .ok (.iconst 0, 1) := by decide +kernel
theorem dX2_reachedFrom_13 : decode cX2_reachedFrom 13 = .ok (.istore 4, 2) := by decide +kernel
theorem dX2_reachedFrom_15 : decode cX2_reachedFrom 15 = .ok (.iload 4, 2) := by decide +kernel
theorem dX2_reachedFrom_17 : decode cX2_reachedFrom 17 = .ok (.bipush 8, 2) := by decide +kernel
theorem dX2_reachedFrom_19 : decode cX2_reachedFrom 19 = .ok (.if_icmp .ge 31, 3) := by decide +kernel
theorem dX2_reachedFrom_22 : decode cX2_reachedFrom 22 = .ok (.iload_n 2, 1) := by decide +kernel
theorem dX2_reachedFrom_23 : decode cX2_reachedFrom 23 = .ok (.iload_n 2, 1) := by decide +kernel
theorem dX2_reachedFrom_24 : decode cX2_reachedFrom 24 = .ok (.iload 4, 2) := by decide +kernel
theorem dX2_reachedFrom_26 : decode cX2_reachedFrom 26 = .ok (.invokestatic 23, 3) := by decide +kernel
theorem dX2_reachedFrom_29 : decode cX2_reachedFrom 29 = .ok (.ifCond .eq 12, 3) := by decide +kernel
theorem dX2_reachedFrom_32 : decode cX2_reachedFrom 32 = .ok (.aload_n 0, 1) := by decide +kernel
theorem dX2_reachedFrom_33 : decode cX2_reachedFrom 33 = .ok (.iload 4, 2) := by decide +kernel
theorem dX2_reachedFrom_35 : decode cX2_reachedFrom 35 = .ok (.invokevirtual 126, 3) := by decide +kernel
theorem dX2_reachedFrom_38 : decode cX2_reachedFrom 38 = .ok (.goto 4, 3) := by decide +kernel
theorem dX2_reachedFrom_41 : decode cX2_reachedFrom 41 = .ok (.iconst 0, 1) := by decide +kernel
theorem dX2_reachedFrom_42 : decode cX2_reachedFrom 42 = .ok (.ior, 1) := by decide +kernel
theorem dX2_reachedFrom_43 : decode cX2_reachedFrom 43 = .ok (.istore_n 2, 1) := by decide +kernel
theorem dX2_reachedFrom_44 : decode cX2_reachedFrom 44 = .ok (.iinc 4 1, 3) := by decide +kernel
theorem dX2_reachedFrom_47 : decode cX2_reachedFrom 47 = .ok (.goto (-32), 3) := by decide +kernel
theorem dX2_reachedFrom_50 : decode cX2_reachedFrom 50 = .ok (.iinc 3 1, 3) := by decide +kernel
theorem dX2_reachedFrom_53 : decode cX2_reachedFrom 53 = .ok (.goto (-47), 3) := by decide +kernel
theorem dX2_reachedFrom_56 : decode cX2_reachedFrom 56 = .ok (.iload_n 2, 1) := by decide +kernel
theorem dX2_reachedFrom_57 : decode cX2_reachedFrom 57 = .ok (.ireturn, 1) := by decide +kernel
def fX2_reachedFrom (a0 : Nat) (a1 : Int) (G : Hp) : RT := bd (ishl 1 a1) fun v1 => bd 0 fun v2 => (lp (fun (_ : Int) (_ : Int) => (none : RT)) 5000 (fun (rc5 : Int → Int → RT) (v3 : Int) (v4 : Int) => if v4 < 8 then (bd 0 fun v6 => (lp (fun (_ : Int) (_ : Int) => (none : RT)) 5000 (fun (rc9 : Int → Int → RT) (v7 : Int) (v8 : Int) => if v8 < 8 then (bp (fX2_has v7 v8 G) fun v11 => jn (fun (v12 : Int) => bd (ior v7 v12) fun v14 => bd (iadd v8 1) fun v15 => rc9 v14 v15) fun (K13 : Int → RT) => if v11 = 0 then K13 0 else (bp (fX2_knownBy a0 v8 G) fun v16 => K13 v16)) else (bd (iadd v4 1) fun v10 => rc5 v7 v10))) v3 v6) else rt v3 G)) v1 v2
theorem pX2_reachedFrom {G : Hp} {a0 : Nat} {a1 : Int} : PU G (fX2_reachedFrom a0 a1 G) := by
  unfold fX2_reachedFrom
  refine PU_bd (fun v1 => ?_)
  refine PU_bd (fun v2 => ?_)
  refine x_lp (fun (rc5 : Int → Int → RT) => ∀ (v3 : Int) (v4 : Int), PU G (rc5 v3 v4)) (fun _ _ => PU_none) (fun rc5 phrc5 v3 v4 => ?_) 5000 v1 v2
  refine PU_ite ?_ ?_
  · refine PU_bd (fun v6 => ?_)
    refine x_lp (fun (rc9 : Int → Int → RT) => ∀ (v7 : Int) (v8 : Int), PU G (rc9 v7 v8)) (fun _ _ => PU_none) (fun rc9 phrc9 v7 v8 => ?_) 5000 v3 v6
    refine PU_ite ?_ ?_
    · refine PU_bp (fun v11 => ?_)
      refine PU_jn (fun (K13 : Int → RT) => ∀ (v12 : Int), PU G (K13 v12)) ?_ (fun K13 phK13 => ?_)
      · intro v12
        refine PU_bd (fun v14 => ?_)
        refine PU_bd (fun v15 => ?_)
        exact phrc9 v14 v15
      · refine PU_ite ?_ ?_
        · exact phK13 0
        · refine PU_bp (fun v16 => ?_)
          exact phK13 v16
    · refine PU_bd (fun v10 => ?_)
      exact phrc5 v7 v10
  · exact PU_rt
set_option maxRecDepth 20000 in
set_option maxHeartbeats 4000000 in
theorem tX2_reachedFrom (l : Launch) (x : WX) (hi : Inj x.2.2) (G : Hp) (a0 : Nat) (a1 : Int) (ha0 : kd a0 = 2) : Ct l x yX2_reachedFrom cX2_reachedFrom 5 (some .int) 2 129 129 [vR a0, vI a1] G (fX2_reachedFrom a0 a1 G) := by
  refine ct_of (plainFor_of_name (by decide)) hi (Nat.le_refl _) (Nat.le_refl _) (Nat.le_of_ble_eq_true rfl) (fun cx F hd hn0 hnE hl hQ => ?_)
  subst hl
  have F : Fx cx x RX2 cX2_reachedFrom 5 (some .int) := F
  show Y cx x 5 (some .int) 129 0 [(0, vR a0), (1, vI a1)] [] G _
  unfold fX2_reachedFrom
  refine x_iconst F dX2_reachedFrom_0 ⟨by decide, by decide⟩ rfl ?_
  refine x_iload_n F dX2_reachedFrom_1 rfl rfl rfl ?_
  refine x_ishl F dX2_reachedFrom_2 rfl ?_
  refine x_dp (L' := [(0, vR a0)]) [0] rfl ?_
  refine x_istore_n F dX2_reachedFrom_3 rfl (by decide) rfl rfl (fun v1 => ?_)
  show Y cx x _ _ _ _ [(0, vR a0), (2, vI v1)] _ _ _
  refine x_iconst F dX2_reachedFrom_4 ⟨by decide, by decide⟩ rfl ?_
  refine x_istore_n F dX2_reachedFrom_5 rfl (by decide) rfl rfl (fun v2 => ?_)
  show Y cx x _ _ _ _ [(0, vR a0), (2, vI v1), (3, vI v2)] _ _ _
  refine x_lp (fun (rc5 : Int → Int → RT) => ∀ (v3 : Int) (v4 : Int), Y cx x 5 (some .int) 129 6 [(0, vR a0), (2, vI v3), (3, vI v4)] [] G (rc5 v3 v4)) (fun _ _ => Y_none) (fun rc5 hrc5 v3 v4 => ?_) 5000 v1 v2
  refine x_iload_n F dX2_reachedFrom_6 rfl rfl rfl ?_
  refine x_bipush F dX2_reachedFrom_7 ⟨by decide, by decide⟩ (by decide) rfl ?_
  refine x_icmpge (pt := 56) F dX2_reachedFrom_9 rfl rfl ?_ ?_
  · refine x_iconst F dX2_reachedFrom_12 ⟨by decide, by decide⟩ rfl ?_
    refine x_istore F dX2_reachedFrom_13 (by decide) rfl rfl (fun v6 => ?_)
    show Y cx x _ _ _ _ [(0, vR a0), (2, vI v3), (3, vI v4), (4, vI v6)] _ _ _
    refine x_lp (fun (rc9 : Int → Int → RT) => ∀ (v7 : Int) (v8 : Int), Y cx x 5 (some .int) 129 15 [(0, vR a0), (2, vI v7), (3, vI v4), (4, vI v8)] [] G (rc9 v7 v8)) (fun _ _ => Y_none) (fun rc9 hrc9 v7 v8 => ?_) 5000 v3 v6
    refine x_iload F dX2_reachedFrom_15 rfl rfl ?_
    refine x_bipush F dX2_reachedFrom_17 ⟨by decide, by decide⟩ (by decide) rfl ?_
    refine x_icmpge (pt := 50) F dX2_reachedFrom_19 rfl rfl ?_ ?_
    · refine x_iload_n F dX2_reachedFrom_22 rfl rfl rfl ?_
      refine x_iload_n F dX2_reachedFrom_23 rfl rfl rfl ?_
      refine x_iload F dX2_reachedFrom_24 rfl rfl ?_
      refine s_callSP F [vI v7, vI v8] [vI v7] lkX2_23 mX2_has hnE hn0 hd pX2_has (tX2_has cx.l x hi G v7 v8) rfl rfl dX2_reachedFrom_26 rfl rfl (fun v11 => ?_)
      refine x_jn (fun (K13 : Int → RT) => ∀ (v12 : Int), Y cx x 5 (some .int) 129 42 [(0, vR a0), (3, vI v4), (4, vI v8)] [vI v12, vI v7] G (K13 v12)) ?_ (fun K13 hK13 => ?_)
      · intro v12
        refine x_ior F dX2_reachedFrom_42 rfl ?_
        refine x_istore_n F dX2_reachedFrom_43 rfl (by decide) rfl rfl (fun v14 => ?_)
        show Y cx x _ _ _ _ [(0, vR a0), (3, vI v4), (4, vI v8), (2, vI v14)] _ _ _
        refine x_iinc F dX2_reachedFrom_44 rfl (by decide) rfl rfl (fun v15 => ?_)
        show Y cx x _ _ _ _ [(0, vR a0), (3, vI v4), (4, vI v15), (2, vI v14)] _ _ _
        refine x_goto (pc' := 15) F dX2_reachedFrom_47 rfl ?_
        refine x_dp (L' := [(0, vR a0), (2, vI v14), (3, vI v4), (4, vI v15)]) [0, 3, 1, 2] rfl ?_
        exact hrc9 v14 v15
      · refine x_ifeq (pt := 41) F dX2_reachedFrom_29 rfl rfl ?_ ?_
        · refine x_iconst F dX2_reachedFrom_41 ⟨by decide, by decide⟩ rfl ?_
          refine x_dp (L' := [(0, vR a0), (3, vI v4), (4, vI v8)]) [0, 2, 3] rfl ?_
          exact hK13 0
        · refine x_aload_n F dX2_reachedFrom_32 rfl rfl rfl ?_
          refine x_iload F dX2_reachedFrom_33 rfl rfl ?_
          refine s_callVP F [vI v8] [vI v7] lkX2_126 mX2_knownBy rfl ha0 rfl hnE hn0 hd pX2_knownBy (tX2_knownBy cx.l x hi G a0 v8 ha0) rfl rfl dX2_reachedFrom_35 rfl rfl (fun v16 => ?_)
          refine x_goto (pc' := 42) F dX2_reachedFrom_38 rfl ?_
          refine x_dp (L' := [(0, vR a0), (3, vI v4), (4, vI v8)]) [0, 2, 3] rfl ?_
          exact hK13 v16
    · refine x_iinc F dX2_reachedFrom_50 rfl (by decide) rfl rfl (fun v10 => ?_)
      show Y cx x _ _ _ _ [(0, vR a0), (2, vI v7), (3, vI v10), (4, vI v8)] _ _ _
      refine x_goto (pc' := 6) F dX2_reachedFrom_53 rfl ?_
      refine x_dp (L' := [(0, vR a0), (2, vI v7), (3, vI v10)]) [0, 1, 2] rfl ?_
      exact hrc5 v7 v10
  · refine x_iload_n F dX2_reachedFrom_56 rfl rfl rfl ?_
    exact x_iret F hnE hQ dX2_reachedFrom_57
theorem dX2_leavesOneAlone_0 : decode cX2_leavesOneAlone 0 = .ok (.iconst 0, 1) := by decide +kernel
theorem dX2_leavesOneAlone_1 : decode cX2_leavesOneAlone 1 = .ok (.istore_n 2, 1) := by decide +kernel
theorem dX2_leavesOneAlone_2 : decode cX2_leavesOneAlone 2 = .ok (.iload_n 2, 1) := by decide +kernel
theorem dX2_leavesOneAlone_3 : decode cX2_leavesOneAlone 3 = .ok (.bipush 8, 2) := by decide +kernel
theorem dX2_leavesOneAlone_5 : decode cX2_leavesOneAlone 5 = .ok (.if_icmp .ge 32, 3) := by decide +kernel
theorem dX2_leavesOneAlone_8 : decode cX2_leavesOneAlone 8 = .ok (.iload_n 1, 1) := by decide +kernel
theorem dX2_leavesOneAlone_9 : decode cX2_leavesOneAlone 9 = .ok (.iload_n 2, 1) := by decide +kernel
theorem dX2_leavesOneAlone_10 : decode cX2_leavesOneAlone 10 = .ok (.invokestatic 23, 3) := by decide +kernel
theorem dX2_leavesOneAlone_13 : decode cX2_leavesOneAlone 13 = .ok (.ifCond .eq 18, 3) := by decide +kernel
theorem dX2_leavesOneAlone_16 : decode cX2_leavesOneAlone 16 = .ok (.aload_n 0, 1) := by decide +kernel
theorem dX2_leavesOneAlone_17 : decode cX2_leavesOneAlone 17 = .ok (.getfield 15, 3) := by decide +kernel
theorem dX2_leavesOneAlone_20 : decode cX2_leavesOneAlone 20 = .ok (.iload_n 2, 1) := by decide +kernel
theorem dX2_leavesOneAlone_21 : decode cX2_leavesOneAlone 21 = .ok (.iload_n 1, 1) := by decide +kernel
theorem dX2_leavesOneAlone_22 : decode cX2_leavesOneAlone 22 = .ok (.invokevirtual 63, 3) := by decide +kernel
theorem dX2_leavesOneAlone_25 : decode cX2_leavesOneAlone 25 = .ok (.iconst (-1), 1) := by decide +kernel
theorem dX2_leavesOneAlone_26 : decode cX2_leavesOneAlone 26 = .ok (.if_icmp .ne 5, 3) := by decide +kernel
theorem dX2_leavesOneAlone_29 : decode cX2_leavesOneAlone 29 = .ok (.iconst 1, 1) := by decide +kernel
theorem dX2_leavesOneAlone_30 : decode cX2_leavesOneAlone 30 = .ok (.ireturn, 1) := by decide +kernel
theorem dX2_leavesOneAlone_31 : decode cX2_leavesOneAlone 31 = .ok (.iinc 2 1, 3) := by decide +kernel
theorem dX2_leavesOneAlone_34 : decode cX2_leavesOneAlone 34 = .ok (.goto (-32), 3) := by decide +kernel
theorem dX2_leavesOneAlone_37 : decode cX2_leavesOneAlone 37 = .ok (.iconst 0, 1) := by decide +kernel
theorem dX2_leavesOneAlone_38 : decode cX2_leavesOneAlone 38 = .ok (.ireturn, 1) := by decide +kernel
def fX2_leavesOneAlone (a0 : Nat) (a1 : Int) (G : Hp) : RT := bd 0 fun v1 => (lp (fun (_ : Int) => (none : RT)) 5000 (fun (rc3 : Int → RT) (v2 : Int) => if v2 < 8 then (bp (fX2_has a1 v2 G) fun v4 => jn (bd (iadd v2 1) fun v6 => rc3 v6) fun (K5 : RT) => if v4 = 0 then K5 else (bp (fX6_firstOf ((rf a0 1)) v2 a1 G) fun v7 => if v7 = ((-1)) then rz 1 G else K5)) else rz 0 G)) v1
theorem pX2_leavesOneAlone {G : Hp} {a0 : Nat} {a1 : Int} : PU G (fX2_leavesOneAlone a0 a1 G) := by
  unfold fX2_leavesOneAlone
  refine PU_bd (fun v1 => ?_)
  refine x_lp (fun (rc3 : Int → RT) => ∀ (v2 : Int), PU G (rc3 v2)) (fun _ => PU_none) (fun rc3 phrc3 v2 => ?_) 5000 v1
  refine PU_ite ?_ ?_
  · refine PU_bp (fun v4 => ?_)
    refine PU_jn (fun (K5 : RT) => PU G (K5)) ?_ (fun K5 phK5 => ?_)
    · refine PU_bd (fun v6 => ?_)
      exact phrc3 v6
    · refine PU_ite ?_ ?_
      · exact phK5
      · refine PU_bp (fun v7 => ?_)
        refine PU_ite ?_ ?_
        · exact PU_rz
        · exact phK5
  · exact PU_rz
set_option maxRecDepth 20000 in
set_option maxHeartbeats 4000000 in
theorem tX2_leavesOneAlone (l : Launch) (x : WX) (hi : Inj x.2.2) (G : Hp) (a0 : Nat) (a1 : Int) (ha0 : kd a0 = 2) : Ct l x yX2_leavesOneAlone cX2_leavesOneAlone 3 (some .boolean) 2 129 129 [vR a0, vI a1] G (fX2_leavesOneAlone a0 a1 G) := by
  refine ct_of (plainFor_of_name (by decide)) hi (Nat.le_refl _) (Nat.le_refl _) (Nat.le_of_ble_eq_true rfl) (fun cx F hd hn0 hnE hl hQ => ?_)
  subst hl
  have F : Fx cx x RX2 cX2_leavesOneAlone 3 (some .boolean) := F
  show Y cx x 3 (some .boolean) 129 0 [(0, vR a0), (1, vI a1)] [] G _
  unfold fX2_leavesOneAlone
  refine x_iconst F dX2_leavesOneAlone_0 ⟨by decide, by decide⟩ rfl ?_
  refine x_istore_n F dX2_leavesOneAlone_1 rfl (by decide) rfl rfl (fun v1 => ?_)
  show Y cx x _ _ _ _ [(0, vR a0), (1, vI a1), (2, vI v1)] _ _ _
  refine x_lp (fun (rc3 : Int → RT) => ∀ (v2 : Int), Y cx x 3 (some .boolean) 129 2 [(0, vR a0), (1, vI a1), (2, vI v2)] [] G (rc3 v2)) (fun _ => Y_none) (fun rc3 hrc3 v2 => ?_) 5000 v1
  refine x_iload_n F dX2_leavesOneAlone_2 rfl rfl rfl ?_
  refine x_bipush F dX2_leavesOneAlone_3 ⟨by decide, by decide⟩ (by decide) rfl ?_
  refine x_icmpge (pt := 37) F dX2_leavesOneAlone_5 rfl rfl ?_ ?_
  · refine x_iload_n F dX2_leavesOneAlone_8 rfl rfl rfl ?_
    refine x_iload_n F dX2_leavesOneAlone_9 rfl rfl rfl ?_
    refine s_callSP F [vI a1, vI v2] [] lkX2_23 mX2_has hnE hn0 hd pX2_has (tX2_has cx.l x hi G a1 v2) rfl rfl dX2_leavesOneAlone_10 rfl rfl (fun v4 => ?_)
    refine x_jn (fun (K5 : RT) => Y cx x 3 (some .boolean) 129 31 [(0, vR a0), (1, vI a1), (2, vI v2)] [] G K5) ?_ (fun K5 hK5 => ?_)
    · refine x_iinc F dX2_leavesOneAlone_31 rfl (by decide) rfl rfl (fun v6 => ?_)
      show Y cx x _ _ _ _ [(0, vR a0), (1, vI a1), (2, vI v6)] _ _ _
      refine x_goto (pc' := 2) F dX2_leavesOneAlone_34 rfl ?_
      exact hrc3 v6
    · refine x_ifeq (pt := 31) F dX2_leavesOneAlone_13 rfl rfl ?_ ?_
      · exact hK5
      · refine x_aload_n F dX2_leavesOneAlone_16 rfl rfl rfl ?_
        refine x_getR F flX2_15 ha0 rfl dX2_leavesOneAlone_17 rfl ?_
        refine x_iload_n F dX2_leavesOneAlone_20 rfl rfl rfl ?_
        refine x_iload_n F dX2_leavesOneAlone_21 rfl rfl rfl ?_
        refine s_callVP F [vI v2, vI a1] [] lkX2_63 mX6_firstOf rfl (tf2_1 ha0).1 rfl hnE hn0 hd pX6_firstOf (tX6_firstOf cx.l x hi G ((rf a0 1)) v2 a1 (tf2_1 ha0).1) rfl rfl dX2_leavesOneAlone_22 rfl rfl (fun v7 => ?_)
        refine x_iconst F dX2_leavesOneAlone_25 ⟨by decide, by decide⟩ rfl ?_
        refine x_icmpne (pt := 31) F dX2_leavesOneAlone_26 rfl rfl ?_ ?_
        · refine x_iconst F dX2_leavesOneAlone_29 ⟨by decide, by decide⟩ rfl ?_
          exact x_zret F hnE hQ dX2_leavesOneAlone_30
        · exact hK5
  · refine x_iconst F dX2_leavesOneAlone_37 ⟨by decide, by decide⟩ rfl ?_
    exact x_zret F hnE hQ dX2_leavesOneAlone_38
theorem dX2_hangers_0 : decode cX2_hangers 0 = .ok (.aload_n 0, 1) := by decide +kernel
theorem dX2_hangers_1 : decode cX2_hangers 1 = .ok (.getfield 15, 3) := by decide +kernel
theorem dX2_hangers_4 : decode cX2_hangers 4 = .ok (.getfield 50, 3) := by decide +kernel
theorem dX2_hangers_7 : decode cX2_hangers 7 = .ok (.aload_n 0, 1) := by decide +kernel
theorem dX2_hangers_8 : decode cX2_hangers 8 = .ok (.invokevirtual 66, 3) := by decide +kernel
theorem dX2_hangers_11 : decode cX2_hangers 11 = .ok (.iconst (-1), 1) := by decide +kernel
theorem dX2_hangers_12 : decode cX2_hangers 12 = .ok (.ixor, 1) := by decide +kernel
theorem dX2_hangers_13 : decode cX2_hangers 13 = .ok (.iand, 1) := by decide +kernel
theorem dX2_hangers_14 : decode cX2_hangers 14 = .ok (.aload_n 0, 1) := by decide +kernel
theorem dX2_hangers_15 : decode cX2_hangers 15 = .ok (.invokevirtual 70, 3) := by decide +kernel
theorem dX2_hangers_18 : decode cX2_hangers 18 = .ok (.iconst (-1), 1) := by decide +kernel
theorem dX2_hangers_19 : decode cX2_hangers 19 = .ok (.ixor, 1) := by decide +kernel
theorem dX2_hangers_20 : decode cX2_hangers 20 = .ok (.iand, 1) := by decide +kernel
theorem dX2_hangers_21 : decode cX2_hangers 21 = .ok (.ireturn, 1) := by decide +kernel
def fX2_hangers (a0 : Nat) (G : Hp) : RT := bp (fX2_onCycles a0 G) fun v1 => bp (fX2_broken a0 G) fun v2 => rt (iand (iand (G ((rf a0 1)) 1) (ixor v1 ((-1)))) (ixor v2 ((-1)))) G
theorem pX2_hangers {G : Hp} {a0 : Nat} : PU G (fX2_hangers a0 G) := by
  unfold fX2_hangers
  refine PU_bp (fun v1 => ?_)
  refine PU_bp (fun v2 => ?_)
  exact PU_rt
set_option maxRecDepth 20000 in
set_option maxHeartbeats 4000000 in
theorem tX2_hangers (l : Launch) (x : WX) (hi : Inj x.2.2) (G : Hp) (a0 : Nat) (ha0 : kd a0 = 2) : Ct l x yX2_hangers cX2_hangers 1 (some .int) 3 129 129 [vR a0] G (fX2_hangers a0 G) := by
  refine ct_of (plainFor_of_name (by decide)) hi (Nat.le_refl _) (Nat.le_refl _) (Nat.le_of_ble_eq_true rfl) (fun cx F hd hn0 hnE hl hQ => ?_)
  subst hl
  have F : Fx cx x RX2 cX2_hangers 1 (some .int) := F
  show Y cx x 1 (some .int) 129 0 [(0, vR a0)] [] G _
  unfold fX2_hangers
  refine x_aload_n F dX2_hangers_0 rfl rfl rfl ?_
  refine x_getR F flX2_15 ha0 rfl dX2_hangers_1 rfl ?_
  refine s_getI F flX2_50 (tf2_1 ha0).1 rfl dX2_hangers_4 rfl ?_
  refine x_aload_n F dX2_hangers_7 rfl rfl rfl ?_
  refine s_callVP F [] [vI (G ((rf a0 1)) 1)] lkX2_66 mX2_onCycles rfl ha0 rfl hnE hn0 hd pX2_onCycles (tX2_onCycles cx.l x hi G a0 ha0) rfl rfl dX2_hangers_8 rfl rfl (fun v1 => ?_)
  refine x_iconst F dX2_hangers_11 ⟨by decide, by decide⟩ rfl ?_
  refine x_ixor F dX2_hangers_12 rfl ?_
  refine x_iand F dX2_hangers_13 rfl ?_
  refine x_aload_n F dX2_hangers_14 rfl rfl rfl ?_
  refine s_callVP F [] [vI (iand (G ((rf a0 1)) 1) (ixor v1 ((-1))))] lkX2_70 mX2_broken rfl ha0 rfl hnE hn0 hd pX2_broken (tX2_broken cx.l x hi G a0 ha0) rfl rfl dX2_hangers_15 rfl rfl (fun v2 => ?_)
  refine x_iconst F dX2_hangers_18 ⟨by decide, by decide⟩ rfl ?_
  refine x_ixor F dX2_hangers_19 rfl ?_
  refine x_iand F dX2_hangers_20 rfl ?_
  exact x_iret F hnE hQ dX2_hangers_21
theorem dX2_cycleCount_0 : decode cX2_cycleCount 0 = .ok (.iconst 0, 1) := by decide +kernel
theorem dX2_cycleCount_1 : decode cX2_cycleCount 1 = .ok (.istore_n 1, 1) := by decide +kernel
theorem dX2_cycleCount_2 : decode cX2_cycleCount 2 = .ok (.aload_n 0, 1) := by decide +kernel
theorem dX2_cycleCount_3 : decode cX2_cycleCount 3 = .ok (.invokevirtual 66, 3) := by decide +kernel
theorem dX2_cycleCount_6 : decode cX2_cycleCount 6 = .ok (.istore_n 2, 1) := by decide +kernel
theorem dX2_cycleCount_7 : decode cX2_cycleCount 7 = .ok (.iconst 0, 1) := by decide +kernel
theorem dX2_cycleCount_8 : decode cX2_cycleCount 8 = .ok (.istore_n 3, 1) := by decide +kernel
theorem dX2_cycleCount_9 : decode cX2_cycleCount 9 = .ok (.iload_n 3, 1) := by decide +kernel
theorem dX2_cycleCount_10 : decode cX2_cycleCount 10 = .ok (.bipush 8, 2) := by decide +kernel
theorem dX2_cycleCount_12 : decode cX2_cycleCount 12 = .ok (.if_icmp .ge 80, 3) := by decide +kernel
theorem dX2_cycleCount_15 : decode cX2_cycleCount 15 = .ok (.iload_n 2, 1) := by decide +kernel
theorem dX2_cycleCount_16 : decode cX2_cycleCount 16 = .ok (.iload_n 3, 1) := by decide +kernel
theorem dX2_cycleCount_17 : decode cX2_cycleCount 17 = .ok (.invokestatic 23, 3) := by decide +kernel
theorem dX2_cycleCount_20 : decode cX2_cycleCount 20 = .ok (.ifCond .eq 66, 3) := by decide +kernel
theorem dX2_cycleCount_23 : decode cX2_cycleCount 23 = .ok (.iload_n 3, 1) := by decide +kernel
theorem dX2_cycleCount_24 : decode cX2_cycleCount 24 = .ok (.istore 4, 2) := by decide +kernel
theorem dX2_cycleCount_26 : decode cX2_cycleCount 26 = .ok (.iload_n 3, 1) := by decide +kernel
theorem dX2_cycleCount_27 : decode cX2_cycleCount 27 = .ok (.istore 5, 2) := by decide +kernel
theorem dX2_cycleCount_29 : decode cX2_cycleCount 29 = .ok (.iconst 0, 1) := by decide +kernel
theorem dX2_cycleCount_30 : decode cX2_cycleCount 30 = .ok (.istore 6, 2) := by decide +kernel
theorem dX2_cycleCount_32 : decode cX2_cycleCount 32 = .ok (.iload 6, 2) := by decide +kernel
theorem dX2_cycleCount_34 : decode cX2_cycleCount 34 = .ok (.bipush 8, 2) := by decide +kernel
theorem dX2_cycleCount_36 : decode cX2_cycleCount 36 = .ok (.if_icmp .ge 36, 3) := by decide +kernel
theorem dX2_cycleCount_39 : decode cX2_cycleCount 39 = .ok (.aload_n 0, 1) := by decide +kernel
theorem dX2_cycleCount_40 : decode cX2_cycleCount 40 = .ok (.getfield 15, 3) := by decide +kernel
theorem dX2_cycleCount_43 : decode cX2_cycleCount 43 = .ok (.iload 5, 2) := by decide +kernel
theorem dX2_cycleCount_45 : decode cX2_cycleCount 45 = .ok (.aload_n 0, 1) := by decide +kernel
theorem dX2_cycleCount_46 : decode cX2_cycleCount 46 = .ok (.getfield 15, 3) := by decide +kernel
theorem dX2_cycleCount_49 : decode cX2_cycleCount 49 = .ok (.getfield 50, 3) := by decide +kernel
theorem dX2_cycleCount_52 : decode cX2_cycleCount 52 = .ok (.invokevirtual 63, 3) := by decide +kernel
theorem dX2_cycleCount_55 : decode cX2_cycleCount 55 = .ok (.istore 5, 2) := by decide +kernel
theorem dX2_cycleCount_57 : decode cX2_cycleCount 57 = .ok (.iload 4, 2) := by decide +kernel
theorem dX2_cycleCount_59 : decode cX2_cycleCount 59 = .ok (.iload 5, 2) := by decide +kernel
theorem dX2_cycleCount_61 : decode cX2_cycleCount 61 = .ok (.invokestatic 73, 3) := by decide +kernel
theorem dX2_cycleCount_64 : decode cX2_cycleCount 64 = .ok (.istore 4, 2) := by decide +kernel
theorem dX2_cycleCount_66 : decode cX2_cycleCount 66 = .ok (.iinc 6 1, 3) := by decide +kernel
theorem dX2_cycleCount_69 : decode cX2_cycleCount 69 = .ok (.goto (-37), 3) := by decide +kernel
theorem dX2_cycleCount_72 : decode cX2_cycleCount 72 = .ok (.iload_n 1, 1) := by decide +kernel
theorem dX2_cycleCount_73 : decode cX2_cycleCount 73 = .ok (.iload 4, 2) := by decide +kernel
theorem dX2_cycleCount_75 : decode cX2_cycleCount 75 = .ok (.iload_n 3, 1) := by decide +kernel
theorem dX2_cycleCount_76 : decode cX2_cycleCount 76 = .ok (.if_icmp .ne 7, 3) := by decide +kernel
theorem dX2_cycleCount_79 : decode cX2_cycleCount 79 = .ok (.iconst 1, 1) := by decide +kernel
theorem dX2_cycleCount_80 : decode cX2_cycleCount 80 = .ok (.goto 4, 3) := by decide +kernel
theorem dX2_cycleCount_83 : decode cX2_cycleCount 83 = .ok (.iconst 0, 1) := by decide +kernel
theorem dX2_cycleCount_84 : decode cX2_cycleCount 84 = .ok (.iadd, 1) := by decide +kernel
theorem dX2_cycleCount_85 : decode cX2_cycleCount 85 = .ok (.istore_n 1, 1) := by decide +kernel
theorem dX2_cycleCount_86 : decode cX2_cycleCount 86 = .ok (.iinc 3 1, 3) := by decide +kernel
theorem dX2_cycleCount_89 : decode cX2_cycleCount 89 = .ok (.goto (-80), 3) := by decide +kernel
theorem dX2_cycleCount_92 : decode cX2_cycleCount 92 = .ok (.iload_n 1, 1) := by decide +kernel
theorem dX2_cycleCount_93 : decode cX2_cycleCount 93 = .ok (.ireturn, 1) := by decide +kernel
def fX2_cycleCount (a0 : Nat) (G : Hp) : RT := bd 0 fun v1 => bp (fX2_onCycles a0 G) fun v2 => bd v2 fun v3 => bd 0 fun v4 => (lp (fun (_ : Int) (_ : Int) => (none : RT)) 5000 (fun (rc7 : Int → Int → RT) (v5 : Int) (v6 : Int) => if v6 < 8 then (bp (fX2_has v3 v6 G) fun v8 => jn (fun (v9 : Int) => bd (iadd v6 1) fun v11 => rc7 v9 v11) fun (K10 : Int → RT) => if v8 = 0 then K10 v5 else (bd v6 fun v12 => bd v6 fun v13 => bd 0 fun v14 => (lp (fun (_ : Int) (_ : Int) (_ : Int) => (none : RT)) 5000 (fun (rc18 : Int → Int → Int → RT) (v15 : Int) (v16 : Int) (v17 : Int) => if v17 < 8 then (bp (fX6_firstOf ((rf a0 1)) v16 (G ((rf a0 1)) 1) G) fun v22 => bd v22 fun v23 => bd ((if v23 < v15 then v23 else v15)) fun v24 => bd (iadd v17 1) fun v25 => rc18 v24 v23 v25) else (jn (fun (v19 : Int) => bd (iadd v5 v19) fun v21 => K10 v21) fun (K20 : Int → RT) => if v15 = v6 then K20 1 else K20 0))) v12 v13 v14)) else rt v5 G)) v1 v4
theorem pX2_cycleCount {G : Hp} {a0 : Nat} : PU G (fX2_cycleCount a0 G) := by
  unfold fX2_cycleCount
  refine PU_bd (fun v1 => ?_)
  refine PU_bp (fun v2 => ?_)
  refine PU_bd (fun v3 => ?_)
  refine PU_bd (fun v4 => ?_)
  refine x_lp (fun (rc7 : Int → Int → RT) => ∀ (v5 : Int) (v6 : Int), PU G (rc7 v5 v6)) (fun _ _ => PU_none) (fun rc7 phrc7 v5 v6 => ?_) 5000 v1 v4
  refine PU_ite ?_ ?_
  · refine PU_bp (fun v8 => ?_)
    refine PU_jn (fun (K10 : Int → RT) => ∀ (v9 : Int), PU G (K10 v9)) ?_ (fun K10 phK10 => ?_)
    · intro v9
      refine PU_bd (fun v11 => ?_)
      exact phrc7 v9 v11
    · refine PU_ite ?_ ?_
      · exact phK10 v5
      · refine PU_bd (fun v12 => ?_)
        refine PU_bd (fun v13 => ?_)
        refine PU_bd (fun v14 => ?_)
        refine x_lp (fun (rc18 : Int → Int → Int → RT) => ∀ (v15 : Int) (v16 : Int) (v17 : Int), PU G (rc18 v15 v16 v17)) (fun _ _ _ => PU_none) (fun rc18 phrc18 v15 v16 v17 => ?_) 5000 v12 v13 v14
        refine PU_ite ?_ ?_
        · refine PU_bp (fun v22 => ?_)
          refine PU_bd (fun v23 => ?_)
          refine PU_bd (fun v24 => ?_)
          refine PU_bd (fun v25 => ?_)
          exact phrc18 v24 v23 v25
        · refine PU_jn (fun (K20 : Int → RT) => ∀ (v19 : Int), PU G (K20 v19)) ?_ (fun K20 phK20 => ?_)
          · intro v19
            refine PU_bd (fun v21 => ?_)
            exact phK10 v21
          · refine PU_ite ?_ ?_
            · exact phK20 1
            · exact phK20 0
  · exact PU_rt
set_option maxRecDepth 20000 in
set_option maxHeartbeats 4000000 in
theorem tX2_cycleCount (l : Launch) (x : WX) (hi : Inj x.2.2) (G : Hp) (a0 : Nat) (ha0 : kd a0 = 2) : Ct l x yX2_cycleCount cX2_cycleCount 7 (some .int) 3 129 129 [vR a0] G (fX2_cycleCount a0 G) := by
  refine ct_of (plainFor_of_name (by decide)) hi (Nat.le_refl _) (Nat.le_refl _) (Nat.le_of_ble_eq_true rfl) (fun cx F hd hn0 hnE hl hQ => ?_)
  subst hl
  have F : Fx cx x RX2 cX2_cycleCount 7 (some .int) := F
  show Y cx x 7 (some .int) 129 0 [(0, vR a0)] [] G _
  unfold fX2_cycleCount
  refine x_iconst F dX2_cycleCount_0 ⟨by decide, by decide⟩ rfl ?_
  refine x_istore_n F dX2_cycleCount_1 rfl (by decide) rfl rfl (fun v1 => ?_)
  show Y cx x _ _ _ _ [(0, vR a0), (1, vI v1)] _ _ _
  refine x_aload_n F dX2_cycleCount_2 rfl rfl rfl ?_
  refine s_callVP F [] [] lkX2_66 mX2_onCycles rfl ha0 rfl hnE hn0 hd pX2_onCycles (tX2_onCycles cx.l x hi G a0 ha0) rfl rfl dX2_cycleCount_3 rfl rfl (fun v2 => ?_)
  refine x_istore_n F dX2_cycleCount_6 rfl (by decide) rfl rfl (fun v3 => ?_)
  show Y cx x _ _ _ _ [(0, vR a0), (1, vI v1), (2, vI v3)] _ _ _
  refine x_iconst F dX2_cycleCount_7 ⟨by decide, by decide⟩ rfl ?_
  refine x_istore_n F dX2_cycleCount_8 rfl (by decide) rfl rfl (fun v4 => ?_)
  show Y cx x _ _ _ _ [(0, vR a0), (1, vI v1), (2, vI v3), (3, vI v4)] _ _ _
  refine x_lp (fun (rc7 : Int → Int → RT) => ∀ (v5 : Int) (v6 : Int), Y cx x 7 (some .int) 129 9 [(0, vR a0), (1, vI v5), (2, vI v3), (3, vI v6)] [] G (rc7 v5 v6)) (fun _ _ => Y_none) (fun rc7 hrc7 v5 v6 => ?_) 5000 v1 v4
  refine x_iload_n F dX2_cycleCount_9 rfl rfl rfl ?_
  refine x_bipush F dX2_cycleCount_10 ⟨by decide, by decide⟩ (by decide) rfl ?_
  refine x_icmpge (pt := 92) F dX2_cycleCount_12 rfl rfl ?_ ?_
  · refine x_iload_n F dX2_cycleCount_15 rfl rfl rfl ?_
    refine x_iload_n F dX2_cycleCount_16 rfl rfl rfl ?_
    refine s_callSP F [vI v3, vI v6] [] lkX2_23 mX2_has hnE hn0 hd pX2_has (tX2_has cx.l x hi G v3 v6) rfl rfl dX2_cycleCount_17 rfl rfl (fun v8 => ?_)
    refine x_jn (fun (K10 : Int → RT) => ∀ (v9 : Int), Y cx x 7 (some .int) 129 86 [(0, vR a0), (1, vI v9), (2, vI v3), (3, vI v6)] [] G (K10 v9)) ?_ (fun K10 hK10 => ?_)
    · intro v9
      refine x_iinc F dX2_cycleCount_86 rfl (by decide) rfl rfl (fun v11 => ?_)
      show Y cx x _ _ _ _ [(0, vR a0), (1, vI v9), (2, vI v3), (3, vI v11)] _ _ _
      refine x_goto (pc' := 9) F dX2_cycleCount_89 rfl ?_
      exact hrc7 v9 v11
    · refine x_ifeq (pt := 86) F dX2_cycleCount_20 rfl rfl ?_ ?_
      · exact hK10 v5
      · refine x_iload_n F dX2_cycleCount_23 rfl rfl rfl ?_
        refine x_istore F dX2_cycleCount_24 (by decide) rfl rfl (fun v12 => ?_)
        show Y cx x _ _ _ _ [(0, vR a0), (1, vI v5), (2, vI v3), (3, vI v6), (4, vI v12)] _ _ _
        refine x_iload_n F dX2_cycleCount_26 rfl rfl rfl ?_
        refine x_istore F dX2_cycleCount_27 (by decide) rfl rfl (fun v13 => ?_)
        show Y cx x _ _ _ _ [(0, vR a0), (1, vI v5), (2, vI v3), (3, vI v6), (4, vI v12), (5, vI v13)] _ _ _
        refine x_iconst F dX2_cycleCount_29 ⟨by decide, by decide⟩ rfl ?_
        refine x_istore F dX2_cycleCount_30 (by decide) rfl rfl (fun v14 => ?_)
        show Y cx x _ _ _ _ [(0, vR a0), (1, vI v5), (2, vI v3), (3, vI v6), (4, vI v12), (5, vI v13), (6, vI v14)] _ _ _
        refine x_lp (fun (rc18 : Int → Int → Int → RT) => ∀ (v15 : Int) (v16 : Int) (v17 : Int), Y cx x 7 (some .int) 129 32 [(0, vR a0), (1, vI v5), (2, vI v3), (3, vI v6), (4, vI v15), (5, vI v16), (6, vI v17)] [] G (rc18 v15 v16 v17)) (fun _ _ _ => Y_none) (fun rc18 hrc18 v15 v16 v17 => ?_) 5000 v12 v13 v14
        refine x_iload F dX2_cycleCount_32 rfl rfl ?_
        refine x_bipush F dX2_cycleCount_34 ⟨by decide, by decide⟩ (by decide) rfl ?_
        refine x_icmpge (pt := 72) F dX2_cycleCount_36 rfl rfl ?_ ?_
        · refine x_aload_n F dX2_cycleCount_39 rfl rfl rfl ?_
          refine x_getR F flX2_15 ha0 rfl dX2_cycleCount_40 rfl ?_
          refine x_iload F dX2_cycleCount_43 rfl rfl ?_
          refine x_aload_n F dX2_cycleCount_45 rfl rfl rfl ?_
          refine x_getR F flX2_15 ha0 rfl dX2_cycleCount_46 rfl ?_
          refine s_getI F flX2_50 (tf2_1 ha0).1 rfl dX2_cycleCount_49 rfl ?_
          refine s_callVP F [vI v16, vI (G ((rf a0 1)) 1)] [] lkX2_63 mX6_firstOf rfl (tf2_1 ha0).1 rfl hnE hn0 hd pX6_firstOf (tX6_firstOf cx.l x hi G ((rf a0 1)) v16 (G ((rf a0 1)) 1) (tf2_1 ha0).1) rfl rfl dX2_cycleCount_52 rfl rfl (fun v22 => ?_)
          refine x_istore F dX2_cycleCount_55 (by decide) rfl rfl (fun v23 => ?_)
          show Y cx x _ _ _ _ [(0, vR a0), (1, vI v5), (2, vI v3), (3, vI v6), (4, vI v15), (5, vI v23), (6, vI v17)] _ _ _
          refine x_iload F dX2_cycleCount_57 rfl rfl ?_
          refine x_iload F dX2_cycleCount_59 rfl rfl ?_
          refine x_mmin F lkX2_73 mmmin1 mmIni mmmin2 (Nat.le_of_eq hnE.symm) (le_d (d' := 0) hd rfl) (Nat.le_of_ble_eq_true rfl) dX2_cycleCount_61 rfl ?_
          refine x_istore F dX2_cycleCount_64 (by decide) rfl rfl (fun v24 => ?_)
          show Y cx x _ _ _ _ [(0, vR a0), (1, vI v5), (2, vI v3), (3, vI v6), (4, vI v24), (5, vI v23), (6, vI v17)] _ _ _
          refine x_iinc F dX2_cycleCount_66 rfl (by decide) rfl rfl (fun v25 => ?_)
          show Y cx x _ _ _ _ [(0, vR a0), (1, vI v5), (2, vI v3), (3, vI v6), (4, vI v24), (5, vI v23), (6, vI v25)] _ _ _
          refine x_goto (pc' := 32) F dX2_cycleCount_69 rfl ?_
          exact hrc18 v24 v23 v25
        · refine x_iload_n F dX2_cycleCount_72 rfl rfl rfl ?_
          refine x_iload F dX2_cycleCount_73 rfl rfl ?_
          refine x_iload_n F dX2_cycleCount_75 rfl rfl rfl ?_
          refine x_jn (fun (K20 : Int → RT) => ∀ (v19 : Int), Y cx x 7 (some .int) 129 84 [(0, vR a0), (2, vI v3), (3, vI v6)] [vI v19, vI v5] G (K20 v19)) ?_ (fun K20 hK20 => ?_)
          · intro v19
            refine x_iadd F dX2_cycleCount_84 rfl ?_
            refine x_istore_n F dX2_cycleCount_85 rfl (by decide) rfl rfl (fun v21 => ?_)
            show Y cx x _ _ _ _ [(0, vR a0), (2, vI v3), (3, vI v6), (1, vI v21)] _ _ _
            refine x_dp (L' := [(0, vR a0), (1, vI v21), (2, vI v3), (3, vI v6)]) [0, 3, 1, 2] rfl ?_
            exact hK10 v21
          · refine x_icmpne (pt := 83) F dX2_cycleCount_76 rfl rfl ?_ ?_
            · refine x_iconst F dX2_cycleCount_79 ⟨by decide, by decide⟩ rfl ?_
              refine x_goto (pc' := 84) F dX2_cycleCount_80 rfl ?_
              refine x_dp (L' := [(0, vR a0), (2, vI v3), (3, vI v6)]) [0, 2, 3] rfl ?_
              exact hK20 1
            · refine x_iconst F dX2_cycleCount_83 ⟨by decide, by decide⟩ rfl ?_
              refine x_dp (L' := [(0, vR a0), (2, vI v3), (3, vI v6)]) [0, 2, 3] rfl ?_
              exact hK20 0
  · refine x_iload_n F dX2_cycleCount_92 rfl rfl rfl ?_
    exact x_iret F hnE hQ dX2_cycleCount_93
theorem dX2_amissNodes_0 : decode cX2_amissNodes 0 = .ok (.iconst 0, 1) := by decide +kernel
theorem dX2_amissNodes_1 : decode cX2_amissNodes 1 = .ok (.istore_n 1, 1) := by decide +kernel
theorem dX2_amissNodes_2 : decode cX2_amissNodes 2 = .ok (.iconst 0, 1) := by decide +kernel
theorem dX2_amissNodes_3 : decode cX2_amissNodes 3 = .ok (.istore_n 2, 1) := by decide +kernel
theorem dX2_amissNodes_4 : decode cX2_amissNodes 4 = .ok (.iload_n 2, 1) := by decide +kernel
theorem dX2_amissNodes_5 : decode cX2_amissNodes 5 = .ok (.bipush 8, 2) := by decide +kernel
theorem dX2_amissNodes_7 : decode cX2_amissNodes 7 = .ok (.if_icmp .ge 68, 3) := by decide +kernel
theorem dX2_amissNodes_10 : decode cX2_amissNodes 10 = .ok (.aload_n 0, 1) := by decide +kernel
theorem dX2_amissNodes_11 : decode cX2_amissNodes 11 = .ok (.getfield 15, 3) := by decide +kernel
theorem dX2_amissNodes_14 : decode cX2_amissNodes 14 = .ok (.iload_n 2, 1) := by decide +kernel
theorem dX2_amissNodes_15 : decode cX2_amissNodes 15 = .ok (.invokevirtual 56, 3) := by decide +kernel
theorem dX2_amissNodes_18 : decode cX2_amissNodes 18 = .ok (.ifCond .eq 51, 3) := by decide +kernel
theorem dX2_amissNodes_21 : decode cX2_amissNodes 21 = .ok (.aload_n 0, 1) := by decide +kernel
theorem dX2_amissNodes_22 : decode cX2_amissNodes 22 = .ok (.iload_n 2, 1) := by decide +kernel
theorem dX2_amissNodes_23 : decode cX2_amissNodes 23 = .ok (.invokevirtual 91, 3) := by decide +kernel
theorem dX2_amissNodes_26 : decode cX2_amissNodes 26 = .ok (.istore_n 3, 1) := by decide +kernel
theorem dX2_amissNodes_27 : decode cX2_amissNodes 27 = .ok (.iload_n 3, 1) := by decide +kernel
theorem dX2_amissNodes_28 : decode cX2_amissNodes 28 = .ok (.iconst (-1), 1) := by decide +kernel
theorem dX2_amissNodes_29 : decode cX2_amissNodes 29 = .ok (.if_icmp .ne 7, 3) := by decide +kernel
theorem dX2_amissNodes_32 : decode cX2_amissNodes 32 = .ok (.iload_n 2, 1) := by decide +kernel
theorem dX2_amissNodes_33 : decode cX2_amissNodes 33 = .ok (.goto 4, 3) := by decide +kernel
theorem dX2_amissNodes_36 : decode cX2_amissNodes 36 = .ok (.iload_n 3, 1) := by decide +kernel
theorem dX2_amissNodes_37 : decode cX2_amissNodes 37 = .ok (.istore 4, 2) := by decide +kernel
theorem dX2_amissNodes_39 : decode cX2_amissNodes 39 = .ok (.iload_n 1, 1) := by decide +kernel
theorem dX2_amissNodes_40 : decode cX2_amissNodes 40 = .ok (.aload_n 0, 1) := by decide +kernel
theorem dX2_amissNodes_41 : decode cX2_amissNodes 41 = .ok (.getfield 15, 3) := by decide +kernel
theorem dX2_amissNodes_44 : decode cX2_amissNodes 44 = .ok (.iload_n 2, 1) := by decide +kernel
theorem dX2_amissNodes_45 : decode cX2_amissNodes 45 = .ok (.aload_n 0, 1) := by decide +kernel
theorem dX2_amissNodes_46 : decode cX2_amissNodes 46 = .ok (.getfield 15, 3) := by decide +kernel
theorem dX2_amissNodes_49 : decode cX2_amissNodes 49 = .ok (.getfield 50, 3) := by decide +kernel
theorem dX2_amissNodes_52 : decode cX2_amissNodes 52 = .ok (.invokevirtual 63, 3) := by decide +kernel
theorem dX2_amissNodes_55 : decode cX2_amissNodes 55 = .ok (.iload 4, 2) := by decide +kernel
theorem dX2_amissNodes_57 : decode cX2_amissNodes 57 = .ok (.if_icmp .ne 7, 3) := by decide +kernel
theorem dX2_amissNodes_60 : decode cX2_amissNodes 60 = .ok (.iconst 0, 1) := by decide +kernel
theorem dX2_amissNodes_61 : decode cX2_amissNodes 61 = .ok (.goto 6, 3) := by decide +kernel
theorem dX2_amissNodes_64 : decode cX2_amissNodes 64 = .ok (.iconst 1, 1) := by decide +kernel
theorem dX2_amissNodes_65 : decode cX2_amissNodes 65 = .ok (.iload_n 2, 1) := by decide +kernel
theorem dX2_amissNodes_66 : decode cX2_amissNodes 66 = .ok (.ishl, 1) := by decide +kernel
theorem dX2_amissNodes_67 : decode cX2_amissNodes 67 = .ok (.ior, 1) := by decide +kernel
theorem dX2_amissNodes_68 : decode cX2_amissNodes 68 = .ok (.istore_n 1, 1) := by decide +kernel
theorem dX2_amissNodes_69 : decode cX2_amissNodes 69 = .ok (.iinc 2 1, 3) := by decide +kernel
theorem dX2_amissNodes_72 : decode cX2_amissNodes 72 = .ok (.goto (-68), 3) := by decide +kernel
theorem dX2_amissNodes_75 : decode cX2_amissNodes 75 = .ok (.iload_n 1, 1) := by decide +kernel
theorem dX2_amissNodes_76 : decode cX2_amissNodes 76 = .ok (.ireturn, 1) := by decide +kernel
def fX2_amissNodes (a0 : Nat) (G : Hp) : RT := bd 0 fun v1 => bd 0 fun v2 => (lp (fun (_ : Int) (_ : Int) => (none : RT)) 5000 (fun (rc5 : Int → Int → RT) (v3 : Int) (v4 : Int) => if v4 < 8 then (bp (fX6_isIn ((rf a0 1)) v4 G) fun v6 => jn (fun (v7 : Int) => bd (iadd v4 1) fun v9 => rc5 v7 v9) fun (K8 : Int → RT) => if v6 = 0 then K8 v3 else (bp (fX2_nextOf a0 v4 G) fun v10 => bd v10 fun v11 => jn (fun (v12 : Int) => bd v12 fun v14 => bp (fX6_firstOf ((rf a0 1)) v4 (G ((rf a0 1)) 1) G) fun v15 => jn (fun (v16 : Int) => bd (ior v3 v16) fun v18 => K8 v18) fun (K17 : Int → RT) => if v15 = v14 then K17 0 else (K17 (ishl 1 v4))) fun (K13 : Int → RT) => if v11 = ((-1)) then K13 v4 else K13 v11)) else rt v3 G)) v1 v2
theorem pX2_amissNodes {G : Hp} {a0 : Nat} : PU G (fX2_amissNodes a0 G) := by
  unfold fX2_amissNodes
  refine PU_bd (fun v1 => ?_)
  refine PU_bd (fun v2 => ?_)
  refine x_lp (fun (rc5 : Int → Int → RT) => ∀ (v3 : Int) (v4 : Int), PU G (rc5 v3 v4)) (fun _ _ => PU_none) (fun rc5 phrc5 v3 v4 => ?_) 5000 v1 v2
  refine PU_ite ?_ ?_
  · refine PU_bp (fun v6 => ?_)
    refine PU_jn (fun (K8 : Int → RT) => ∀ (v7 : Int), PU G (K8 v7)) ?_ (fun K8 phK8 => ?_)
    · intro v7
      refine PU_bd (fun v9 => ?_)
      exact phrc5 v7 v9
    · refine PU_ite ?_ ?_
      · exact phK8 v3
      · refine PU_bp (fun v10 => ?_)
        refine PU_bd (fun v11 => ?_)
        refine PU_jn (fun (K13 : Int → RT) => ∀ (v12 : Int), PU G (K13 v12)) ?_ (fun K13 phK13 => ?_)
        · intro v12
          refine PU_bd (fun v14 => ?_)
          refine PU_bp (fun v15 => ?_)
          refine PU_jn (fun (K17 : Int → RT) => ∀ (v16 : Int), PU G (K17 v16)) ?_ (fun K17 phK17 => ?_)
          · intro v16
            refine PU_bd (fun v18 => ?_)
            exact phK8 v18
          · refine PU_ite ?_ ?_
            · exact phK17 0
            · exact phK17 (ishl 1 v4)
        · refine PU_ite ?_ ?_
          · exact phK13 v4
          · exact phK13 v11
  · exact PU_rt
set_option maxRecDepth 20000 in
set_option maxHeartbeats 4000000 in
theorem tX2_amissNodes (l : Launch) (x : WX) (hi : Inj x.2.2) (G : Hp) (a0 : Nat) (ha0 : kd a0 = 2) : Ct l x yX2_amissNodes cX2_amissNodes 5 (some .int) 3 129 129 [vR a0] G (fX2_amissNodes a0 G) := by
  refine ct_of (plainFor_of_name (by decide)) hi (Nat.le_refl _) (Nat.le_refl _) (Nat.le_of_ble_eq_true rfl) (fun cx F hd hn0 hnE hl hQ => ?_)
  subst hl
  have F : Fx cx x RX2 cX2_amissNodes 5 (some .int) := F
  show Y cx x 5 (some .int) 129 0 [(0, vR a0)] [] G _
  unfold fX2_amissNodes
  refine x_iconst F dX2_amissNodes_0 ⟨by decide, by decide⟩ rfl ?_
  refine x_istore_n F dX2_amissNodes_1 rfl (by decide) rfl rfl (fun v1 => ?_)
  show Y cx x _ _ _ _ [(0, vR a0), (1, vI v1)] _ _ _
  refine x_iconst F dX2_amissNodes_2 ⟨by decide, by decide⟩ rfl ?_
  refine x_istore_n F dX2_amissNodes_3 rfl (by decide) rfl rfl (fun v2 => ?_)
  show Y cx x _ _ _ _ [(0, vR a0), (1, vI v1), (2, vI v2)] _ _ _
  refine x_lp (fun (rc5 : Int → Int → RT) => ∀ (v3 : Int) (v4 : Int), Y cx x 5 (some .int) 129 4 [(0, vR a0), (1, vI v3), (2, vI v4)] [] G (rc5 v3 v4)) (fun _ _ => Y_none) (fun rc5 hrc5 v3 v4 => ?_) 5000 v1 v2
  refine x_iload_n F dX2_amissNodes_4 rfl rfl rfl ?_
  refine x_bipush F dX2_amissNodes_5 ⟨by decide, by decide⟩ (by decide) rfl ?_
  refine x_icmpge (pt := 75) F dX2_amissNodes_7 rfl rfl ?_ ?_
  · refine x_aload_n F dX2_amissNodes_10 rfl rfl rfl ?_
    refine x_getR F flX2_15 ha0 rfl dX2_amissNodes_11 rfl ?_
    refine x_iload_n F dX2_amissNodes_14 rfl rfl rfl ?_
    refine s_callVP F [vI v4] [] lkX2_56 mX6_isIn rfl (tf2_1 ha0).1 rfl hnE hn0 hd pX6_isIn (tX6_isIn cx.l x hi G ((rf a0 1)) v4 (tf2_1 ha0).1) rfl rfl dX2_amissNodes_15 rfl rfl (fun v6 => ?_)
    refine x_jn (fun (K8 : Int → RT) => ∀ (v7 : Int), Y cx x 5 (some .int) 129 69 [(0, vR a0), (1, vI v7), (2, vI v4)] [] G (K8 v7)) ?_ (fun K8 hK8 => ?_)
    · intro v7
      refine x_iinc F dX2_amissNodes_69 rfl (by decide) rfl rfl (fun v9 => ?_)
      show Y cx x _ _ _ _ [(0, vR a0), (1, vI v7), (2, vI v9)] _ _ _
      refine x_goto (pc' := 4) F dX2_amissNodes_72 rfl ?_
      exact hrc5 v7 v9
    · refine x_ifeq (pt := 69) F dX2_amissNodes_18 rfl rfl ?_ ?_
      · exact hK8 v3
      · refine x_aload_n F dX2_amissNodes_21 rfl rfl rfl ?_
        refine x_iload_n F dX2_amissNodes_22 rfl rfl rfl ?_
        refine s_callVP F [vI v4] [] lkX2_91 mX2_nextOf rfl ha0 rfl hnE hn0 hd pX2_nextOf (tX2_nextOf cx.l x hi G a0 v4 ha0) rfl rfl dX2_amissNodes_23 rfl rfl (fun v10 => ?_)
        refine x_istore_n F dX2_amissNodes_26 rfl (by decide) rfl rfl (fun v11 => ?_)
        show Y cx x _ _ _ _ [(0, vR a0), (1, vI v3), (2, vI v4), (3, vI v11)] _ _ _
        refine x_iload_n F dX2_amissNodes_27 rfl rfl rfl ?_
        refine x_iconst F dX2_amissNodes_28 ⟨by decide, by decide⟩ rfl ?_
        refine x_jn (fun (K13 : Int → RT) => ∀ (v12 : Int), Y cx x 5 (some .int) 129 37 [(0, vR a0), (1, vI v3), (2, vI v4)] [vI v12] G (K13 v12)) ?_ (fun K13 hK13 => ?_)
        · intro v12
          refine x_istore F dX2_amissNodes_37 (by decide) rfl rfl (fun v14 => ?_)
          show Y cx x _ _ _ _ [(0, vR a0), (1, vI v3), (2, vI v4), (4, vI v14)] _ _ _
          refine x_iload_n F dX2_amissNodes_39 rfl rfl rfl ?_
          refine x_aload_n F dX2_amissNodes_40 rfl rfl rfl ?_
          refine x_getR F flX2_15 ha0 rfl dX2_amissNodes_41 rfl ?_
          refine x_iload_n F dX2_amissNodes_44 rfl rfl rfl ?_
          refine x_aload_n F dX2_amissNodes_45 rfl rfl rfl ?_
          refine x_getR F flX2_15 ha0 rfl dX2_amissNodes_46 rfl ?_
          refine s_getI F flX2_50 (tf2_1 ha0).1 rfl dX2_amissNodes_49 rfl ?_
          refine s_callVP F [vI v4, vI (G ((rf a0 1)) 1)] [vI v3] lkX2_63 mX6_firstOf rfl (tf2_1 ha0).1 rfl hnE hn0 hd pX6_firstOf (tX6_firstOf cx.l x hi G ((rf a0 1)) v4 (G ((rf a0 1)) 1) (tf2_1 ha0).1) rfl rfl dX2_amissNodes_52 rfl rfl (fun v15 => ?_)
          refine x_iload F dX2_amissNodes_55 rfl rfl ?_
          refine x_jn (fun (K17 : Int → RT) => ∀ (v16 : Int), Y cx x 5 (some .int) 129 67 [(0, vR a0), (2, vI v4)] [vI v16, vI v3] G (K17 v16)) ?_ (fun K17 hK17 => ?_)
          · intro v16
            refine x_ior F dX2_amissNodes_67 rfl ?_
            refine x_istore_n F dX2_amissNodes_68 rfl (by decide) rfl rfl (fun v18 => ?_)
            show Y cx x _ _ _ _ [(0, vR a0), (2, vI v4), (1, vI v18)] _ _ _
            refine x_dp (L' := [(0, vR a0), (1, vI v18), (2, vI v4)]) [0, 2, 1] rfl ?_
            exact hK8 v18
          · refine x_icmpne (pt := 64) F dX2_amissNodes_57 rfl rfl ?_ ?_
            · refine x_iconst F dX2_amissNodes_60 ⟨by decide, by decide⟩ rfl ?_
              refine x_goto (pc' := 67) F dX2_amissNodes_61 rfl ?_
              refine x_dp (L' := [(0, vR a0), (2, vI v4)]) [0, 2] rfl ?_
              exact hK17 0
            · refine x_iconst F dX2_amissNodes_64 ⟨by decide, by decide⟩ rfl ?_
              refine x_iload_n F dX2_amissNodes_65 rfl rfl rfl ?_
              refine x_ishl F dX2_amissNodes_66 rfl ?_
              refine x_dp (L' := [(0, vR a0), (2, vI v4)]) [0, 2] rfl ?_
              exact hK17 (ishl 1 v4)
        · refine x_icmpne (pt := 36) F dX2_amissNodes_29 rfl rfl ?_ ?_
          · refine x_iload_n F dX2_amissNodes_32 rfl rfl rfl ?_
            refine x_goto (pc' := 37) F dX2_amissNodes_33 rfl ?_
            refine x_dp (L' := [(0, vR a0), (1, vI v3), (2, vI v4)]) [0, 1, 2] rfl ?_
            exact hK13 v4
          · refine x_iload_n F dX2_amissNodes_36 rfl rfl rfl ?_
            refine x_dp (L' := [(0, vR a0), (1, vI v3), (2, vI v4)]) [0, 1, 2] rfl ?_
            exact hK13 v11
  · refine x_iload_n F dX2_amissNodes_75 rfl rfl rfl ?_
    exact x_iret F hnE hQ dX2_amissNodes_76
theorem dX2_behindNodes_0 : decode cX2_behindNodes 0 = .ok (.iconst 0, 1) := by decide +kernel
theorem dX2_behindNodes_1 : decode cX2_behindNodes 1 = .ok (.istore_n 1, 1) := by decide +kernel
theorem dX2_behindNodes_2 : decode cX2_behindNodes 2 = .ok (.iconst 0, 1) := by decide +kernel
theorem dX2_behindNodes_3 : decode cX2_behindNodes 3 = .ok (.istore_n 2, 1) := by decide +kernel
theorem dX2_behindNodes_4 : decode cX2_behindNodes 4 = .ok (.iload_n 2, 1) := by decide +kernel
theorem dX2_behindNodes_5 : decode cX2_behindNodes 5 = .ok (.bipush 8, 2) := by decide +kernel
theorem dX2_behindNodes_7 : decode cX2_behindNodes 7 = .ok (.if_icmp .ge 49, 3) := by decide +kernel
theorem dX2_behindNodes_10 : decode cX2_behindNodes 10 = .ok (.aload_n 0, 1) := by decide +kernel
theorem dX2_behindNodes_11 : decode cX2_behindNodes 11 = .ok (.iload_n 2, 1) := by decide +kernel
theorem dX2_behindNodes_12 : decode cX2_behindNodes 12 = .ok (.invokevirtual 94, 3) := by decide +kernel
theorem dX2_behindNodes_15 : decode cX2_behindNodes 15 = .ok (.istore_n 3, 1) := by decide +kernel
theorem dX2_behindNodes_16 : decode cX2_behindNodes 16 = .ok (.aload_n 0, 1) := by decide +kernel
theorem dX2_behindNodes_17 : decode cX2_behindNodes 17 = .ok (.getfield 15, 3) := by decide +kernel
theorem dX2_behindNodes_20 : decode cX2_behindNodes 20 = .ok (.iload_n 2, 1) := by decide +kernel
theorem dX2_behindNodes_21 : decode cX2_behindNodes 21 = .ok (.invokevirtual 56, 3) := by decide +kernel
theorem dX2_behindNodes_24 : decode cX2_behindNodes 24 = .ok (.ifCond .eq 26, 3) := by decide +kernel
theorem dX2_behindNodes_27 : decode cX2_behindNodes 27 = .ok (.iload_n 3, 1) := by decide +kernel
theorem dX2_behindNodes_28 : decode cX2_behindNodes 28 = .ok (.iconst (-1), 1) := by decide +kernel
theorem dX2_behindNodes_29 : decode cX2_behindNodes 29 = .ok (.if_icmp .eq 21, 3) := by decide +kernel
theorem dX2_behindNodes_32 : decode cX2_behindNodes 32 = .ok (.aload_n 0, 1) := by decide +kernel
theorem dX2_behindNodes_33 : decode cX2_behindNodes 33 = .ok (.getfield 15, 3) := by decide +kernel
theorem dX2_behindNodes_36 : decode cX2_behindNodes 36 = .ok (.iload_n 2, 1) := by decide +kernel
theorem dX2_behindNodes_37 : decode cX2_behindNodes 37 = .ok (.invokevirtual 97, 3) := by decide +kernel
theorem dX2_behindNodes_40 : decode cX2_behindNodes 40 = .ok (.iload_n 3, 1) := by decide +kernel
theorem dX2_behindNodes_41 : decode cX2_behindNodes 41 = .ok (.if_icmp .eq 9, 3) := by decide +kernel
theorem dX2_behindNodes_44 : decode cX2_behindNodes 44 = .ok (.iload_n 1, 1) := by decide +kernel
theorem dX2_behindNodes_45 : decode cX2_behindNodes 45 = .ok (.iconst 1, 1) := by decide +kernel
theorem dX2_behindNodes_46 : decode cX2_behindNodes 46 = .ok (.iload_n 2, 1) := by decide +kernel
theorem dX2_behindNodes_47 : decode cX2_behindNodes 47 = .ok (.ishl, 1) := by decide +kernel
theorem dX2_behindNodes_48 : decode cX2_behindNodes 48 = .ok (.ior, 1) := by decide +kernel
theorem dX2_behindNodes_49 : decode cX2_behindNodes 49 = .ok (.istore_n 1, 1) := by decide +kernel
theorem dX2_behindNodes_50 : decode cX2_behindNodes 50 = .ok (.iinc 2 1, 3) := by decide +kernel
theorem dX2_behindNodes_53 : decode cX2_behindNodes 53 = .ok (.goto (-49), 3) := by decide +kernel
theorem dX2_behindNodes_56 : decode cX2_behindNodes 56 = .ok (.iload_n 1, 1) := by decide +kernel
theorem dX2_behindNodes_57 : decode cX2_behindNodes 57 = .ok (.ireturn, 1) := by decide +kernel
def fX2_behindNodes (a0 : Nat) (G : Hp) : RT := bd 0 fun v1 => bd 0 fun v2 => (lp (fun (_ : Int) (_ : Int) => (none : RT)) 5000 (fun (rc5 : Int → Int → RT) (v3 : Int) (v4 : Int) => if v4 < 8 then (bp (fX2_previousOf a0 v4 G) fun v6 => bd v6 fun v7 => bp (fX6_isIn ((rf a0 1)) v4 G) fun v8 => jn (fun (v9 : Int) => bd (iadd v4 1) fun v11 => rc5 v9 v11) fun (K10 : Int → RT) => if v8 = 0 then K10 v3 else (if v7 = ((-1)) then K10 v3 else (bp (fX6_aheadOf ((rf a0 1)) v4 G) fun v12 => if v12 = v7 then K10 v3 else (bd (ior v3 (ishl 1 v4)) fun v13 => K10 v13)))) else rt v3 G)) v1 v2
theorem pX2_behindNodes {G : Hp} {a0 : Nat} : PU G (fX2_behindNodes a0 G) := by
  unfold fX2_behindNodes
  refine PU_bd (fun v1 => ?_)
  refine PU_bd (fun v2 => ?_)
  refine x_lp (fun (rc5 : Int → Int → RT) => ∀ (v3 : Int) (v4 : Int), PU G (rc5 v3 v4)) (fun _ _ => PU_none) (fun rc5 phrc5 v3 v4 => ?_) 5000 v1 v2
  refine PU_ite ?_ ?_
  · refine PU_bp (fun v6 => ?_)
    refine PU_bd (fun v7 => ?_)
    refine PU_bp (fun v8 => ?_)
    refine PU_jn (fun (K10 : Int → RT) => ∀ (v9 : Int), PU G (K10 v9)) ?_ (fun K10 phK10 => ?_)
    · intro v9
      refine PU_bd (fun v11 => ?_)
      exact phrc5 v9 v11
    · refine PU_ite ?_ ?_
      · exact phK10 v3
      · refine PU_ite ?_ ?_
        · exact phK10 v3
        · refine PU_bp (fun v12 => ?_)
          refine PU_ite ?_ ?_
          · exact phK10 v3
          · refine PU_bd (fun v13 => ?_)
            exact phK10 v13
  · exact PU_rt
set_option maxRecDepth 20000 in
set_option maxHeartbeats 4000000 in
theorem tX2_behindNodes (l : Launch) (x : WX) (hi : Inj x.2.2) (G : Hp) (a0 : Nat) (ha0 : kd a0 = 2) : Ct l x yX2_behindNodes cX2_behindNodes 4 (some .int) 3 129 129 [vR a0] G (fX2_behindNodes a0 G) := by
  refine ct_of (plainFor_of_name (by decide)) hi (Nat.le_refl _) (Nat.le_refl _) (Nat.le_of_ble_eq_true rfl) (fun cx F hd hn0 hnE hl hQ => ?_)
  subst hl
  have F : Fx cx x RX2 cX2_behindNodes 4 (some .int) := F
  show Y cx x 4 (some .int) 129 0 [(0, vR a0)] [] G _
  unfold fX2_behindNodes
  refine x_iconst F dX2_behindNodes_0 ⟨by decide, by decide⟩ rfl ?_
  refine x_istore_n F dX2_behindNodes_1 rfl (by decide) rfl rfl (fun v1 => ?_)
  show Y cx x _ _ _ _ [(0, vR a0), (1, vI v1)] _ _ _
  refine x_iconst F dX2_behindNodes_2 ⟨by decide, by decide⟩ rfl ?_
  refine x_istore_n F dX2_behindNodes_3 rfl (by decide) rfl rfl (fun v2 => ?_)
  show Y cx x _ _ _ _ [(0, vR a0), (1, vI v1), (2, vI v2)] _ _ _
  refine x_lp (fun (rc5 : Int → Int → RT) => ∀ (v3 : Int) (v4 : Int), Y cx x 4 (some .int) 129 4 [(0, vR a0), (1, vI v3), (2, vI v4)] [] G (rc5 v3 v4)) (fun _ _ => Y_none) (fun rc5 hrc5 v3 v4 => ?_) 5000 v1 v2
  refine x_iload_n F dX2_behindNodes_4 rfl rfl rfl ?_
  refine x_bipush F dX2_behindNodes_5 ⟨by decide, by decide⟩ (by decide) rfl ?_
  refine x_icmpge (pt := 56) F dX2_behindNodes_7 rfl rfl ?_ ?_
  · refine x_aload_n F dX2_behindNodes_10 rfl rfl rfl ?_
    refine x_iload_n F dX2_behindNodes_11 rfl rfl rfl ?_
    refine s_callVP F [vI v4] [] lkX2_94 mX2_previousOf rfl ha0 rfl hnE hn0 hd pX2_previousOf (tX2_previousOf cx.l x hi G a0 v4 ha0) rfl rfl dX2_behindNodes_12 rfl rfl (fun v6 => ?_)
    refine x_istore_n F dX2_behindNodes_15 rfl (by decide) rfl rfl (fun v7 => ?_)
    show Y cx x _ _ _ _ [(0, vR a0), (1, vI v3), (2, vI v4), (3, vI v7)] _ _ _
    refine x_aload_n F dX2_behindNodes_16 rfl rfl rfl ?_
    refine x_getR F flX2_15 ha0 rfl dX2_behindNodes_17 rfl ?_
    refine x_iload_n F dX2_behindNodes_20 rfl rfl rfl ?_
    refine s_callVP F [vI v4] [] lkX2_56 mX6_isIn rfl (tf2_1 ha0).1 rfl hnE hn0 hd pX6_isIn (tX6_isIn cx.l x hi G ((rf a0 1)) v4 (tf2_1 ha0).1) rfl rfl dX2_behindNodes_21 rfl rfl (fun v8 => ?_)
    refine x_jn (fun (K10 : Int → RT) => ∀ (v9 : Int), Y cx x 4 (some .int) 129 50 [(0, vR a0), (1, vI v9), (2, vI v4)] [] G (K10 v9)) ?_ (fun K10 hK10 => ?_)
    · intro v9
      refine x_iinc F dX2_behindNodes_50 rfl (by decide) rfl rfl (fun v11 => ?_)
      show Y cx x _ _ _ _ [(0, vR a0), (1, vI v9), (2, vI v11)] _ _ _
      refine x_goto (pc' := 4) F dX2_behindNodes_53 rfl ?_
      exact hrc5 v9 v11
    · refine x_ifeq (pt := 50) F dX2_behindNodes_24 rfl rfl ?_ ?_
      · refine x_dp (L' := [(0, vR a0), (1, vI v3), (2, vI v4)]) [0, 1, 2] rfl ?_
        exact hK10 v3
      · refine x_iload_n F dX2_behindNodes_27 rfl rfl rfl ?_
        refine x_iconst F dX2_behindNodes_28 ⟨by decide, by decide⟩ rfl ?_
        refine x_icmpeq (pt := 50) F dX2_behindNodes_29 rfl rfl ?_ ?_
        · refine x_dp (L' := [(0, vR a0), (1, vI v3), (2, vI v4)]) [0, 1, 2] rfl ?_
          exact hK10 v3
        · refine x_aload_n F dX2_behindNodes_32 rfl rfl rfl ?_
          refine x_getR F flX2_15 ha0 rfl dX2_behindNodes_33 rfl ?_
          refine x_iload_n F dX2_behindNodes_36 rfl rfl rfl ?_
          refine s_callVP F [vI v4] [] lkX2_97 mX6_aheadOf rfl (tf2_1 ha0).1 rfl hnE hn0 hd pX6_aheadOf (tX6_aheadOf cx.l x hi G ((rf a0 1)) v4 (tf2_1 ha0).1) rfl rfl dX2_behindNodes_37 rfl rfl (fun v12 => ?_)
          refine x_iload_n F dX2_behindNodes_40 rfl rfl rfl ?_
          refine x_icmpeq (pt := 50) F dX2_behindNodes_41 rfl rfl ?_ ?_
          · refine x_dp (L' := [(0, vR a0), (1, vI v3), (2, vI v4)]) [0, 1, 2] rfl ?_
            exact hK10 v3
          · refine x_iload_n F dX2_behindNodes_44 rfl rfl rfl ?_
            refine x_iconst F dX2_behindNodes_45 ⟨by decide, by decide⟩ rfl ?_
            refine x_iload_n F dX2_behindNodes_46 rfl rfl rfl ?_
            refine x_ishl F dX2_behindNodes_47 rfl ?_
            refine x_ior F dX2_behindNodes_48 rfl ?_
            refine x_dp (L' := [(0, vR a0), (1, vI v3), (2, vI v4)]) [0, 1, 2] rfl ?_
            refine x_istore_n F dX2_behindNodes_49 rfl (by decide) rfl rfl (fun v13 => ?_)
            show Y cx x _ _ _ _ [(0, vR a0), (1, vI v13), (2, vI v4)] _ _ _
            exact hK10 v13
  · refine x_iload_n F dX2_behindNodes_56 rfl rfl rfl ?_
    exact x_iret F hnE hQ dX2_behindNodes_57
theorem dX2_arcOf_0 : decode cX2_arcOf 0 = .ok (.aload_n 0, 1) := by decide +kernel
theorem dX2_arcOf_1 : decode cX2_arcOf 1 = .ok (.iload_n 1, 1) := by decide +kernel
theorem dX2_arcOf_2 : decode cX2_arcOf 2 = .ok (.invokevirtual 94, 3) := by decide +kernel
theorem dX2_arcOf_5 : decode cX2_arcOf 5 = .ok (.istore_n 2, 1) := by decide +kernel
theorem dX2_arcOf_6 : decode cX2_arcOf 6 = .ok (.iload_n 2, 1) := by decide +kernel
theorem dX2_arcOf_7 : decode cX2_arcOf 7 = .ok (.iconst (-1), 1) := by decide +kernel
theorem dX2_arcOf_8 : decode cX2_arcOf 8 = .ok (.if_icmp .ne 13, 3) := by decide +kernel
theorem dX2_arcOf_11 : decode cX2_arcOf 11 = .ok (.aload_n 0, 1) := by decide +kernel
theorem dX2_arcOf_12 : decode cX2_arcOf 12 = .ok (.getfield 9, 3) := by decide +kernel
theorem dX2_arcOf_15 : decode cX2_arcOf 15 = .ok (.getfield 84, 3) := by decide +kernel
theorem dX2_arcOf_18 : decode cX2_arcOf 18 = .ok (.goto 28, 3) := by decide +kernel
theorem dX2_arcOf_21 : decode cX2_arcOf 21 = .ok (.aload_n 0, 1) := by decide +kernel
theorem dX2_arcOf_22 : decode cX2_arcOf 22 = .ok (.getfield 9, 3) := by decide +kernel
theorem dX2_arcOf_25 : decode cX2_arcOf 25 = .ok (.aload_n 0, 1) := by decide +kernel
theorem dX2_arcOf_26 : decode cX2_arcOf 26 = .ok (.getfield 9, 3) := by decide +kernel
theorem dX2_arcOf_29 : decode cX2_arcOf 29 = .ok (.getfield 27, 3) := by decide +kernel
theorem dX2_arcOf_32 : decode cX2_arcOf 32 = .ok (.iload_n 2, 1) := by decide +kernel
theorem dX2_arcOf_33 : decode cX2_arcOf 33 = .ok (.iaload, 1) := by decide +kernel
theorem dX2_arcOf_34 : decode cX2_arcOf 34 = .ok (.aload_n 0, 1) := by decide +kernel
theorem dX2_arcOf_35 : decode cX2_arcOf 35 = .ok (.getfield 9, 3) := by decide +kernel
theorem dX2_arcOf_38 : decode cX2_arcOf 38 = .ok (.getfield 27, 3) := by decide +kernel
theorem dX2_arcOf_41 : decode cX2_arcOf 41 = .ok (.iload_n 1, 1) := by decide +kernel
theorem dX2_arcOf_42 : decode cX2_arcOf 42 = .ok (.iaload, 1) := by decide +kernel
theorem dX2_arcOf_43 : decode cX2_arcOf 43 = .ok (.invokevirtual 81, 3) := by decide +kernel
theorem dX2_arcOf_46 : decode cX2_arcOf 46 = .ok (.ireturn, 1) := by decide +kernel
def fX2_arcOf (a0 : Nat) (a1 : Int) (G : Hp) : RT := bp (fX2_previousOf a0 a1 G) fun v1 => bd v1 fun v2 => if v2 = ((-1)) then (rt (G ((rf a0 0)) 0) G) else (br (rd G ((rf ((rf a0 0)) 5)) 8 v2) fun v3 => br (rd G ((rf ((rf a0 0)) 5)) 8 a1) fun v4 => bp (fX8_way ((rf a0 0)) v3 v4 G) fun v5 => rt v5 G)
theorem pX2_arcOf {G : Hp} {a0 : Nat} {a1 : Int} : PU G (fX2_arcOf a0 a1 G) := by
  unfold fX2_arcOf
  refine PU_bp (fun v1 => ?_)
  refine PU_bd (fun v2 => ?_)
  refine PU_ite ?_ ?_
  · exact PU_rt
  · refine PU_br (fun v3 => ?_)
    refine PU_br (fun v4 => ?_)
    refine PU_bp (fun v5 => ?_)
    exact PU_rt
set_option maxRecDepth 20000 in
set_option maxHeartbeats 4000000 in
theorem tX2_arcOf (l : Launch) (x : WX) (hi : Inj x.2.2) (G : Hp) (a0 : Nat) (a1 : Int) (ha0 : kd a0 = 2) : Ct l x yX2_arcOf cX2_arcOf 3 (some .int) 3 129 129 [vR a0, vI a1] G (fX2_arcOf a0 a1 G) := by
  refine ct_of (plainFor_of_name (by decide)) hi (Nat.le_refl _) (Nat.le_refl _) (Nat.le_of_ble_eq_true rfl) (fun cx F hd hn0 hnE hl hQ => ?_)
  subst hl
  have F : Fx cx x RX2 cX2_arcOf 3 (some .int) := F
  show Y cx x 3 (some .int) 129 0 [(0, vR a0), (1, vI a1)] [] G _
  unfold fX2_arcOf
  refine x_aload_n F dX2_arcOf_0 rfl rfl rfl ?_
  refine x_iload_n F dX2_arcOf_1 rfl rfl rfl ?_
  refine s_callVP F [vI a1] [] lkX2_94 mX2_previousOf rfl ha0 rfl hnE hn0 hd pX2_previousOf (tX2_previousOf cx.l x hi G a0 a1 ha0) rfl rfl dX2_arcOf_2 rfl rfl (fun v1 => ?_)
  refine x_istore_n F dX2_arcOf_5 rfl (by decide) rfl rfl (fun v2 => ?_)
  show Y cx x _ _ _ _ [(0, vR a0), (1, vI a1), (2, vI v2)] _ _ _
  refine x_iload_n F dX2_arcOf_6 rfl rfl rfl ?_
  refine x_iconst F dX2_arcOf_7 ⟨by decide, by decide⟩ rfl ?_
  refine x_icmpne (pt := 21) F dX2_arcOf_8 rfl rfl ?_ ?_
  · refine x_aload_n F dX2_arcOf_11 rfl rfl rfl ?_
    refine x_getR F flX2_9 ha0 rfl dX2_arcOf_12 rfl ?_
    refine s_getI F flX2_84 (tf2_0 ha0).1 rfl dX2_arcOf_15 rfl ?_
    refine x_goto (pc' := 46) F dX2_arcOf_18 rfl ?_
    exact x_iret F hnE hQ dX2_arcOf_46
  · refine x_aload_n F dX2_arcOf_21 rfl rfl rfl ?_
    refine x_getR F flX2_9 ha0 rfl dX2_arcOf_22 rfl ?_
    refine x_aload_n F dX2_arcOf_25 rfl rfl rfl ?_
    refine x_getR F flX2_9 ha0 rfl dX2_arcOf_26 rfl ?_
    refine x_getR F flX2_27 (tf2_0 ha0).1 rfl dX2_arcOf_29 rfl ?_
    refine x_iload_n F dX2_arcOf_32 rfl rfl rfl ?_
    refine s_iald F (tf8_5 (tf2_0 ha0).1).1 (tf8_5 (tf2_0 ha0).1).2 dX2_arcOf_33 rfl (fun v3 => ?_)
    refine x_aload_n F dX2_arcOf_34 rfl rfl rfl ?_
    refine x_getR F flX2_9 ha0 rfl dX2_arcOf_35 rfl ?_
    refine x_getR F flX2_27 (tf2_0 ha0).1 rfl dX2_arcOf_38 rfl ?_
    refine x_iload_n F dX2_arcOf_41 rfl rfl rfl ?_
    refine s_iald F (tf8_5 (tf2_0 ha0).1).1 (tf8_5 (tf2_0 ha0).1).2 dX2_arcOf_42 rfl (fun v4 => ?_)
    refine s_callVP F [vI v3, vI v4] [] lkX2_81 mX8_way rfl (tf2_0 ha0).1 rfl hnE hn0 hd pX8_way (tX8_way cx.l x hi G ((rf a0 0)) v3 v4 (tf2_0 ha0).1) rfl rfl dX2_arcOf_43 rfl rfl (fun v5 => ?_)
    exact x_iret F hnE hQ dX2_arcOf_46
theorem dX2_mostSteps_0 : decode cX2_mostSteps 0 = .ok (.iconst 0, 1) := by decide +kernel
theorem dX2_mostSteps_1 : decode cX2_mostSteps 1 = .ok (.istore_n 2, 1) := by decide +kernel
theorem dX2_mostSteps_2 : decode cX2_mostSteps 2 = .ok (.iconst 0, 1) := by decide +kernel
theorem dX2_mostSteps_3 : decode cX2_mostSteps 3 = .ok (.istore_n 3, 1) := by decide +kernel
theorem dX2_mostSteps_4 : decode cX2_mostSteps 4 = .ok (.iload_n 3, 1) := by decide +kernel
theorem dX2_mostSteps_5 : decode cX2_mostSteps 5 = .ok (.aload_n 0, 1) := by decide +kernel
theorem dX2_mostSteps_6 : decode cX2_mostSteps 6 = .ok (.getfield 9, 3) := by decide +kernel
theorem dX2_mostSteps_9 : decode cX2_mostSteps 9 = .ok (.getfield 37, 3) := by decide +kernel
theorem dX2_mostSteps_12 : decode cX2_mostSteps 12 = .ok (.if_icmp .ge 41, 3) := by decide +kernel
theorem dX2_mostSteps_15 : decode cX2_mostSteps 15 = .ok (.aload_n 0, 1) := by decide +kernel
theorem dX2_mostSteps_16 : decode cX2_mostSteps 16 = .ok (.getfield 19, 3) := by decide +kernel
theorem dX2_mostSteps_19 : decode cX2_mostSteps 19 = .ok (.iload_n 1, 1) := by decide +kernel
theorem dX2_mostSteps_20 : decode cX2_mostSteps 20 = .ok (.aload_n 0, 1) := by decide +kernel
theorem dX2_mostSteps_21 : decode cX2_mostSteps 21 = .ok (.getfield 9, 3) := by decide +kernel
theorem dX2_mostSteps_24 : decode cX2_mostSteps 24 = .ok (.getfield 47, 3) := by decide +kernel
theorem dX2_mostSteps_27 : decode cX2_mostSteps 27 = .ok (.iload_n 3, 1) := by decide +kernel
theorem dX2_mostSteps_28 : decode cX2_mostSteps 28 = .ok (.iaload, 1) := by decide +kernel
theorem dX2_mostSteps_29 : decode cX2_mostSteps 29 = .ok (.invokevirtual 109, 3) := by decide +kernel
theorem dX2_mostSteps_32 : decode cX2_mostSteps 32 = .ok (.ifCond .eq 15, 3) := by decide +kernel
theorem dX2_mostSteps_35 : decode cX2_mostSteps 35 = .ok (.iload_n 2, 1) := by decide +kernel
theorem dX2_mostSteps_36 : decode cX2_mostSteps 36 = .ok (.aload_n 0, 1) := by decide +kernel
theorem dX2_mostSteps_37 : decode cX2_mostSteps 37 = .ok (.getfield 19, 3) := by decide +kernel
theorem dX2_mostSteps_40 : decode cX2_mostSteps 40 = .ok (.getfield 114, 3) := by decide +kernel
theorem dX2_mostSteps_43 : decode cX2_mostSteps 43 = .ok (.invokestatic 117, 3) := by decide +kernel
theorem dX2_mostSteps_46 : decode cX2_mostSteps 46 = .ok (.istore_n 2, 1) := by decide +kernel
theorem dX2_mostSteps_47 : decode cX2_mostSteps 47 = .ok (.iinc 3 1, 3) := by decide +kernel
theorem dX2_mostSteps_50 : decode cX2_mostSteps 50 = .ok (.goto (-46), 3) := by decide +kernel
theorem dX2_mostSteps_53 : decode cX2_mostSteps 53 = .ok (.iload_n 2, 1) := by decide +kernel
theorem dX2_mostSteps_54 : decode cX2_mostSteps 54 = .ok (.ireturn, 1) := by decide +kernel
def fX2_mostSteps (a0 : Nat) (a1 : Int) (G : Hp) : RT := bd 0 fun v1 => bd 0 fun v2 => (lp (fun (_ : Int) (_ : Int) (_ : Hp) => (none : RT)) 5000 (fun (rc6 : Int → Int → Hp → RT) (v3 : Int) (v4 : Int) (G5 : Hp) => if v4 < (G5 ((rf a0 0)) 3) then (br (rd G5 ((rf ((rf a0 0)) 8)) 10 v4) fun v7 => bn (fX1_seek ((rf a0 2)) a1 v7 G5) fun v8 G9 => jn (fun (v10 : Int) => bd (iadd v4 1) fun v12 => rc6 v10 v12 G9) fun (K11 : Int → RT) => if v8 = 0 then K11 v3 else (bd ((if v3 < (G9 ((rf a0 2)) 4) then G9 ((rf a0 2)) 4 else v3)) fun v13 => K11 v13)) else rt v3 G5)) v1 v2 G
set_option maxRecDepth 20000 in
set_option maxHeartbeats 4000000 in
theorem tX2_mostSteps (l : Launch) (x : WX) (hi : Inj x.2.2) (G : Hp) (a0 : Nat) (a1 : Int) (ha0 : kd a0 = 2) : Ct l x yX2_mostSteps cX2_mostSteps 4 (some .int) 3 129 129 [vR a0, vI a1] G (fX2_mostSteps a0 a1 G) := by
  refine ct_of (plainFor_of_name (by decide)) hi (Nat.le_refl _) (Nat.le_refl _) (Nat.le_of_ble_eq_true rfl) (fun cx F hd hn0 hnE hl hQ => ?_)
  subst hl
  have F : Fx cx x RX2 cX2_mostSteps 4 (some .int) := F
  show Y cx x 4 (some .int) 129 0 [(0, vR a0), (1, vI a1)] [] G _
  unfold fX2_mostSteps
  refine x_iconst F dX2_mostSteps_0 ⟨by decide, by decide⟩ rfl ?_
  refine x_istore_n F dX2_mostSteps_1 rfl (by decide) rfl rfl (fun v1 => ?_)
  show Y cx x _ _ _ _ [(0, vR a0), (1, vI a1), (2, vI v1)] _ _ _
  refine x_iconst F dX2_mostSteps_2 ⟨by decide, by decide⟩ rfl ?_
  refine x_istore_n F dX2_mostSteps_3 rfl (by decide) rfl rfl (fun v2 => ?_)
  show Y cx x _ _ _ _ [(0, vR a0), (1, vI a1), (2, vI v1), (3, vI v2)] _ _ _
  refine x_lp (fun (rc6 : Int → Int → Hp → RT) => ∀ (v3 : Int) (v4 : Int) (G5 : Hp), Y cx x 4 (some .int) 129 4 [(0, vR a0), (1, vI a1), (2, vI v3), (3, vI v4)] [] G5 (rc6 v3 v4 G5)) (fun _ _ _ => Y_none) (fun rc6 hrc6 v3 v4 G5 => ?_) 5000 v1 v2 G
  refine x_iload_n F dX2_mostSteps_4 rfl rfl rfl ?_
  refine x_aload_n F dX2_mostSteps_5 rfl rfl rfl ?_
  refine x_getR F flX2_9 ha0 rfl dX2_mostSteps_6 rfl ?_
  refine s_getI F flX2_37 (tf2_0 ha0).1 rfl dX2_mostSteps_9 rfl ?_
  refine x_icmpge (pt := 53) F dX2_mostSteps_12 rfl rfl ?_ ?_
  · refine x_aload_n F dX2_mostSteps_15 rfl rfl rfl ?_
    refine x_getR F flX2_19 ha0 rfl dX2_mostSteps_16 rfl ?_
    refine x_iload_n F dX2_mostSteps_19 rfl rfl rfl ?_
    refine x_aload_n F dX2_mostSteps_20 rfl rfl rfl ?_
    refine x_getR F flX2_9 ha0 rfl dX2_mostSteps_21 rfl ?_
    refine x_getR F flX2_47 (tf2_0 ha0).1 rfl dX2_mostSteps_24 rfl ?_
    refine x_iload_n F dX2_mostSteps_27 rfl rfl rfl ?_
    refine s_iald F (tf8_8 (tf2_0 ha0).1).1 (tf8_8 (tf2_0 ha0).1).2 dX2_mostSteps_28 rfl (fun v7 => ?_)
    refine s_callV F [vI a1, vI v7] [] lkX2_109 mX1_seek rfl (tf2_2 ha0).1 rfl hnE hn0 hd (tX1_seek cx.l x hi G5 ((rf a0 2)) a1 v7 (tf2_2 ha0).1) rfl rfl dX2_mostSteps_29 rfl rfl (fun v8 G9 => ?_)
    refine x_jn (fun (K11 : Int → RT) => ∀ (v10 : Int), Y cx x 4 (some .int) 129 47 [(0, vR a0), (1, vI a1), (2, vI v10), (3, vI v4)] [] G9 (K11 v10)) ?_ (fun K11 hK11 => ?_)
    · intro v10
      refine x_iinc F dX2_mostSteps_47 rfl (by decide) rfl rfl (fun v12 => ?_)
      show Y cx x _ _ _ _ [(0, vR a0), (1, vI a1), (2, vI v10), (3, vI v12)] _ _ _
      refine x_goto (pc' := 4) F dX2_mostSteps_50 rfl ?_
      exact hrc6 v10 v12 G9
    · refine x_ifeq (pt := 47) F dX2_mostSteps_32 rfl rfl ?_ ?_
      · exact hK11 v3
      · refine x_iload_n F dX2_mostSteps_35 rfl rfl rfl ?_
        refine x_aload_n F dX2_mostSteps_36 rfl rfl rfl ?_
        refine x_getR F flX2_19 ha0 rfl dX2_mostSteps_37 rfl ?_
        refine s_getI F flX2_114 (tf2_2 ha0).1 rfl dX2_mostSteps_40 rfl ?_
        refine x_mmax F lkX2_117 mmmax1 mmIni mmmax2 (Nat.le_of_eq hnE.symm) (le_d (d' := 0) hd rfl) (Nat.le_of_ble_eq_true rfl) dX2_mostSteps_43 rfl ?_
        refine x_istore_n F dX2_mostSteps_46 rfl (by decide) rfl rfl (fun v13 => ?_)
        show Y cx x _ _ _ _ [(0, vR a0), (1, vI a1), (2, vI v13), (3, vI v4)] _ _ _
        exact hK11 v13
  · refine x_iload_n F dX2_mostSteps_53 rfl rfl rfl ?_
    exact x_iret F hnE hQ dX2_mostSteps_54
theorem dX2_allSteps_0 : decode cX2_allSteps 0 = .ok (.iconst 0, 1) := by decide +kernel
theorem dX2_allSteps_1 : decode cX2_allSteps 1 = .ok (.istore_n 2, 1) := by decide +kernel
theorem dX2_allSteps_2 : decode cX2_allSteps 2 = .ok (.iconst 0, 1) := by decide +kernel
theorem dX2_allSteps_3 : decode cX2_allSteps 3 = .ok (.istore_n 3, 1) := by decide +kernel
theorem dX2_allSteps_4 : decode cX2_allSteps 4 = .ok (.iload_n 3, 1) := by decide +kernel
theorem dX2_allSteps_5 : decode cX2_allSteps 5 = .ok (.aload_n 0, 1) := by decide +kernel
theorem dX2_allSteps_6 : decode cX2_allSteps 6 = .ok (.getfield 9, 3) := by decide +kernel
theorem dX2_allSteps_9 : decode cX2_allSteps 9 = .ok (.getfield 37, 3) := by decide +kernel
theorem dX2_allSteps_12 : decode cX2_allSteps 12 = .ok (.if_icmp .ge 39, 3) := by decide +kernel
theorem dX2_allSteps_15 : decode cX2_allSteps 15 = .ok (.aload_n 0, 1) := by decide +kernel
theorem dX2_allSteps_16 : decode cX2_allSteps 16 = .ok (.getfield 19, 3) := by decide +kernel
theorem dX2_allSteps_19 : decode cX2_allSteps 19 = .ok (.iload_n 1, 1) := by decide +kernel
theorem dX2_allSteps_20 : decode cX2_allSteps 20 = .ok (.aload_n 0, 1) := by decide +kernel
theorem dX2_allSteps_21 : decode cX2_allSteps 21 = .ok (.getfield 9, 3) := by decide +kernel
theorem dX2_allSteps_24 : decode cX2_allSteps 24 = .ok (.getfield 47, 3) := by decide +kernel
theorem dX2_allSteps_27 : decode cX2_allSteps 27 = .ok (.iload_n 3, 1) := by decide +kernel
theorem dX2_allSteps_28 : decode cX2_allSteps 28 = .ok (.iaload, 1) := by decide +kernel
theorem dX2_allSteps_29 : decode cX2_allSteps 29 = .ok (.invokevirtual 109, 3) := by decide +kernel
theorem dX2_allSteps_32 : decode cX2_allSteps 32 = .ok (.ifCond .eq 13, 3) := by decide +kernel
theorem dX2_allSteps_35 : decode cX2_allSteps 35 = .ok (.iload_n 2, 1) := by decide +kernel
theorem dX2_allSteps_36 : decode cX2_allSteps 36 = .ok (.aload_n 0, 1) := by decide +kernel
theorem dX2_allSteps_37 : decode cX2_allSteps 37 = .ok (.getfield 19, 3) := by decide +kernel
theorem dX2_allSteps_40 : decode cX2_allSteps 40 = .ok (.getfield 114, 3) := by decide +kernel
theorem dX2_allSteps_43 : decode cX2_allSteps 43 = .ok (.iadd, 1) := by decide +kernel
theorem dX2_allSteps_44 : decode cX2_allSteps 44 = .ok (.istore_n 2, 1) := by decide +kernel
theorem dX2_allSteps_45 : decode cX2_allSteps 45 = .ok (.iinc 3 1, 3) := by decide +kernel
theorem dX2_allSteps_48 : decode cX2_allSteps 48 = .ok (.goto (-44), 3) := by decide +kernel
theorem dX2_allSteps_51 : decode cX2_allSteps 51 = .ok (.iload_n 2, 1) := by decide +kernel
theorem dX2_allSteps_52 : decode cX2_allSteps 52 = .ok (.ireturn, 1) := by decide +kernel
def fX2_allSteps (a0 : Nat) (a1 : Int) (G : Hp) : RT := bd 0 fun v1 => bd 0 fun v2 => (lp (fun (_ : Int) (_ : Int) (_ : Hp) => (none : RT)) 5000 (fun (rc6 : Int → Int → Hp → RT) (v3 : Int) (v4 : Int) (G5 : Hp) => if v4 < (G5 ((rf a0 0)) 3) then (br (rd G5 ((rf ((rf a0 0)) 8)) 10 v4) fun v7 => bn (fX1_seek ((rf a0 2)) a1 v7 G5) fun v8 G9 => jn (fun (v10 : Int) => bd (iadd v4 1) fun v12 => rc6 v10 v12 G9) fun (K11 : Int → RT) => if v8 = 0 then K11 v3 else (bd (iadd v3 (G9 ((rf a0 2)) 4)) fun v13 => K11 v13)) else rt v3 G5)) v1 v2 G
set_option maxRecDepth 20000 in
set_option maxHeartbeats 4000000 in
theorem tX2_allSteps (l : Launch) (x : WX) (hi : Inj x.2.2) (G : Hp) (a0 : Nat) (a1 : Int) (ha0 : kd a0 = 2) : Ct l x yX2_allSteps cX2_allSteps 4 (some .int) 3 129 129 [vR a0, vI a1] G (fX2_allSteps a0 a1 G) := by
  refine ct_of (plainFor_of_name (by decide)) hi (Nat.le_refl _) (Nat.le_refl _) (Nat.le_of_ble_eq_true rfl) (fun cx F hd hn0 hnE hl hQ => ?_)
  subst hl
  have F : Fx cx x RX2 cX2_allSteps 4 (some .int) := F
  show Y cx x 4 (some .int) 129 0 [(0, vR a0), (1, vI a1)] [] G _
  unfold fX2_allSteps
  refine x_iconst F dX2_allSteps_0 ⟨by decide, by decide⟩ rfl ?_
  refine x_istore_n F dX2_allSteps_1 rfl (by decide) rfl rfl (fun v1 => ?_)
  show Y cx x _ _ _ _ [(0, vR a0), (1, vI a1), (2, vI v1)] _ _ _
  refine x_iconst F dX2_allSteps_2 ⟨by decide, by decide⟩ rfl ?_
  refine x_istore_n F dX2_allSteps_3 rfl (by decide) rfl rfl (fun v2 => ?_)
  show Y cx x _ _ _ _ [(0, vR a0), (1, vI a1), (2, vI v1), (3, vI v2)] _ _ _
  refine x_lp (fun (rc6 : Int → Int → Hp → RT) => ∀ (v3 : Int) (v4 : Int) (G5 : Hp), Y cx x 4 (some .int) 129 4 [(0, vR a0), (1, vI a1), (2, vI v3), (3, vI v4)] [] G5 (rc6 v3 v4 G5)) (fun _ _ _ => Y_none) (fun rc6 hrc6 v3 v4 G5 => ?_) 5000 v1 v2 G
  refine x_iload_n F dX2_allSteps_4 rfl rfl rfl ?_
  refine x_aload_n F dX2_allSteps_5 rfl rfl rfl ?_
  refine x_getR F flX2_9 ha0 rfl dX2_allSteps_6 rfl ?_
  refine s_getI F flX2_37 (tf2_0 ha0).1 rfl dX2_allSteps_9 rfl ?_
  refine x_icmpge (pt := 51) F dX2_allSteps_12 rfl rfl ?_ ?_
  · refine x_aload_n F dX2_allSteps_15 rfl rfl rfl ?_
    refine x_getR F flX2_19 ha0 rfl dX2_allSteps_16 rfl ?_
    refine x_iload_n F dX2_allSteps_19 rfl rfl rfl ?_
    refine x_aload_n F dX2_allSteps_20 rfl rfl rfl ?_
    refine x_getR F flX2_9 ha0 rfl dX2_allSteps_21 rfl ?_
    refine x_getR F flX2_47 (tf2_0 ha0).1 rfl dX2_allSteps_24 rfl ?_
    refine x_iload_n F dX2_allSteps_27 rfl rfl rfl ?_
    refine s_iald F (tf8_8 (tf2_0 ha0).1).1 (tf8_8 (tf2_0 ha0).1).2 dX2_allSteps_28 rfl (fun v7 => ?_)
    refine s_callV F [vI a1, vI v7] [] lkX2_109 mX1_seek rfl (tf2_2 ha0).1 rfl hnE hn0 hd (tX1_seek cx.l x hi G5 ((rf a0 2)) a1 v7 (tf2_2 ha0).1) rfl rfl dX2_allSteps_29 rfl rfl (fun v8 G9 => ?_)
    refine x_jn (fun (K11 : Int → RT) => ∀ (v10 : Int), Y cx x 4 (some .int) 129 45 [(0, vR a0), (1, vI a1), (2, vI v10), (3, vI v4)] [] G9 (K11 v10)) ?_ (fun K11 hK11 => ?_)
    · intro v10
      refine x_iinc F dX2_allSteps_45 rfl (by decide) rfl rfl (fun v12 => ?_)
      show Y cx x _ _ _ _ [(0, vR a0), (1, vI a1), (2, vI v10), (3, vI v12)] _ _ _
      refine x_goto (pc' := 4) F dX2_allSteps_48 rfl ?_
      exact hrc6 v10 v12 G9
    · refine x_ifeq (pt := 45) F dX2_allSteps_32 rfl rfl ?_ ?_
      · exact hK11 v3
      · refine x_iload_n F dX2_allSteps_35 rfl rfl rfl ?_
        refine x_aload_n F dX2_allSteps_36 rfl rfl rfl ?_
        refine x_getR F flX2_19 ha0 rfl dX2_allSteps_37 rfl ?_
        refine s_getI F flX2_114 (tf2_2 ha0).1 rfl dX2_allSteps_40 rfl ?_
        refine x_iadd F dX2_allSteps_43 rfl ?_
        refine x_istore_n F dX2_allSteps_44 rfl (by decide) rfl rfl (fun v13 => ?_)
        show Y cx x _ _ _ _ [(0, vR a0), (1, vI a1), (2, vI v13), (3, vI v4)] _ _ _
        exact hK11 v13
  · refine x_iload_n F dX2_allSteps_51 rfl rfl rfl ?_
    exact x_iret F hnE hQ dX2_allSteps_52
theorem dX2_riskySets_0 : decode cX2_riskySets 0 = .ok (.iconst 0, 1) := by decide +kernel
theorem dX2_riskySets_1 : decode cX2_riskySets 1 = .ok (.istore_n 2, 1) := by decide +kernel
theorem dX2_riskySets_2 : decode cX2_riskySets 2 = .ok (.iconst 0, 1) := by decide +kernel
theorem dX2_riskySets_3 : decode cX2_riskySets 3 = .ok (.istore_n 3, 1) := by decide +kernel
theorem dX2_riskySets_4 : decode cX2_riskySets 4 = .ok (.iload_n 3, 1) := by decide +kernel
theorem dX2_riskySets_5 : decode cX2_riskySets 5 = .ok (.sipush 256, 3) := by decide +kernel
theorem dX2_riskySets_8 : decode cX2_riskySets 8 = .ok (.if_icmp .ge 64, 3) := by decide +kernel
theorem dX2_riskySets_11 : decode cX2_riskySets 11 = .ok (.iload_n 3, 1) := by decide +kernel
theorem dX2_riskySets_12 : decode cX2_riskySets 12 = .ok (.aload_n 0, 1) := by decide +kernel
theorem dX2_riskySets_13 : decode cX2_riskySets 13 = .ok (.getfield 15, 3) := by decide +kernel
theorem dX2_riskySets_16 : decode cX2_riskySets 16 = .ok (.getfield 50, 3) := by decide +kernel
theorem dX2_riskySets_19 : decode cX2_riskySets 19 = .ok (.iconst (-1), 1) := by decide +kernel
theorem dX2_riskySets_20 : decode cX2_riskySets 20 = .ok (.ixor, 1) := by decide +kernel
theorem dX2_riskySets_21 : decode cX2_riskySets 21 = .ok (.iand, 1) := by decide +kernel
theorem dX2_riskySets_22 : decode cX2_riskySets 22 = .ok (.ifCond .ne 15, 3) := by decide +kernel
theorem dX2_riskySets_25 : decode cX2_riskySets 25 = .ok (.iload_n 3, 1) := by decide +kernel
theorem dX2_riskySets_26 : decode cX2_riskySets 26 = .ok (.invokestatic 129, 3) := by decide +kernel
theorem dX2_riskySets_29 : decode cX2_riskySets 29 = .ok (.iload_n 1, 1) := by decide +kernel
theorem dX2_riskySets_30 : decode cX2_riskySets 30 = .ok (.if_icmp .ne 7, 3) := by decide +kernel
theorem dX2_riskySets_33 : decode cX2_riskySets 33 = .ok (.iconst 1, 1) := by decide +kernel
theorem dX2_riskySets_34 : decode cX2_riskySets 34 = .ok (.goto 4, 3) := by decide +kernel
theorem dX2_riskySets_37 : decode cX2_riskySets 37 = .ok (.iconst 0, 1) := by decide +kernel
theorem dX2_riskySets_38 : decode cX2_riskySets 38 = .ok (.istore 4, 2) := by decide +kernel
theorem dX2_riskySets_40 : decode cX2_riskySets 40 = .ok (.iload 4, 2) := by decide +kernel
theorem dX2_riskySets_42 : decode cX2_riskySets 42 = .ok (.ifCond .eq 24, 3) := by decide +kernel
theorem dX2_riskySets_45 : decode cX2_riskySets 45 = .ok (.aload_n 0, 1) := by decide +kernel
theorem dX2_riskySets_46 : decode cX2_riskySets 46 = .ok (.aload_n 0, 1) := by decide +kernel
theorem dX2_riskySets_47 : decode cX2_riskySets 47 = .ok (.getfield 15, 3) := by decide +kernel
theorem dX2_riskySets_50 : decode cX2_riskySets 50 = .ok (.getfield 50, 3) := by decide +kernel
theorem dX2_riskySets_53 : decode cX2_riskySets 53 = .ok (.iload_n 3, 1) := by decide +kernel
theorem dX2_riskySets_54 : decode cX2_riskySets 54 = .ok (.iconst (-1), 1) := by decide +kernel
theorem dX2_riskySets_55 : decode cX2_riskySets 55 = .ok (.ixor, 1) := by decide +kernel
theorem dX2_riskySets_56 : decode cX2_riskySets 56 = .ok (.iand, 1) := by decide +kernel
theorem dX2_riskySets_57 : decode cX2_riskySets 57 = .ok (.invokevirtual 134, 3) := by decide +kernel
theorem dX2_riskySets_60 : decode cX2_riskySets 60 = .ok (.ifCond .eq 6, 3) := by decide +kernel
theorem dX2_riskySets_63 : decode cX2_riskySets 63 = .ok (.iinc 2 1, 3) := by decide +kernel
theorem dX2_riskySets_66 : decode cX2_riskySets 66 = .ok (.iinc 3 1, 3) := by decide +kernel
theorem dX2_riskySets_69 : decode cX2_riskySets 69 = .ok (.goto (-65), 3) := by decide +kernel
theorem dX2_riskySets_72 : decode cX2_riskySets 72 = .ok (.iload_n 2, 1) := by decide +kernel
theorem dX2_riskySets_73 : decode cX2_riskySets 73 = .ok (.ireturn, 1) := by decide +kernel
def fX2_riskySets (a0 : Nat) (a1 : Int) (G : Hp) : RT := bd 0 fun v1 => bd 0 fun v2 => (lp (fun (_ : Int) (_ : Int) => (none : RT)) 5000 (fun (rc5 : Int → Int → RT) (v3 : Int) (v4 : Int) => if v4 < 256 then (jn (fun (v6 : Int) => bd v6 fun v8 => jn (fun (v9 : Int) => bd (iadd v4 1) fun v11 => rc5 v9 v11) fun (K10 : Int → RT) => if v8 = 0 then K10 v3 else (bp (fX2_leavesOneAlone a0 (iand (G ((rf a0 1)) 1) (ixor v4 ((-1)))) G) fun v12 => if v12 = 0 then K10 v3 else (bd (iadd v3 1) fun v13 => K10 v13))) fun (K7 : Int → RT) => jn (K7 0) fun (K14 : RT) => if (iand v4 (ixor (G ((rf a0 1)) 1) ((-1)))) = 0 then (bp (fJ6_bitCount_0f7a4 v4 G) fun v15 => if v15 = a1 then K7 1 else K14) else K14) else rt v3 G)) v1 v2
theorem pX2_riskySets {G : Hp} {a0 : Nat} {a1 : Int} : PU G (fX2_riskySets a0 a1 G) := by
  unfold fX2_riskySets
  refine PU_bd (fun v1 => ?_)
  refine PU_bd (fun v2 => ?_)
  refine x_lp (fun (rc5 : Int → Int → RT) => ∀ (v3 : Int) (v4 : Int), PU G (rc5 v3 v4)) (fun _ _ => PU_none) (fun rc5 phrc5 v3 v4 => ?_) 5000 v1 v2
  refine PU_ite ?_ ?_
  · refine PU_jn (fun (K7 : Int → RT) => ∀ (v6 : Int), PU G (K7 v6)) ?_ (fun K7 phK7 => ?_)
    · intro v6
      refine PU_bd (fun v8 => ?_)
      refine PU_jn (fun (K10 : Int → RT) => ∀ (v9 : Int), PU G (K10 v9)) ?_ (fun K10 phK10 => ?_)
      · intro v9
        refine PU_bd (fun v11 => ?_)
        exact phrc5 v9 v11
      · refine PU_ite ?_ ?_
        · exact phK10 v3
        · refine PU_bp (fun v12 => ?_)
          refine PU_ite ?_ ?_
          · exact phK10 v3
          · refine PU_bd (fun v13 => ?_)
            exact phK10 v13
    · refine PU_jn (fun (K14 : RT) => PU G (K14)) ?_ (fun K14 phK14 => ?_)
      · exact phK7 0
      · refine PU_ite ?_ ?_
        · refine PU_bp (fun v15 => ?_)
          refine PU_ite ?_ ?_
          · exact phK7 1
          · exact phK14
        · exact phK14
  · exact PU_rt
set_option maxRecDepth 20000 in
set_option maxHeartbeats 4000000 in
theorem tX2_riskySets (l : Launch) (x : WX) (hi : Inj x.2.2) (G : Hp) (a0 : Nat) (a1 : Int) (ha0 : kd a0 = 2) : Ct l x yX2_riskySets cX2_riskySets 5 (some .int) 3 129 129 [vR a0, vI a1] G (fX2_riskySets a0 a1 G) := by
  refine ct_of (plainFor_of_name (by decide)) hi (Nat.le_refl _) (Nat.le_refl _) (Nat.le_of_ble_eq_true rfl) (fun cx F hd hn0 hnE hl hQ => ?_)
  subst hl
  have F : Fx cx x RX2 cX2_riskySets 5 (some .int) := F
  show Y cx x 5 (some .int) 129 0 [(0, vR a0), (1, vI a1)] [] G _
  unfold fX2_riskySets
  refine x_iconst F dX2_riskySets_0 ⟨by decide, by decide⟩ rfl ?_
  refine x_istore_n F dX2_riskySets_1 rfl (by decide) rfl rfl (fun v1 => ?_)
  show Y cx x _ _ _ _ [(0, vR a0), (1, vI a1), (2, vI v1)] _ _ _
  refine x_iconst F dX2_riskySets_2 ⟨by decide, by decide⟩ rfl ?_
  refine x_istore_n F dX2_riskySets_3 rfl (by decide) rfl rfl (fun v2 => ?_)
  show Y cx x _ _ _ _ [(0, vR a0), (1, vI a1), (2, vI v1), (3, vI v2)] _ _ _
  refine x_lp (fun (rc5 : Int → Int → RT) => ∀ (v3 : Int) (v4 : Int), Y cx x 5 (some .int) 129 4 [(0, vR a0), (1, vI a1), (2, vI v3), (3, vI v4)] [] G (rc5 v3 v4)) (fun _ _ => Y_none) (fun rc5 hrc5 v3 v4 => ?_) 5000 v1 v2
  refine x_iload_n F dX2_riskySets_4 rfl rfl rfl ?_
  refine x_sipush F dX2_riskySets_5 ⟨by decide, by decide⟩ (by decide) rfl ?_
  refine x_icmpge (pt := 72) F dX2_riskySets_8 rfl rfl ?_ ?_
  · refine x_iload_n F dX2_riskySets_11 rfl rfl rfl ?_
    refine x_aload_n F dX2_riskySets_12 rfl rfl rfl ?_
    refine x_getR F flX2_15 ha0 rfl dX2_riskySets_13 rfl ?_
    refine s_getI F flX2_50 (tf2_1 ha0).1 rfl dX2_riskySets_16 rfl ?_
    refine x_iconst F dX2_riskySets_19 ⟨by decide, by decide⟩ rfl ?_
    refine x_ixor F dX2_riskySets_20 rfl ?_
    refine x_iand F dX2_riskySets_21 rfl ?_
    refine x_jn (fun (K7 : Int → RT) => ∀ (v6 : Int), Y cx x 5 (some .int) 129 38 [(0, vR a0), (1, vI a1), (2, vI v3), (3, vI v4)] [vI v6] G (K7 v6)) ?_ (fun K7 hK7 => ?_)
    · intro v6
      refine x_istore F dX2_riskySets_38 (by decide) rfl rfl (fun v8 => ?_)
      show Y cx x _ _ _ _ [(0, vR a0), (1, vI a1), (2, vI v3), (3, vI v4), (4, vI v8)] _ _ _
      refine x_iload F dX2_riskySets_40 rfl rfl ?_
      refine x_jn (fun (K10 : Int → RT) => ∀ (v9 : Int), Y cx x 5 (some .int) 129 66 [(0, vR a0), (1, vI a1), (2, vI v9), (3, vI v4)] [] G (K10 v9)) ?_ (fun K10 hK10 => ?_)
      · intro v9
        refine x_iinc F dX2_riskySets_66 rfl (by decide) rfl rfl (fun v11 => ?_)
        show Y cx x _ _ _ _ [(0, vR a0), (1, vI a1), (2, vI v9), (3, vI v11)] _ _ _
        refine x_goto (pc' := 4) F dX2_riskySets_69 rfl ?_
        exact hrc5 v9 v11
      · refine x_ifeq (pt := 66) F dX2_riskySets_42 rfl rfl ?_ ?_
        · refine x_dp (L' := [(0, vR a0), (1, vI a1), (2, vI v3), (3, vI v4)]) [0, 1, 2, 3] rfl ?_
          exact hK10 v3
        · refine x_aload_n F dX2_riskySets_45 rfl rfl rfl ?_
          refine x_aload_n F dX2_riskySets_46 rfl rfl rfl ?_
          refine x_getR F flX2_15 ha0 rfl dX2_riskySets_47 rfl ?_
          refine s_getI F flX2_50 (tf2_1 ha0).1 rfl dX2_riskySets_50 rfl ?_
          refine x_iload_n F dX2_riskySets_53 rfl rfl rfl ?_
          refine x_iconst F dX2_riskySets_54 ⟨by decide, by decide⟩ rfl ?_
          refine x_ixor F dX2_riskySets_55 rfl ?_
          refine x_iand F dX2_riskySets_56 rfl ?_
          refine s_callVP F [vI (iand (G ((rf a0 1)) 1) (ixor v4 ((-1))))] [] lkX2_134 mX2_leavesOneAlone rfl ha0 rfl hnE hn0 hd pX2_leavesOneAlone (tX2_leavesOneAlone cx.l x hi G a0 (iand (G ((rf a0 1)) 1) (ixor v4 ((-1)))) ha0) rfl rfl dX2_riskySets_57 rfl rfl (fun v12 => ?_)
          refine x_ifeq (pt := 66) F dX2_riskySets_60 rfl rfl ?_ ?_
          · refine x_dp (L' := [(0, vR a0), (1, vI a1), (2, vI v3), (3, vI v4)]) [0, 1, 2, 3] rfl ?_
            exact hK10 v3
          · refine x_iinc F dX2_riskySets_63 rfl (by decide) rfl rfl (fun v13 => ?_)
            show Y cx x _ _ _ _ [(0, vR a0), (1, vI a1), (2, vI v13), (3, vI v4), (4, vI v8)] _ _ _
            refine x_dp (L' := [(0, vR a0), (1, vI a1), (2, vI v13), (3, vI v4)]) [0, 1, 2, 3] rfl ?_
            exact hK10 v13
    · refine x_jn (fun (K14 : RT) => Y cx x 5 (some .int) 129 37 [(0, vR a0), (1, vI a1), (2, vI v3), (3, vI v4)] [] G K14) ?_ (fun K14 hK14 => ?_)
      · refine x_iconst F dX2_riskySets_37 ⟨by decide, by decide⟩ rfl ?_
        exact hK7 0
      · refine x_ifne (pt := 37) F dX2_riskySets_22 rfl rfl ?_ ?_
        · refine x_iload_n F dX2_riskySets_25 rfl rfl rfl ?_
          refine s_callSP F [vI v4] [] lkX2_129 mJ6_bitCount_0f7a4 hnE hn0 hd pJ6_bitCount_0f7a4 (tJ6_bitCount_0f7a4 cx.l x hi G v4) rfl rfl dX2_riskySets_26 rfl rfl (fun v15 => ?_)
          refine x_iload_n F dX2_riskySets_29 rfl rfl rfl ?_
          refine x_icmpne (pt := 37) F dX2_riskySets_30 rfl rfl ?_ ?_
          · refine x_iconst F dX2_riskySets_33 ⟨by decide, by decide⟩ rfl ?_
            refine x_goto (pc' := 38) F dX2_riskySets_34 rfl ?_
            exact hK7 1
          · exact hK14
        · exact hK14
  · refine x_iload_n F dX2_riskySets_72 rfl rfl rfl ?_
    exact x_iret F hnE hQ dX2_riskySets_73
theorem dX2_isOrdered_0 : decode cX2_isOrdered 0 = .ok (.aload_n 0, 1) := by decide +kernel
theorem dX2_isOrdered_1 : decode cX2_isOrdered 1 = .ok (.invokevirtual 78, 3) := by decide +kernel
theorem dX2_isOrdered_4 : decode cX2_isOrdered 4 = .ok (.iconst 1, 1) := by decide +kernel
theorem dX2_isOrdered_5 : decode cX2_isOrdered 5 = .ok (.if_icmp .eq 5, 3) := by decide +kernel
theorem dX2_isOrdered_8 : decode cX2_isOrdered 8 = .ok (.iconst 0, 1) := by decide +kernel
theorem dX2_isOrdered_9 : decode cX2_isOrdered 9 = .ok (.ireturn, 1) := by decide +kernel
theorem dX2_isOrdered_10 : decode cX2_isOrdered 10 = .ok (.aload_n 0, 1) := by decide +kernel
theorem dX2_isOrdered_11 : decode cX2_isOrdered 11 = .ok (.invokevirtual 66, 3) := by decide +kernel
theorem dX2_isOrdered_14 : decode cX2_isOrdered 14 = .ok (.istore_n 1, 1) := by decide +kernel
theorem dX2_isOrdered_15 : decode cX2_isOrdered 15 = .ok (.iconst 0, 1) := by decide +kernel
theorem dX2_isOrdered_16 : decode cX2_isOrdered 16 = .ok (.istore_n 2, 1) := by decide +kernel
theorem dX2_isOrdered_17 : decode cX2_isOrdered 17 = .ok (.iconst 0, 1) := by decide +kernel
theorem dX2_isOrdered_18 : decode cX2_isOrdered 18 = .ok (.istore_n 3, 1) := by decide +kernel
theorem dX2_isOrdered_19 : decode cX2_isOrdered 19 = .ok (.iload_n 3, 1) := by decide +kernel
theorem dX2_isOrdered_20 : decode cX2_isOrdered 20 = .ok (.bipush 8, 2) := by decide +kernel
theorem dX2_isOrdered_22 : decode cX2_isOrdered 22 = .ok (.if_icmp .ge 69, 3) := by decide +kernel
theorem dX2_isOrdered_25 : decode cX2_isOrdered 25 = .ok (.aload_n 0, 1) := by decide +kernel
theorem dX2_isOrdered_26 : decode cX2_isOrdered 26 = .ok (.getfield 15, 3) := by decide +kernel
theorem dX2_isOrdered_29 : decode cX2_isOrdered 29 = .ok (.iload_n 3, 1) := by decide +kernel
theorem dX2_isOrdered_30 : decode cX2_isOrdered 30 = .ok (.aload_n 0, 1) := by decide +kernel
theorem dX2_isOrdered_31 : decode cX2_isOrdered 31 = .ok (.getfield 15, 3) := by decide +kernel
theorem dX2_isOrdered_34 : decode cX2_isOrdered 34 = .ok (.getfield 50, 3) := by decide +kernel
theorem dX2_isOrdered_37 : decode cX2_isOrdered 37 = .ok (.invokevirtual 63, 3) := by decide +kernel
theorem dX2_isOrdered_40 : decode cX2_isOrdered 40 = .ok (.istore 4, 2) := by decide +kernel
theorem dX2_isOrdered_42 : decode cX2_isOrdered 42 = .ok (.iload_n 1, 1) := by decide +kernel
theorem dX2_isOrdered_43 : decode cX2_isOrdered 43 = .ok (.iload_n 3, 1) := by decide +kernel
theorem dX2_isOrdered_44 : decode cX2_isOrdered 44 = .ok (.invokestatic 23, 3) := by decide +kernel
theorem dX2_isOrdered_47 : decode cX2_isOrdered 47 = .ok (.ifCond .eq 38, 3) := by decide +kernel
theorem dX2_isOrdered_50 : decode cX2_isOrdered 50 = .ok (.iload 4, 2) := by decide +kernel
theorem dX2_isOrdered_52 : decode cX2_isOrdered 52 = .ok (.iconst (-1), 1) := by decide +kernel
theorem dX2_isOrdered_53 : decode cX2_isOrdered 53 = .ok (.if_icmp .eq 32, 3) := by decide +kernel
theorem dX2_isOrdered_56 : decode cX2_isOrdered 56 = .ok (.iload_n 2, 1) := by decide +kernel
theorem dX2_isOrdered_57 : decode cX2_isOrdered 57 = .ok (.aload_n 0, 1) := by decide +kernel
theorem dX2_isOrdered_58 : decode cX2_isOrdered 58 = .ok (.getfield 9, 3) := by decide +kernel
theorem dX2_isOrdered_61 : decode cX2_isOrdered 61 = .ok (.aload_n 0, 1) := by decide +kernel
theorem dX2_isOrdered_62 : decode cX2_isOrdered 62 = .ok (.getfield 9, 3) := by decide +kernel
theorem dX2_isOrdered_65 : decode cX2_isOrdered 65 = .ok (.getfield 27, 3) := by decide +kernel
theorem dX2_isOrdered_68 : decode cX2_isOrdered 68 = .ok (.iload_n 3, 1) := by decide +kernel
theorem dX2_isOrdered_69 : decode cX2_isOrdered 69 = .ok (.iaload, 1) := by decide +kernel
theorem dX2_isOrdered_70 : decode cX2_isOrdered 70 = .ok (.aload_n 0, 1) := by decide +kernel
theorem dX2_isOrdered_71 : decode cX2_isOrdered 71 = .ok (.getfield 9, 3) := by decide +kernel
theorem dX2_isOrdered_74 : decode cX2_isOrdered 74 = .ok (.getfield 27, 3) := by decide +kernel
theorem dX2_isOrdered_77 : decode cX2_isOrdered 77 = .ok (.iload 4, 2) := by decide +kernel
theorem dX2_isOrdered_79 : decode cX2_isOrdered 79 = .ok (.iaload, 1) := by decide +kernel
theorem dX2_isOrdered_80 : decode cX2_isOrdered 80 = .ok (.invokevirtual 81, 3) := by decide +kernel
theorem dX2_isOrdered_83 : decode cX2_isOrdered 83 = .ok (.iadd, 1) := by decide +kernel
theorem dX2_isOrdered_84 : decode cX2_isOrdered 84 = .ok (.istore_n 2, 1) := by decide +kernel
theorem dX2_isOrdered_85 : decode cX2_isOrdered 85 = .ok (.iinc 3 1, 3) := by decide +kernel
theorem dX2_isOrdered_88 : decode cX2_isOrdered 88 = .ok (.goto (-69), 3) := by decide +kernel
theorem dX2_isOrdered_91 : decode cX2_isOrdered 91 = .ok (.iload_n 2, 1) := by decide +kernel
theorem dX2_isOrdered_92 : decode cX2_isOrdered 92 = .ok (.aload_n 0, 1) := by decide +kernel
theorem dX2_isOrdered_93 : decode cX2_isOrdered 93 = .ok (.getfield 9, 3) := by decide +kernel
theorem dX2_isOrdered_96 : decode cX2_isOrdered 96 = .ok (.getfield 84, 3) := by decide +kernel
theorem dX2_isOrdered_99 : decode cX2_isOrdered 99 = .ok (.if_icmp .ne 7, 3) := by decide +kernel
theorem dX2_isOrdered_102 : decode cX2_isOrdered 102 = .ok (.iconst 1, 1) := by decide +kernel
theorem dX2_isOrdered_103 : decode cX2_isOrdered 103 = .ok (.goto 4, 3) := by decide +kernel
theorem dX2_isOrdered_106 : decode cX2_isOrdered 106 = .ok (.iconst 0, 1) := by decide +kernel
theorem dX2_isOrdered_107 : decode cX2_isOrdered 107 = .ok (.ireturn, 1) := by decide +kernel
def fX2_isOrdered (a0 : Nat) (G : Hp) : RT := bp (fX2_cycleCount a0 G) fun v1 => if v1 = 1 then (bp (fX2_onCycles a0 G) fun v2 => bd v2 fun v3 => bd 0 fun v4 => bd 0 fun v5 => (lp (fun (_ : Int) (_ : Int) => (none : RT)) 5000 (fun (rc8 : Int → Int → RT) (v6 : Int) (v7 : Int) => if v7 < 8 then (bp (fX6_firstOf ((rf a0 1)) v7 (G ((rf a0 1)) 1) G) fun v9 => bd v9 fun v10 => bp (fX2_has v3 v7 G) fun v11 => jn (fun (v12 : Int) => bd (iadd v7 1) fun v14 => rc8 v12 v14) fun (K13 : Int → RT) => if v11 = 0 then K13 v6 else (if v10 = ((-1)) then K13 v6 else (br (rd G ((rf ((rf a0 0)) 5)) 8 v7) fun v15 => br (rd G ((rf ((rf a0 0)) 5)) 8 v10) fun v16 => bp (fX8_way ((rf a0 0)) v15 v16 G) fun v17 => bd (iadd v6 v17) fun v18 => K13 v18))) else (if v6 = (G ((rf a0 0)) 0) then rz 1 G else rz 0 G))) v4 v5) else rz 0 G
theorem pX2_isOrdered {G : Hp} {a0 : Nat} : PU G (fX2_isOrdered a0 G) := by
  unfold fX2_isOrdered
  refine PU_bp (fun v1 => ?_)
  refine PU_ite ?_ ?_
  · refine PU_bp (fun v2 => ?_)
    refine PU_bd (fun v3 => ?_)
    refine PU_bd (fun v4 => ?_)
    refine PU_bd (fun v5 => ?_)
    refine x_lp (fun (rc8 : Int → Int → RT) => ∀ (v6 : Int) (v7 : Int), PU G (rc8 v6 v7)) (fun _ _ => PU_none) (fun rc8 phrc8 v6 v7 => ?_) 5000 v4 v5
    refine PU_ite ?_ ?_
    · refine PU_bp (fun v9 => ?_)
      refine PU_bd (fun v10 => ?_)
      refine PU_bp (fun v11 => ?_)
      refine PU_jn (fun (K13 : Int → RT) => ∀ (v12 : Int), PU G (K13 v12)) ?_ (fun K13 phK13 => ?_)
      · intro v12
        refine PU_bd (fun v14 => ?_)
        exact phrc8 v12 v14
      · refine PU_ite ?_ ?_
        · exact phK13 v6
        · refine PU_ite ?_ ?_
          · exact phK13 v6
          · refine PU_br (fun v15 => ?_)
            refine PU_br (fun v16 => ?_)
            refine PU_bp (fun v17 => ?_)
            refine PU_bd (fun v18 => ?_)
            exact phK13 v18
    · refine PU_ite ?_ ?_
      · exact PU_rz
      · exact PU_rz
  · exact PU_rz
set_option maxRecDepth 20000 in
set_option maxHeartbeats 4000000 in
theorem tX2_isOrdered (l : Launch) (x : WX) (hi : Inj x.2.2) (G : Hp) (a0 : Nat) (ha0 : kd a0 = 2) : Ct l x yX2_isOrdered cX2_isOrdered 5 (some .boolean) 4 129 129 [vR a0] G (fX2_isOrdered a0 G) := by
  refine ct_of (plainFor_of_name (by decide)) hi (Nat.le_refl _) (Nat.le_refl _) (Nat.le_of_ble_eq_true rfl) (fun cx F hd hn0 hnE hl hQ => ?_)
  subst hl
  have F : Fx cx x RX2 cX2_isOrdered 5 (some .boolean) := F
  show Y cx x 5 (some .boolean) 129 0 [(0, vR a0)] [] G _
  unfold fX2_isOrdered
  refine x_aload_n F dX2_isOrdered_0 rfl rfl rfl ?_
  refine s_callVP F [] [] lkX2_78 mX2_cycleCount rfl ha0 rfl hnE hn0 hd pX2_cycleCount (tX2_cycleCount cx.l x hi G a0 ha0) rfl rfl dX2_isOrdered_1 rfl rfl (fun v1 => ?_)
  refine x_iconst F dX2_isOrdered_4 ⟨by decide, by decide⟩ rfl ?_
  refine x_icmpeq (pt := 10) F dX2_isOrdered_5 rfl rfl ?_ ?_
  · refine x_aload_n F dX2_isOrdered_10 rfl rfl rfl ?_
    refine s_callVP F [] [] lkX2_66 mX2_onCycles rfl ha0 rfl hnE hn0 hd pX2_onCycles (tX2_onCycles cx.l x hi G a0 ha0) rfl rfl dX2_isOrdered_11 rfl rfl (fun v2 => ?_)
    refine x_istore_n F dX2_isOrdered_14 rfl (by decide) rfl rfl (fun v3 => ?_)
    show Y cx x _ _ _ _ [(0, vR a0), (1, vI v3)] _ _ _
    refine x_iconst F dX2_isOrdered_15 ⟨by decide, by decide⟩ rfl ?_
    refine x_istore_n F dX2_isOrdered_16 rfl (by decide) rfl rfl (fun v4 => ?_)
    show Y cx x _ _ _ _ [(0, vR a0), (1, vI v3), (2, vI v4)] _ _ _
    refine x_iconst F dX2_isOrdered_17 ⟨by decide, by decide⟩ rfl ?_
    refine x_istore_n F dX2_isOrdered_18 rfl (by decide) rfl rfl (fun v5 => ?_)
    show Y cx x _ _ _ _ [(0, vR a0), (1, vI v3), (2, vI v4), (3, vI v5)] _ _ _
    refine x_lp (fun (rc8 : Int → Int → RT) => ∀ (v6 : Int) (v7 : Int), Y cx x 5 (some .boolean) 129 19 [(0, vR a0), (1, vI v3), (2, vI v6), (3, vI v7)] [] G (rc8 v6 v7)) (fun _ _ => Y_none) (fun rc8 hrc8 v6 v7 => ?_) 5000 v4 v5
    refine x_iload_n F dX2_isOrdered_19 rfl rfl rfl ?_
    refine x_bipush F dX2_isOrdered_20 ⟨by decide, by decide⟩ (by decide) rfl ?_
    refine x_icmpge (pt := 91) F dX2_isOrdered_22 rfl rfl ?_ ?_
    · refine x_aload_n F dX2_isOrdered_25 rfl rfl rfl ?_
      refine x_getR F flX2_15 ha0 rfl dX2_isOrdered_26 rfl ?_
      refine x_iload_n F dX2_isOrdered_29 rfl rfl rfl ?_
      refine x_aload_n F dX2_isOrdered_30 rfl rfl rfl ?_
      refine x_getR F flX2_15 ha0 rfl dX2_isOrdered_31 rfl ?_
      refine s_getI F flX2_50 (tf2_1 ha0).1 rfl dX2_isOrdered_34 rfl ?_
      refine s_callVP F [vI v7, vI (G ((rf a0 1)) 1)] [] lkX2_63 mX6_firstOf rfl (tf2_1 ha0).1 rfl hnE hn0 hd pX6_firstOf (tX6_firstOf cx.l x hi G ((rf a0 1)) v7 (G ((rf a0 1)) 1) (tf2_1 ha0).1) rfl rfl dX2_isOrdered_37 rfl rfl (fun v9 => ?_)
      refine x_istore F dX2_isOrdered_40 (by decide) rfl rfl (fun v10 => ?_)
      show Y cx x _ _ _ _ [(0, vR a0), (1, vI v3), (2, vI v6), (3, vI v7), (4, vI v10)] _ _ _
      refine x_iload_n F dX2_isOrdered_42 rfl rfl rfl ?_
      refine x_iload_n F dX2_isOrdered_43 rfl rfl rfl ?_
      refine s_callSP F [vI v3, vI v7] [] lkX2_23 mX2_has hnE hn0 hd pX2_has (tX2_has cx.l x hi G v3 v7) rfl rfl dX2_isOrdered_44 rfl rfl (fun v11 => ?_)
      refine x_jn (fun (K13 : Int → RT) => ∀ (v12 : Int), Y cx x 5 (some .boolean) 129 85 [(0, vR a0), (1, vI v3), (2, vI v12), (3, vI v7)] [] G (K13 v12)) ?_ (fun K13 hK13 => ?_)
      · intro v12
        refine x_iinc F dX2_isOrdered_85 rfl (by decide) rfl rfl (fun v14 => ?_)
        show Y cx x _ _ _ _ [(0, vR a0), (1, vI v3), (2, vI v12), (3, vI v14)] _ _ _
        refine x_goto (pc' := 19) F dX2_isOrdered_88 rfl ?_
        exact hrc8 v12 v14
      · refine x_ifeq (pt := 85) F dX2_isOrdered_47 rfl rfl ?_ ?_
        · refine x_dp (L' := [(0, vR a0), (1, vI v3), (2, vI v6), (3, vI v7)]) [0, 1, 2, 3] rfl ?_
          exact hK13 v6
        · refine x_iload F dX2_isOrdered_50 rfl rfl ?_
          refine x_iconst F dX2_isOrdered_52 ⟨by decide, by decide⟩ rfl ?_
          refine x_icmpeq (pt := 85) F dX2_isOrdered_53 rfl rfl ?_ ?_
          · refine x_dp (L' := [(0, vR a0), (1, vI v3), (2, vI v6), (3, vI v7)]) [0, 1, 2, 3] rfl ?_
            exact hK13 v6
          · refine x_iload_n F dX2_isOrdered_56 rfl rfl rfl ?_
            refine x_aload_n F dX2_isOrdered_57 rfl rfl rfl ?_
            refine x_getR F flX2_9 ha0 rfl dX2_isOrdered_58 rfl ?_
            refine x_aload_n F dX2_isOrdered_61 rfl rfl rfl ?_
            refine x_getR F flX2_9 ha0 rfl dX2_isOrdered_62 rfl ?_
            refine x_getR F flX2_27 (tf2_0 ha0).1 rfl dX2_isOrdered_65 rfl ?_
            refine x_iload_n F dX2_isOrdered_68 rfl rfl rfl ?_
            refine s_iald F (tf8_5 (tf2_0 ha0).1).1 (tf8_5 (tf2_0 ha0).1).2 dX2_isOrdered_69 rfl (fun v15 => ?_)
            refine x_aload_n F dX2_isOrdered_70 rfl rfl rfl ?_
            refine x_getR F flX2_9 ha0 rfl dX2_isOrdered_71 rfl ?_
            refine x_getR F flX2_27 (tf2_0 ha0).1 rfl dX2_isOrdered_74 rfl ?_
            refine x_iload F dX2_isOrdered_77 rfl rfl ?_
            refine s_iald F (tf8_5 (tf2_0 ha0).1).1 (tf8_5 (tf2_0 ha0).1).2 dX2_isOrdered_79 rfl (fun v16 => ?_)
            refine s_callVP F [vI v15, vI v16] [vI v6] lkX2_81 mX8_way rfl (tf2_0 ha0).1 rfl hnE hn0 hd pX8_way (tX8_way cx.l x hi G ((rf a0 0)) v15 v16 (tf2_0 ha0).1) rfl rfl dX2_isOrdered_80 rfl rfl (fun v17 => ?_)
            refine x_iadd F dX2_isOrdered_83 rfl ?_
            refine x_dp (L' := [(0, vR a0), (1, vI v3), (2, vI v6), (3, vI v7)]) [0, 1, 2, 3] rfl ?_
            refine x_istore_n F dX2_isOrdered_84 rfl (by decide) rfl rfl (fun v18 => ?_)
            show Y cx x _ _ _ _ [(0, vR a0), (1, vI v3), (2, vI v18), (3, vI v7)] _ _ _
            exact hK13 v18
    · refine x_iload_n F dX2_isOrdered_91 rfl rfl rfl ?_
      refine x_aload_n F dX2_isOrdered_92 rfl rfl rfl ?_
      refine x_getR F flX2_9 ha0 rfl dX2_isOrdered_93 rfl ?_
      refine s_getI F flX2_84 (tf2_0 ha0).1 rfl dX2_isOrdered_96 rfl ?_
      refine x_icmpne (pt := 106) F dX2_isOrdered_99 rfl rfl ?_ ?_
      · refine x_iconst F dX2_isOrdered_102 ⟨by decide, by decide⟩ rfl ?_
        refine x_goto (pc' := 107) F dX2_isOrdered_103 rfl ?_
        exact x_zret F hnE hQ dX2_isOrdered_107
      · refine x_iconst F dX2_isOrdered_106 ⟨by decide, by decide⟩ rfl ?_
        exact x_zret F hnE hQ dX2_isOrdered_107
  · refine x_iconst F dX2_isOrdered_8 ⟨by decide, by decide⟩ rfl ?_
    exact x_zret F hnE hQ dX2_isOrdered_9
theorem dX2_widestArc_0 : decode cX2_widestArc 0 = .ok (.iconst (-1), 1) := by decide +kernel
theorem dX2_widestArc_1 : decode cX2_widestArc 1 = .ok (.istore_n 1, 1) := by decide +kernel
theorem dX2_widestArc_2 : decode cX2_widestArc 2 = .ok (.iconst 0, 1) := by decide +kernel
theorem dX2_widestArc_3 : decode cX2_widestArc 3 = .ok (.istore_n 2, 1) := by decide +kernel
theorem dX2_widestArc_4 : decode cX2_widestArc 4 = .ok (.iconst 0, 1) := by decide +kernel
theorem dX2_widestArc_5 : decode cX2_widestArc 5 = .ok (.istore_n 3, 1) := by decide +kernel
theorem dX2_widestArc_6 : decode cX2_widestArc 6 = .ok (.iload_n 3, 1) := by decide +kernel
theorem dX2_widestArc_7 : decode cX2_widestArc 7 = .ok (.bipush 8, 2) := by decide +kernel
theorem dX2_widestArc_9 : decode cX2_widestArc 9 = .ok (.if_icmp .ge 42, 3) := by decide +kernel
theorem dX2_widestArc_12 : decode cX2_widestArc 12 = .ok (.aload_n 0, 1) := by decide +kernel
theorem dX2_widestArc_13 : decode cX2_widestArc 13 = .ok (.getfield 15, 3) := by decide +kernel
theorem dX2_widestArc_16 : decode cX2_widestArc 16 = .ok (.iload_n 3, 1) := by decide +kernel
theorem dX2_widestArc_17 : decode cX2_widestArc 17 = .ok (.invokevirtual 56, 3) := by decide +kernel
theorem dX2_widestArc_20 : decode cX2_widestArc 20 = .ok (.ifCond .eq 11, 3) := by decide +kernel
theorem dX2_widestArc_23 : decode cX2_widestArc 23 = .ok (.aload_n 0, 1) := by decide +kernel
theorem dX2_widestArc_24 : decode cX2_widestArc 24 = .ok (.iload_n 3, 1) := by decide +kernel
theorem dX2_widestArc_25 : decode cX2_widestArc 25 = .ok (.invokevirtual 100, 3) := by decide +kernel
theorem dX2_widestArc_28 : decode cX2_widestArc 28 = .ok (.goto 4, 3) := by decide +kernel
theorem dX2_widestArc_31 : decode cX2_widestArc 31 = .ok (.iconst 0, 1) := by decide +kernel
theorem dX2_widestArc_32 : decode cX2_widestArc 32 = .ok (.istore 4, 2) := by decide +kernel
theorem dX2_widestArc_34 : decode cX2_widestArc 34 = .ok (.iload 4, 2) := by decide +kernel
theorem dX2_widestArc_36 : decode cX2_widestArc 36 = .ok (.iload_n 2, 1) := by decide +kernel
theorem dX2_widestArc_37 : decode cX2_widestArc 37 = .ok (.if_icmp .le 8, 3) := by decide +kernel
theorem dX2_widestArc_40 : decode cX2_widestArc 40 = .ok (.iload_n 3, 1) := by decide +kernel
theorem dX2_widestArc_41 : decode cX2_widestArc 41 = .ok (.istore_n 1, 1) := by decide +kernel
theorem dX2_widestArc_42 : decode cX2_widestArc 42 = .ok (.iload 4, 2) := by decide +kernel
theorem dX2_widestArc_44 : decode cX2_widestArc 44 = .ok (.istore_n 2, 1) := by decide +kernel
theorem dX2_widestArc_45 : decode cX2_widestArc 45 = .ok (.iinc 3 1, 3) := by decide +kernel
theorem dX2_widestArc_48 : decode cX2_widestArc 48 = .ok (.goto (-42), 3) := by decide +kernel
theorem dX2_widestArc_51 : decode cX2_widestArc 51 = .ok (.iload_n 1, 1) := by decide +kernel
theorem dX2_widestArc_52 : decode cX2_widestArc 52 = .ok (.ireturn, 1) := by decide +kernel
def fX2_widestArc (a0 : Nat) (G : Hp) : RT := bd ((-1)) fun v1 => bd 0 fun v2 => bd 0 fun v3 => (lp (fun (_ : Int) (_ : Int) (_ : Int) => (none : RT)) 5000 (fun (rc7 : Int → Int → Int → RT) (v4 : Int) (v5 : Int) (v6 : Int) => if v6 < 8 then (bp (fX6_isIn ((rf a0 1)) v6 G) fun v8 => jn (fun (v9 : Int) => bd v9 fun v11 => jn (fun (v12 : Int) (v13 : Int) => bd (iadd v6 1) fun v15 => rc7 v12 v13 v15) fun (K14 : Int → Int → RT) => if v5 < v11 then (bd v6 fun v16 => bd v11 fun v17 => K14 v16 v17) else K14 v4 v5) fun (K10 : Int → RT) => if v8 = 0 then K10 0 else (bp (fX2_arcOf a0 v6 G) fun v18 => K10 v18)) else rt v4 G)) v1 v2 v3
theorem pX2_widestArc {G : Hp} {a0 : Nat} : PU G (fX2_widestArc a0 G) := by
  unfold fX2_widestArc
  refine PU_bd (fun v1 => ?_)
  refine PU_bd (fun v2 => ?_)
  refine PU_bd (fun v3 => ?_)
  refine x_lp (fun (rc7 : Int → Int → Int → RT) => ∀ (v4 : Int) (v5 : Int) (v6 : Int), PU G (rc7 v4 v5 v6)) (fun _ _ _ => PU_none) (fun rc7 phrc7 v4 v5 v6 => ?_) 5000 v1 v2 v3
  refine PU_ite ?_ ?_
  · refine PU_bp (fun v8 => ?_)
    refine PU_jn (fun (K10 : Int → RT) => ∀ (v9 : Int), PU G (K10 v9)) ?_ (fun K10 phK10 => ?_)
    · intro v9
      refine PU_bd (fun v11 => ?_)
      refine PU_jn (fun (K14 : Int → Int → RT) => ∀ (v12 : Int) (v13 : Int), PU G (K14 v12 v13)) ?_ (fun K14 phK14 => ?_)
      · intro v12 v13
        refine PU_bd (fun v15 => ?_)
        exact phrc7 v12 v13 v15
      · refine PU_ite ?_ ?_
        · refine PU_bd (fun v16 => ?_)
          refine PU_bd (fun v17 => ?_)
          exact phK14 v16 v17
        · exact phK14 v4 v5
    · refine PU_ite ?_ ?_
      · exact phK10 0
      · refine PU_bp (fun v18 => ?_)
        exact phK10 v18
  · exact PU_rt
set_option maxRecDepth 20000 in
set_option maxHeartbeats 4000000 in
theorem tX2_widestArc (l : Launch) (x : WX) (hi : Inj x.2.2) (G : Hp) (a0 : Nat) (ha0 : kd a0 = 2) : Ct l x yX2_widestArc cX2_widestArc 5 (some .int) 4 129 129 [vR a0] G (fX2_widestArc a0 G) := by
  refine ct_of (plainFor_of_name (by decide)) hi (Nat.le_refl _) (Nat.le_refl _) (Nat.le_of_ble_eq_true rfl) (fun cx F hd hn0 hnE hl hQ => ?_)
  subst hl
  have F : Fx cx x RX2 cX2_widestArc 5 (some .int) := F
  show Y cx x 5 (some .int) 129 0 [(0, vR a0)] [] G _
  unfold fX2_widestArc
  refine x_iconst F dX2_widestArc_0 ⟨by decide, by decide⟩ rfl ?_
  refine x_istore_n F dX2_widestArc_1 rfl (by decide) rfl rfl (fun v1 => ?_)
  show Y cx x _ _ _ _ [(0, vR a0), (1, vI v1)] _ _ _
  refine x_iconst F dX2_widestArc_2 ⟨by decide, by decide⟩ rfl ?_
  refine x_istore_n F dX2_widestArc_3 rfl (by decide) rfl rfl (fun v2 => ?_)
  show Y cx x _ _ _ _ [(0, vR a0), (1, vI v1), (2, vI v2)] _ _ _
  refine x_iconst F dX2_widestArc_4 ⟨by decide, by decide⟩ rfl ?_
  refine x_istore_n F dX2_widestArc_5 rfl (by decide) rfl rfl (fun v3 => ?_)
  show Y cx x _ _ _ _ [(0, vR a0), (1, vI v1), (2, vI v2), (3, vI v3)] _ _ _
  refine x_lp (fun (rc7 : Int → Int → Int → RT) => ∀ (v4 : Int) (v5 : Int) (v6 : Int), Y cx x 5 (some .int) 129 6 [(0, vR a0), (1, vI v4), (2, vI v5), (3, vI v6)] [] G (rc7 v4 v5 v6)) (fun _ _ _ => Y_none) (fun rc7 hrc7 v4 v5 v6 => ?_) 5000 v1 v2 v3
  refine x_iload_n F dX2_widestArc_6 rfl rfl rfl ?_
  refine x_bipush F dX2_widestArc_7 ⟨by decide, by decide⟩ (by decide) rfl ?_
  refine x_icmpge (pt := 51) F dX2_widestArc_9 rfl rfl ?_ ?_
  · refine x_aload_n F dX2_widestArc_12 rfl rfl rfl ?_
    refine x_getR F flX2_15 ha0 rfl dX2_widestArc_13 rfl ?_
    refine x_iload_n F dX2_widestArc_16 rfl rfl rfl ?_
    refine s_callVP F [vI v6] [] lkX2_56 mX6_isIn rfl (tf2_1 ha0).1 rfl hnE hn0 hd pX6_isIn (tX6_isIn cx.l x hi G ((rf a0 1)) v6 (tf2_1 ha0).1) rfl rfl dX2_widestArc_17 rfl rfl (fun v8 => ?_)
    refine x_jn (fun (K10 : Int → RT) => ∀ (v9 : Int), Y cx x 5 (some .int) 129 32 [(0, vR a0), (1, vI v4), (2, vI v5), (3, vI v6)] [vI v9] G (K10 v9)) ?_ (fun K10 hK10 => ?_)
    · intro v9
      refine x_istore F dX2_widestArc_32 (by decide) rfl rfl (fun v11 => ?_)
      show Y cx x _ _ _ _ [(0, vR a0), (1, vI v4), (2, vI v5), (3, vI v6), (4, vI v11)] _ _ _
      refine x_iload F dX2_widestArc_34 rfl rfl ?_
      refine x_iload_n F dX2_widestArc_36 rfl rfl rfl ?_
      refine x_jn (fun (K14 : Int → Int → RT) => ∀ (v12 : Int) (v13 : Int), Y cx x 5 (some .int) 129 45 [(0, vR a0), (1, vI v12), (2, vI v13), (3, vI v6)] [] G (K14 v12 v13)) ?_ (fun K14 hK14 => ?_)
      · intro v12 v13
        refine x_iinc F dX2_widestArc_45 rfl (by decide) rfl rfl (fun v15 => ?_)
        show Y cx x _ _ _ _ [(0, vR a0), (1, vI v12), (2, vI v13), (3, vI v15)] _ _ _
        refine x_goto (pc' := 6) F dX2_widestArc_48 rfl ?_
        exact hrc7 v12 v13 v15
      · refine x_icmple (pt := 45) F dX2_widestArc_37 rfl rfl ?_ ?_
        · refine x_iload_n F dX2_widestArc_40 rfl rfl rfl ?_
          refine x_dp (L' := [(0, vR a0), (1, vI v4), (3, vI v6), (4, vI v11)]) [0, 1, 3, 4] rfl ?_
          refine x_istore_n F dX2_widestArc_41 rfl (by decide) rfl rfl (fun v16 => ?_)
          show Y cx x _ _ _ _ [(0, vR a0), (1, vI v16), (3, vI v6), (4, vI v11)] _ _ _
          refine x_iload F dX2_widestArc_42 rfl rfl ?_
          refine x_dp (L' := [(0, vR a0), (1, vI v16), (3, vI v6)]) [0, 1, 2] rfl ?_
          refine x_istore_n F dX2_widestArc_44 rfl (by decide) rfl rfl (fun v17 => ?_)
          show Y cx x _ _ _ _ [(0, vR a0), (1, vI v16), (3, vI v6), (2, vI v17)] _ _ _
          refine x_dp (L' := [(0, vR a0), (1, vI v16), (2, vI v17), (3, vI v6)]) [0, 1, 3, 2] rfl ?_
          exact hK14 v16 v17
        · refine x_dp (L' := [(0, vR a0), (1, vI v4), (2, vI v5), (3, vI v6)]) [0, 1, 2, 3] rfl ?_
          exact hK14 v4 v5
    · refine x_ifeq (pt := 31) F dX2_widestArc_20 rfl rfl ?_ ?_
      · refine x_iconst F dX2_widestArc_31 ⟨by decide, by decide⟩ rfl ?_
        exact hK10 0
      · refine x_aload_n F dX2_widestArc_23 rfl rfl rfl ?_
        refine x_iload_n F dX2_widestArc_24 rfl rfl rfl ?_
        refine s_callVP F [vI v6] [] lkX2_100 mX2_arcOf rfl ha0 rfl hnE hn0 hd pX2_arcOf (tX2_arcOf cx.l x hi G a0 v6 ha0) rfl rfl dX2_widestArc_25 rfl rfl (fun v18 => ?_)
        refine x_goto (pc' := 32) F dX2_widestArc_28 rfl ?_
        exact hK10 v18
  · refine x_iload_n F dX2_widestArc_51 rfl rfl rfl ?_
    exact x_iret F hnE hQ dX2_widestArc_52
