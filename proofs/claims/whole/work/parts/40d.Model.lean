theorem dX12_key_0 : decode cX12_key 0 = .ok (.aload_n 0, 1) := by decide +kernel
theorem dX12_key_1 : decode cX12_key 1 = .ok (.iconst 0, 1) := by decide +kernel
theorem dX12_key_2 : decode cX12_key 2 = .ok (.putfield 1, 3) := by decide +kernel
theorem dX12_key_5 : decode cX12_key 5 = .ok (.aload_n 0, 1) := by decide +kernel
theorem dX12_key_6 : decode cX12_key 6 = .ok (.iload_n 1, 1) := by decide +kernel
theorem dX12_key_7 : decode cX12_key 7 = .ok (.invokevirtual 398, 3) := by decide +kernel
theorem dX12_key_10 : decode cX12_key 10 = .ok (.ifCond .eq 12, 3) := by decide +kernel
theorem dX12_key_13 : decode cX12_key 13 = .ok (.iload_n 2, 1) := by decide +kernel
theorem dX12_key_14 : decode cX12_key 14 = .ok (.iconst 0, 1) := by decide +kernel
theorem dX12_key_15 : decode cX12_key 15 = .ok (.iconst 2, 1) := by decide +kernel
theorem dX12_key_16 : decode cX12_key 16 = .ok (.invokestatic 401, 3) := by decide +kernel
theorem dX12_key_19 : decode cX12_key 19 = .ok (.ifCond .ne 6, 3) := by decide +kernel
theorem dX12_key_22 : decode cX12_key 22 = .ok (.bipush (-2), 2) := by decide +kernel
theorem dX12_key_24 : decode cX12_key 24 = .ok (.ireturn, 1) := by decide +kernel
theorem dX12_key_25 : decode cX12_key 25 = .ok (.iload_n 2, 1) := by decide +kernel
theorem dX12_key_26 : decode cX12_key 26 = .ok (.ifCond .ne 12, 3) := by decide +kernel
theorem dX12_key_29 : decode cX12_key 29 = .ok (.aload_n 0, 1) := by decide +kernel
theorem dX12_key_30 : decode cX12_key 30 = .ok (.getfield 112, 3) := by decide +kernel
theorem dX12_key_33 : decode cX12_key 33 = .ok (.iload_n 1, 1) := by decide +kernel
theorem dX12_key_34 : decode cX12_key 34 = .ok (.iaload, 1) := by decide +kernel
theorem dX12_key_35 : decode cX12_key 35 = .ok (.goto 23, 3) := by decide +kernel
theorem dX12_key_38 : decode cX12_key 38 = .ok (.iload_n 2, 1) := by decide +kernel
theorem dX12_key_39 : decode cX12_key 39 = .ok (.iconst 1, 1) := by decide +kernel
theorem dX12_key_40 : decode cX12_key 40 = .ok (.if_icmp .ne 12, 3) := by decide +kernel
theorem dX12_key_43 : decode cX12_key 43 = .ok (.aload_n 0, 1) := by decide +kernel
theorem dX12_key_44 : decode cX12_key 44 = .ok (.iconst 0, 1) := by decide +kernel
theorem dX12_key_45 : decode cX12_key 45 = .ok (.iload_n 1, 1) := by decide +kernel
theorem dX12_key_46 : decode cX12_key 46 = .ok (.invokevirtual 331, 3) := by decide +kernel
theorem dX12_key_49 : decode cX12_key 49 = .ok (.goto 9, 3) := by decide +kernel
theorem dX12_key_52 : decode cX12_key 52 = .ok (.aload_n 0, 1) := by decide +kernel
theorem dX12_key_53 : decode cX12_key 53 = .ok (.iconst 0, 1) := by decide +kernel
theorem dX12_key_54 : decode cX12_key 54 = .ok (.iload_n 1, 1) := by decide +kernel
theorem dX12_key_55 : decode cX12_key 55 = .ok (.invokevirtual 414, 3) := by decide +kernel
theorem dX12_key_58 : decode cX12_key 58 = .ok (.ireturn, 1) := by decide +kernel
def fX12_key (a0 : Nat) (a1 : Int) (a2 : Int) (G : Hp) : RT := bh (up G a0 0 0) fun G1 => bp (fX12_isKey a0 a1 G1) fun v2 => if v2 = 0 then (rt ((-2)) G1) else (bp (fX12_within a2 0 2 G1) fun v3 => if v3 = 0 then (rt ((-2)) G1) else (if a2 = 0 then (br (rd G1 ((rf a0 20)) 10 a1) fun v6 => rt v6 G1) else (if a2 = 1 then (bp (fX12_holderOf a0 0 a1 G1) fun v5 => rt v5 G1) else (bp (fX12_ownerOf a0 0 a1 G1) fun v4 => rt v4 G1))))
set_option maxRecDepth 20000 in
set_option maxHeartbeats 4000000 in
theorem tX12_key (l : Launch) (x : WX) (hi : Inj x.2.2) (G : Hp) (a0 : Nat) (a1 : Int) (a2 : Int) (ha0 : kd a0 = 12) : Ct l x yX12_key cX12_key 3 (some .int) 4 129 129 [vR a0, vI a1, vI a2] G (fX12_key a0 a1 a2 G) := by
  refine ct_of (plainFor_of_name (by decide)) hi (Nat.le_refl _) (Nat.le_refl _) (Nat.le_of_ble_eq_true rfl) (fun cx F hd hn0 hnE hl hQ => ?_)
  subst hl
  have F : Fx cx x RX12 cX12_key 3 (some .int) := F
  show Y cx x 3 (some .int) 129 0 [(0, vR a0), (1, vI a1), (2, vI a2)] [] G _
  unfold fX12_key
  refine x_aload_n F dX12_key_0 rfl rfl rfl ?_
  refine x_iconst F dX12_key_1 ⟨by decide, by decide⟩ rfl ?_
  refine s_putI F fpX12_1 ha0 rfl dX12_key_2 rfl (fun G1 => ?_)
  refine x_aload_n F dX12_key_5 rfl rfl rfl ?_
  refine x_iload_n F dX12_key_6 rfl rfl rfl ?_
  refine s_callVP F [vI a1] [] lkX12_398 mX12_isKey rfl ha0 rfl hnE hn0 hd pX12_isKey (tX12_isKey cx.l x hi G1 a0 a1 ha0) rfl rfl dX12_key_7 rfl rfl (fun v2 => ?_)
  refine x_ifeq (pt := 22) F dX12_key_10 rfl rfl ?_ ?_
  · refine x_bipush F dX12_key_22 ⟨by decide, by decide⟩ (by decide) rfl ?_
    exact x_iret F hnE hQ dX12_key_24
  · refine x_iload_n F dX12_key_13 rfl rfl rfl ?_
    refine x_iconst F dX12_key_14 ⟨by decide, by decide⟩ rfl ?_
    refine x_iconst F dX12_key_15 ⟨by decide, by decide⟩ rfl ?_
    refine s_callSP F [vI a2, vI 0, vI 2] [] lkX12_401 mX12_within hnE hn0 hd pX12_within (tX12_within cx.l x hi G1 a2 0 2) rfl rfl dX12_key_16 rfl rfl (fun v3 => ?_)
    refine x_ifne (pt := 25) F dX12_key_19 rfl rfl ?_ ?_
    · refine x_bipush F dX12_key_22 ⟨by decide, by decide⟩ (by decide) rfl ?_
      exact x_iret F hnE hQ dX12_key_24
    · refine x_iload_n F dX12_key_25 rfl rfl rfl ?_
      refine x_ifne (pt := 38) F dX12_key_26 rfl rfl ?_ ?_
      · refine x_aload_n F dX12_key_29 rfl rfl rfl ?_
        refine x_getR F flX12_112 ha0 rfl dX12_key_30 rfl ?_
        refine x_iload_n F dX12_key_33 rfl rfl rfl ?_
        refine s_iald F (tf12_20 ha0).1 (tf12_20 ha0).2 dX12_key_34 rfl (fun v6 => ?_)
        refine x_goto (pc' := 58) F dX12_key_35 rfl ?_
        exact x_iret F hnE hQ dX12_key_58
      · refine x_iload_n F dX12_key_38 rfl rfl rfl ?_
        refine x_iconst F dX12_key_39 ⟨by decide, by decide⟩ rfl ?_
        refine x_icmpne (pt := 52) F dX12_key_40 rfl rfl ?_ ?_
        · refine x_aload_n F dX12_key_43 rfl rfl rfl ?_
          refine x_iconst F dX12_key_44 ⟨by decide, by decide⟩ rfl ?_
          refine x_iload_n F dX12_key_45 rfl rfl rfl ?_
          refine s_callVP F [vI 0, vI a1] [] lkX12_331 mX12_holderOf rfl ha0 rfl hnE hn0 hd pX12_holderOf (tX12_holderOf cx.l x hi G1 a0 0 a1 ha0) rfl rfl dX12_key_46 rfl rfl (fun v5 => ?_)
          refine x_goto (pc' := 58) F dX12_key_49 rfl ?_
          exact x_iret F hnE hQ dX12_key_58
        · refine x_aload_n F dX12_key_52 rfl rfl rfl ?_
          refine x_iconst F dX12_key_53 ⟨by decide, by decide⟩ rfl ?_
          refine x_iload_n F dX12_key_54 rfl rfl rfl ?_
          refine s_callVP F [vI 0, vI a1] [] lkX12_414 mX12_ownerOf rfl ha0 rfl hnE hn0 hd pX12_ownerOf (tX12_ownerOf cx.l x hi G1 a0 0 a1 ha0) rfl rfl dX12_key_55 rfl rfl (fun v4 => ?_)
          exact x_iret F hnE hQ dX12_key_58
theorem dX12_astrayBy_0 : decode cX12_astrayBy 0 = .ok (.iconst 0, 1) := by decide +kernel
theorem dX12_astrayBy_1 : decode cX12_astrayBy 1 = .ok (.istore_n 2, 1) := by decide +kernel
theorem dX12_astrayBy_2 : decode cX12_astrayBy 2 = .ok (.iconst 0, 1) := by decide +kernel
theorem dX12_astrayBy_3 : decode cX12_astrayBy 3 = .ok (.istore_n 3, 1) := by decide +kernel
theorem dX12_astrayBy_4 : decode cX12_astrayBy 4 = .ok (.iload_n 3, 1) := by decide +kernel
theorem dX12_astrayBy_5 : decode cX12_astrayBy 5 = .ok (.aload_n 0, 1) := by decide +kernel
theorem dX12_astrayBy_6 : decode cX12_astrayBy 6 = .ok (.invokevirtual 229, 3) := by decide +kernel
theorem dX12_astrayBy_9 : decode cX12_astrayBy 9 = .ok (.if_icmp .ge 43, 3) := by decide +kernel
theorem dX12_astrayBy_12 : decode cX12_astrayBy 12 = .ok (.aload_n 0, 1) := by decide +kernel
theorem dX12_astrayBy_13 : decode cX12_astrayBy 13 = .ok (.iload_n 1, 1) := by decide +kernel
theorem dX12_astrayBy_14 : decode cX12_astrayBy 14 = .ok (.iload_n 3, 1) := by decide +kernel
theorem dX12_astrayBy_15 : decode cX12_astrayBy 15 = .ok (.invokevirtual 331, 3) := by decide +kernel
theorem dX12_astrayBy_18 : decode cX12_astrayBy 18 = .ok (.istore 4, 2) := by decide +kernel
theorem dX12_astrayBy_20 : decode cX12_astrayBy 20 = .ok (.iload_n 2, 1) := by decide +kernel
theorem dX12_astrayBy_21 : decode cX12_astrayBy 21 = .ok (.iload 4, 2) := by decide +kernel
theorem dX12_astrayBy_23 : decode cX12_astrayBy 23 = .ok (.ifCond .lt 20, 3) := by decide +kernel
theorem dX12_astrayBy_26 : decode cX12_astrayBy 26 = .ok (.iload 4, 2) := by decide +kernel
theorem dX12_astrayBy_28 : decode cX12_astrayBy 28 = .ok (.aload_n 0, 1) := by decide +kernel
theorem dX12_astrayBy_29 : decode cX12_astrayBy 29 = .ok (.iload_n 1, 1) := by decide +kernel
theorem dX12_astrayBy_30 : decode cX12_astrayBy 30 = .ok (.iload_n 3, 1) := by decide +kernel
theorem dX12_astrayBy_31 : decode cX12_astrayBy 31 = .ok (.invokevirtual 414, 3) := by decide +kernel
theorem dX12_astrayBy_34 : decode cX12_astrayBy 34 = .ok (.if_icmp .eq 9, 3) := by decide +kernel
theorem dX12_astrayBy_37 : decode cX12_astrayBy 37 = .ok (.iconst 1, 1) := by decide +kernel
theorem dX12_astrayBy_38 : decode cX12_astrayBy 38 = .ok (.iload_n 3, 1) := by decide +kernel
theorem dX12_astrayBy_39 : decode cX12_astrayBy 39 = .ok (.ishl, 1) := by decide +kernel
theorem dX12_astrayBy_40 : decode cX12_astrayBy 40 = .ok (.goto 4, 3) := by decide +kernel
theorem dX12_astrayBy_43 : decode cX12_astrayBy 43 = .ok (.iconst 0, 1) := by decide +kernel
theorem dX12_astrayBy_44 : decode cX12_astrayBy 44 = .ok (.ior, 1) := by decide +kernel
theorem dX12_astrayBy_45 : decode cX12_astrayBy 45 = .ok (.istore_n 2, 1) := by decide +kernel
theorem dX12_astrayBy_46 : decode cX12_astrayBy 46 = .ok (.iinc 3 1, 3) := by decide +kernel
theorem dX12_astrayBy_49 : decode cX12_astrayBy 49 = .ok (.goto (-45), 3) := by decide +kernel
theorem dX12_astrayBy_52 : decode cX12_astrayBy 52 = .ok (.iload_n 2, 1) := by decide +kernel
theorem dX12_astrayBy_53 : decode cX12_astrayBy 53 = .ok (.ireturn, 1) := by decide +kernel
def fX12_astrayBy (a0 : Nat) (a1 : Int) (G : Hp) : RT := bd 0 fun v1 => bd 0 fun v2 => (lp (fun (_ : Int) (_ : Int) => (none : RT)) 5000 (fun (rc5 : Int → Int → RT) (v3 : Int) (v4 : Int) => bp (fX12_keys a0 G) fun v6 => if v4 < v6 then (bp (fX12_holderOf a0 a1 v4 G) fun v7 => bd v7 fun v8 => jn (fun (v9 : Int) => bd (ior v3 v9) fun v11 => bd (iadd v4 1) fun v12 => rc5 v11 v12) fun (K10 : Int → RT) => jn (K10 0) fun (K13 : RT) => if v8 < 0 then K13 else (bp (fX12_ownerOf a0 a1 v4 G) fun v14 => if v8 = v14 then K13 else (K10 (ishl 1 v4)))) else rt v3 G)) v1 v2
theorem pX12_astrayBy {G : Hp} {a0 : Nat} {a1 : Int} : PU G (fX12_astrayBy a0 a1 G) := by
  unfold fX12_astrayBy
  refine PU_bd (fun v1 => ?_)
  refine PU_bd (fun v2 => ?_)
  refine x_lp (fun (rc5 : Int → Int → RT) => ∀ (v3 : Int) (v4 : Int), PU G (rc5 v3 v4)) (fun _ _ => PU_none) (fun rc5 phrc5 v3 v4 => ?_) 5000 v1 v2
  refine PU_bp (fun v6 => ?_)
  refine PU_ite ?_ ?_
  · refine PU_bp (fun v7 => ?_)
    refine PU_bd (fun v8 => ?_)
    refine PU_jn (fun (K10 : Int → RT) => ∀ (v9 : Int), PU G (K10 v9)) ?_ (fun K10 phK10 => ?_)
    · intro v9
      refine PU_bd (fun v11 => ?_)
      refine PU_bd (fun v12 => ?_)
      exact phrc5 v11 v12
    · refine PU_jn (fun (K13 : RT) => PU G (K13)) ?_ (fun K13 phK13 => ?_)
      · exact phK10 0
      · refine PU_ite ?_ ?_
        · exact phK13
        · refine PU_bp (fun v14 => ?_)
          refine PU_ite ?_ ?_
          · exact phK13
          · exact phK10 (ishl 1 v4)
  · exact PU_rt
set_option maxRecDepth 20000 in
set_option maxHeartbeats 4000000 in
theorem tX12_astrayBy (l : Launch) (x : WX) (hi : Inj x.2.2) (G : Hp) (a0 : Nat) (a1 : Int) (ha0 : kd a0 = 12) : Ct l x yX12_astrayBy cX12_astrayBy 5 (some .int) 4 129 129 [vR a0, vI a1] G (fX12_astrayBy a0 a1 G) := by
  refine ct_of (plainFor_of_name (by decide)) hi (Nat.le_refl _) (Nat.le_refl _) (Nat.le_of_ble_eq_true rfl) (fun cx F hd hn0 hnE hl hQ => ?_)
  subst hl
  have F : Fx cx x RX12 cX12_astrayBy 5 (some .int) := F
  show Y cx x 5 (some .int) 129 0 [(0, vR a0), (1, vI a1)] [] G _
  unfold fX12_astrayBy
  refine x_iconst F dX12_astrayBy_0 ⟨by decide, by decide⟩ rfl ?_
  refine x_istore_n F dX12_astrayBy_1 rfl (by decide) rfl rfl (fun v1 => ?_)
  show Y cx x _ _ _ _ [(0, vR a0), (1, vI a1), (2, vI v1)] _ _ _
  refine x_iconst F dX12_astrayBy_2 ⟨by decide, by decide⟩ rfl ?_
  refine x_istore_n F dX12_astrayBy_3 rfl (by decide) rfl rfl (fun v2 => ?_)
  show Y cx x _ _ _ _ [(0, vR a0), (1, vI a1), (2, vI v1), (3, vI v2)] _ _ _
  refine x_lp (fun (rc5 : Int → Int → RT) => ∀ (v3 : Int) (v4 : Int), Y cx x 5 (some .int) 129 4 [(0, vR a0), (1, vI a1), (2, vI v3), (3, vI v4)] [] G (rc5 v3 v4)) (fun _ _ => Y_none) (fun rc5 hrc5 v3 v4 => ?_) 5000 v1 v2
  refine x_iload_n F dX12_astrayBy_4 rfl rfl rfl ?_
  refine x_aload_n F dX12_astrayBy_5 rfl rfl rfl ?_
  refine s_callVP F [] [vI v4] lkX12_229 mX12_keys rfl ha0 rfl hnE hn0 hd pX12_keys (tX12_keys cx.l x hi G a0 ha0) rfl rfl dX12_astrayBy_6 rfl rfl (fun v6 => ?_)
  refine x_icmpge (pt := 52) F dX12_astrayBy_9 rfl rfl ?_ ?_
  · refine x_aload_n F dX12_astrayBy_12 rfl rfl rfl ?_
    refine x_iload_n F dX12_astrayBy_13 rfl rfl rfl ?_
    refine x_iload_n F dX12_astrayBy_14 rfl rfl rfl ?_
    refine s_callVP F [vI a1, vI v4] [] lkX12_331 mX12_holderOf rfl ha0 rfl hnE hn0 hd pX12_holderOf (tX12_holderOf cx.l x hi G a0 a1 v4 ha0) rfl rfl dX12_astrayBy_15 rfl rfl (fun v7 => ?_)
    refine x_istore F dX12_astrayBy_18 (by decide) rfl rfl (fun v8 => ?_)
    show Y cx x _ _ _ _ [(0, vR a0), (1, vI a1), (2, vI v3), (3, vI v4), (4, vI v8)] _ _ _
    refine x_iload_n F dX12_astrayBy_20 rfl rfl rfl ?_
    refine x_iload F dX12_astrayBy_21 rfl rfl ?_
    refine x_jn (fun (K10 : Int → RT) => ∀ (v9 : Int), Y cx x 5 (some .int) 129 44 [(0, vR a0), (1, vI a1), (3, vI v4)] [vI v9, vI v3] G (K10 v9)) ?_ (fun K10 hK10 => ?_)
    · intro v9
      refine x_ior F dX12_astrayBy_44 rfl ?_
      refine x_istore_n F dX12_astrayBy_45 rfl (by decide) rfl rfl (fun v11 => ?_)
      show Y cx x _ _ _ _ [(0, vR a0), (1, vI a1), (3, vI v4), (2, vI v11)] _ _ _
      refine x_iinc F dX12_astrayBy_46 rfl (by decide) rfl rfl (fun v12 => ?_)
      show Y cx x _ _ _ _ [(0, vR a0), (1, vI a1), (3, vI v12), (2, vI v11)] _ _ _
      refine x_goto (pc' := 4) F dX12_astrayBy_49 rfl ?_
      refine x_dp (L' := [(0, vR a0), (1, vI a1), (2, vI v11), (3, vI v12)]) [0, 1, 3, 2] rfl ?_
      exact hrc5 v11 v12
    · refine x_jn (fun (K13 : RT) => Y cx x 5 (some .int) 129 43 [(0, vR a0), (1, vI a1), (3, vI v4)] [vI v3] G K13) ?_ (fun K13 hK13 => ?_)
      · refine x_iconst F dX12_astrayBy_43 ⟨by decide, by decide⟩ rfl ?_
        exact hK10 0
      · refine x_iflt (pt := 43) F dX12_astrayBy_23 rfl rfl ?_ ?_
        · refine x_dp (L' := [(0, vR a0), (1, vI a1), (3, vI v4)]) [0, 1, 3] rfl ?_
          exact hK13
        · refine x_iload F dX12_astrayBy_26 rfl rfl ?_
          refine x_aload_n F dX12_astrayBy_28 rfl rfl rfl ?_
          refine x_iload_n F dX12_astrayBy_29 rfl rfl rfl ?_
          refine x_iload_n F dX12_astrayBy_30 rfl rfl rfl ?_
          refine s_callVP F [vI a1, vI v4] [vI v8, vI v3] lkX12_414 mX12_ownerOf rfl ha0 rfl hnE hn0 hd pX12_ownerOf (tX12_ownerOf cx.l x hi G a0 a1 v4 ha0) rfl rfl dX12_astrayBy_31 rfl rfl (fun v14 => ?_)
          refine x_icmpeq (pt := 43) F dX12_astrayBy_34 rfl rfl ?_ ?_
          · refine x_dp (L' := [(0, vR a0), (1, vI a1), (3, vI v4)]) [0, 1, 3] rfl ?_
            exact hK13
          · refine x_iconst F dX12_astrayBy_37 ⟨by decide, by decide⟩ rfl ?_
            refine x_iload_n F dX12_astrayBy_38 rfl rfl rfl ?_
            refine x_ishl F dX12_astrayBy_39 rfl ?_
            refine x_goto (pc' := 44) F dX12_astrayBy_40 rfl ?_
            refine x_dp (L' := [(0, vR a0), (1, vI a1), (3, vI v4)]) [0, 1, 3] rfl ?_
            exact hK10 (ishl 1 v4)
  · refine x_iload_n F dX12_astrayBy_52 rfl rfl rfl ?_
    exact x_iret F hnE hQ dX12_astrayBy_53
theorem dX12_cycleSet_0 : decode cX12_cycleSet 0 = .ok (.iconst 0, 1) := by decide +kernel
theorem dX12_cycleSet_1 : decode cX12_cycleSet 1 = .ok (.istore_n 2, 1) := by decide +kernel
theorem dX12_cycleSet_2 : decode cX12_cycleSet 2 = .ok (.iconst 0, 1) := by decide +kernel
theorem dX12_cycleSet_3 : decode cX12_cycleSet 3 = .ok (.istore_n 3, 1) := by decide +kernel
theorem dX12_cycleSet_4 : decode cX12_cycleSet 4 = .ok (.iload_n 3, 1) := by decide +kernel
theorem dX12_cycleSet_5 : decode cX12_cycleSet 5 = .ok (.aload_n 0, 1) := by decide +kernel
theorem dX12_cycleSet_6 : decode cX12_cycleSet 6 = .ok (.invokevirtual 236, 3) := by decide +kernel
theorem dX12_cycleSet_9 : decode cX12_cycleSet 9 = .ok (.if_icmp .ge 37, 3) := by decide +kernel
theorem dX12_cycleSet_12 : decode cX12_cycleSet 12 = .ok (.iload_n 2, 1) := by decide +kernel
theorem dX12_cycleSet_13 : decode cX12_cycleSet 13 = .ok (.aload_n 0, 1) := by decide +kernel
theorem dX12_cycleSet_14 : decode cX12_cycleSet 14 = .ok (.iload_n 1, 1) := by decide +kernel
theorem dX12_cycleSet_15 : decode cX12_cycleSet 15 = .ok (.iload_n 3, 1) := by decide +kernel
theorem dX12_cycleSet_16 : decode cX12_cycleSet 16 = .ok (.invokevirtual 278, 3) := by decide +kernel
theorem dX12_cycleSet_19 : decode cX12_cycleSet 19 = .ok (.ifCond .eq 18, 3) := by decide +kernel
theorem dX12_cycleSet_22 : decode cX12_cycleSet 22 = .ok (.aload_n 0, 1) := by decide +kernel
theorem dX12_cycleSet_23 : decode cX12_cycleSet 23 = .ok (.iload_n 1, 1) := by decide +kernel
theorem dX12_cycleSet_24 : decode cX12_cycleSet 24 = .ok (.iload_n 3, 1) := by decide +kernel
theorem dX12_cycleSet_25 : decode cX12_cycleSet 25 = .ok (.invokevirtual 432, 3) := by decide +kernel
theorem dX12_cycleSet_28 : decode cX12_cycleSet 28 = .ok (.ifCond .eq 9, 3) := by decide +kernel
theorem dX12_cycleSet_31 : decode cX12_cycleSet 31 = .ok (.iconst 1, 1) := by decide +kernel
theorem dX12_cycleSet_32 : decode cX12_cycleSet 32 = .ok (.iload_n 3, 1) := by decide +kernel
theorem dX12_cycleSet_33 : decode cX12_cycleSet 33 = .ok (.ishl, 1) := by decide +kernel
theorem dX12_cycleSet_34 : decode cX12_cycleSet 34 = .ok (.goto 4, 3) := by decide +kernel
theorem dX12_cycleSet_37 : decode cX12_cycleSet 37 = .ok (.iconst 0, 1) := by decide +kernel
theorem dX12_cycleSet_38 : decode cX12_cycleSet 38 = .ok (.ior, 1) := by decide +kernel
theorem dX12_cycleSet_39 : decode cX12_cycleSet 39 = .ok (.istore_n 2, 1) := by decide +kernel
theorem dX12_cycleSet_40 : decode cX12_cycleSet 40 = .ok (.iinc 3 1, 3) := by decide +kernel
theorem dX12_cycleSet_43 : decode cX12_cycleSet 43 = .ok (.goto (-39), 3) := by decide +kernel
theorem dX12_cycleSet_46 : decode cX12_cycleSet 46 = .ok (.iload_n 2, 1) := by decide +kernel
theorem dX12_cycleSet_47 : decode cX12_cycleSet 47 = .ok (.ireturn, 1) := by decide +kernel
def fX12_cycleSet (a0 : Nat) (a1 : Int) (G : Hp) : RT := bd 0 fun v1 => bd 0 fun v2 => (lp (fun (_ : Int) (_ : Int) => (none : RT)) 5000 (fun (rc5 : Int → Int → RT) (v3 : Int) (v4 : Int) => bp (fX12_nodes a0 G) fun v6 => if v4 < v6 then (bp (fX12_isIn a0 a1 v4 G) fun v7 => jn (fun (v8 : Int) => bd (ior v3 v8) fun v10 => bd (iadd v4 1) fun v11 => rc5 v10 v11) fun (K9 : Int → RT) => jn (K9 0) fun (K12 : RT) => if v7 = 0 then K12 else (bp (fX12_isOnCycle a0 a1 v4 G) fun v13 => if v13 = 0 then K12 else (K9 (ishl 1 v4)))) else rt v3 G)) v1 v2
theorem pX12_cycleSet {G : Hp} {a0 : Nat} {a1 : Int} : PU G (fX12_cycleSet a0 a1 G) := by
  unfold fX12_cycleSet
  refine PU_bd (fun v1 => ?_)
  refine PU_bd (fun v2 => ?_)
  refine x_lp (fun (rc5 : Int → Int → RT) => ∀ (v3 : Int) (v4 : Int), PU G (rc5 v3 v4)) (fun _ _ => PU_none) (fun rc5 phrc5 v3 v4 => ?_) 5000 v1 v2
  refine PU_bp (fun v6 => ?_)
  refine PU_ite ?_ ?_
  · refine PU_bp (fun v7 => ?_)
    refine PU_jn (fun (K9 : Int → RT) => ∀ (v8 : Int), PU G (K9 v8)) ?_ (fun K9 phK9 => ?_)
    · intro v8
      refine PU_bd (fun v10 => ?_)
      refine PU_bd (fun v11 => ?_)
      exact phrc5 v10 v11
    · refine PU_jn (fun (K12 : RT) => PU G (K12)) ?_ (fun K12 phK12 => ?_)
      · exact phK9 0
      · refine PU_ite ?_ ?_
        · exact phK12
        · refine PU_bp (fun v13 => ?_)
          refine PU_ite ?_ ?_
          · exact phK12
          · exact phK9 (ishl 1 v4)
  · exact PU_rt
set_option maxRecDepth 20000 in
set_option maxHeartbeats 4000000 in
theorem tX12_cycleSet (l : Launch) (x : WX) (hi : Inj x.2.2) (G : Hp) (a0 : Nat) (a1 : Int) (ha0 : kd a0 = 12) : Ct l x yX12_cycleSet cX12_cycleSet 4 (some .int) 4 129 129 [vR a0, vI a1] G (fX12_cycleSet a0 a1 G) := by
  refine ct_of (plainFor_of_name (by decide)) hi (Nat.le_refl _) (Nat.le_refl _) (Nat.le_of_ble_eq_true rfl) (fun cx F hd hn0 hnE hl hQ => ?_)
  subst hl
  have F : Fx cx x RX12 cX12_cycleSet 4 (some .int) := F
  show Y cx x 4 (some .int) 129 0 [(0, vR a0), (1, vI a1)] [] G _
  unfold fX12_cycleSet
  refine x_iconst F dX12_cycleSet_0 ⟨by decide, by decide⟩ rfl ?_
  refine x_istore_n F dX12_cycleSet_1 rfl (by decide) rfl rfl (fun v1 => ?_)
  show Y cx x _ _ _ _ [(0, vR a0), (1, vI a1), (2, vI v1)] _ _ _
  refine x_iconst F dX12_cycleSet_2 ⟨by decide, by decide⟩ rfl ?_
  refine x_istore_n F dX12_cycleSet_3 rfl (by decide) rfl rfl (fun v2 => ?_)
  show Y cx x _ _ _ _ [(0, vR a0), (1, vI a1), (2, vI v1), (3, vI v2)] _ _ _
  refine x_lp (fun (rc5 : Int → Int → RT) => ∀ (v3 : Int) (v4 : Int), Y cx x 4 (some .int) 129 4 [(0, vR a0), (1, vI a1), (2, vI v3), (3, vI v4)] [] G (rc5 v3 v4)) (fun _ _ => Y_none) (fun rc5 hrc5 v3 v4 => ?_) 5000 v1 v2
  refine x_iload_n F dX12_cycleSet_4 rfl rfl rfl ?_
  refine x_aload_n F dX12_cycleSet_5 rfl rfl rfl ?_
  refine s_callVP F [] [vI v4] lkX12_236 mX12_nodes rfl ha0 rfl hnE hn0 hd pX12_nodes (tX12_nodes cx.l x hi G a0 ha0) rfl rfl dX12_cycleSet_6 rfl rfl (fun v6 => ?_)
  refine x_icmpge (pt := 46) F dX12_cycleSet_9 rfl rfl ?_ ?_
  · refine x_iload_n F dX12_cycleSet_12 rfl rfl rfl ?_
    refine x_aload_n F dX12_cycleSet_13 rfl rfl rfl ?_
    refine x_iload_n F dX12_cycleSet_14 rfl rfl rfl ?_
    refine x_iload_n F dX12_cycleSet_15 rfl rfl rfl ?_
    refine s_callVP F [vI a1, vI v4] [vI v3] lkX12_278 mX12_isIn rfl ha0 rfl hnE hn0 hd pX12_isIn (tX12_isIn cx.l x hi G a0 a1 v4 ha0) rfl rfl dX12_cycleSet_16 rfl rfl (fun v7 => ?_)
    refine x_jn (fun (K9 : Int → RT) => ∀ (v8 : Int), Y cx x 4 (some .int) 129 38 [(0, vR a0), (1, vI a1), (3, vI v4)] [vI v8, vI v3] G (K9 v8)) ?_ (fun K9 hK9 => ?_)
    · intro v8
      refine x_ior F dX12_cycleSet_38 rfl ?_
      refine x_istore_n F dX12_cycleSet_39 rfl (by decide) rfl rfl (fun v10 => ?_)
      show Y cx x _ _ _ _ [(0, vR a0), (1, vI a1), (3, vI v4), (2, vI v10)] _ _ _
      refine x_iinc F dX12_cycleSet_40 rfl (by decide) rfl rfl (fun v11 => ?_)
      show Y cx x _ _ _ _ [(0, vR a0), (1, vI a1), (3, vI v11), (2, vI v10)] _ _ _
      refine x_goto (pc' := 4) F dX12_cycleSet_43 rfl ?_
      refine x_dp (L' := [(0, vR a0), (1, vI a1), (2, vI v10), (3, vI v11)]) [0, 1, 3, 2] rfl ?_
      exact hrc5 v10 v11
    · refine x_jn (fun (K12 : RT) => Y cx x 4 (some .int) 129 37 [(0, vR a0), (1, vI a1), (3, vI v4)] [vI v3] G K12) ?_ (fun K12 hK12 => ?_)
      · refine x_iconst F dX12_cycleSet_37 ⟨by decide, by decide⟩ rfl ?_
        exact hK9 0
      · refine x_ifeq (pt := 37) F dX12_cycleSet_19 rfl rfl ?_ ?_
        · refine x_dp (L' := [(0, vR a0), (1, vI a1), (3, vI v4)]) [0, 1, 3] rfl ?_
          exact hK12
        · refine x_aload_n F dX12_cycleSet_22 rfl rfl rfl ?_
          refine x_iload_n F dX12_cycleSet_23 rfl rfl rfl ?_
          refine x_iload_n F dX12_cycleSet_24 rfl rfl rfl ?_
          refine s_callVP F [vI a1, vI v4] [vI v3] lkX12_432 mX12_isOnCycle rfl ha0 rfl hnE hn0 hd pX12_isOnCycle (tX12_isOnCycle cx.l x hi G a0 a1 v4 ha0) rfl rfl dX12_cycleSet_25 rfl rfl (fun v13 => ?_)
          refine x_ifeq (pt := 37) F dX12_cycleSet_28 rfl rfl ?_ ?_
          · refine x_dp (L' := [(0, vR a0), (1, vI a1), (3, vI v4)]) [0, 1, 3] rfl ?_
            exact hK12
          · refine x_iconst F dX12_cycleSet_31 ⟨by decide, by decide⟩ rfl ?_
            refine x_iload_n F dX12_cycleSet_32 rfl rfl rfl ?_
            refine x_ishl F dX12_cycleSet_33 rfl ?_
            refine x_goto (pc' := 38) F dX12_cycleSet_34 rfl ?_
            refine x_dp (L' := [(0, vR a0), (1, vI a1), (3, vI v4)]) [0, 1, 3] rfl ?_
            exact hK9 (ishl 1 v4)
  · refine x_iload_n F dX12_cycleSet_46 rfl rfl rfl ?_
    exact x_iret F hnE hQ dX12_cycleSet_47
theorem dX12_amiss_0 : decode cX12_amiss 0 = .ok (.aload_n 0, 1) := by decide +kernel
theorem dX12_amiss_1 : decode cX12_amiss 1 = .ok (.iconst 0, 1) := by decide +kernel
theorem dX12_amiss_2 : decode cX12_amiss 2 = .ok (.putfield 1, 3) := by decide +kernel
theorem dX12_amiss_5 : decode cX12_amiss 5 = .ok (.aload_n 0, 1) := by decide +kernel
theorem dX12_amiss_6 : decode cX12_amiss 6 = .ok (.iconst 0, 1) := by decide +kernel
theorem dX12_amiss_7 : decode cX12_amiss 7 = .ok (.invokevirtual 450, 3) := by decide +kernel
theorem dX12_amiss_10 : decode cX12_amiss 10 = .ok (.ireturn, 1) := by decide +kernel
def fX12_amiss (a0 : Nat) (G : Hp) : RT := bh (up G a0 0 0) fun G1 => bp (fX12_amissBy a0 0 G1) fun v2 => rt v2 G1
set_option maxRecDepth 20000 in
set_option maxHeartbeats 4000000 in
theorem tX12_amiss (l : Launch) (x : WX) (hi : Inj x.2.2) (G : Hp) (a0 : Nat) (ha0 : kd a0 = 12) : Ct l x yX12_amiss cX12_amiss 1 (some .int) 4 129 129 [vR a0] G (fX12_amiss a0 G) := by
  refine ct_of (plainFor_of_name (by decide)) hi (Nat.le_refl _) (Nat.le_refl _) (Nat.le_of_ble_eq_true rfl) (fun cx F hd hn0 hnE hl hQ => ?_)
  subst hl
  have F : Fx cx x RX12 cX12_amiss 1 (some .int) := F
  show Y cx x 1 (some .int) 129 0 [(0, vR a0)] [] G _
  unfold fX12_amiss
  refine x_aload_n F dX12_amiss_0 rfl rfl rfl ?_
  refine x_iconst F dX12_amiss_1 ⟨by decide, by decide⟩ rfl ?_
  refine s_putI F fpX12_1 ha0 rfl dX12_amiss_2 rfl (fun G1 => ?_)
  refine x_aload_n F dX12_amiss_5 rfl rfl rfl ?_
  refine x_iconst F dX12_amiss_6 ⟨by decide, by decide⟩ rfl ?_
  refine s_callVP F [vI 0] [] lkX12_450 mX12_amissBy rfl ha0 rfl hnE hn0 hd pX12_amissBy (tX12_amissBy cx.l x hi G1 a0 0 ha0) rfl rfl dX12_amiss_7 rfl rfl (fun v2 => ?_)
  exact x_iret F hnE hQ dX12_amiss_10
theorem dX12_behind_0 : decode cX12_behind 0 = .ok (.aload_n 0, 1) := by decide +kernel
theorem dX12_behind_1 : decode cX12_behind 1 = .ok (.iconst 0, 1) := by decide +kernel
theorem dX12_behind_2 : decode cX12_behind 2 = .ok (.putfield 1, 3) := by decide +kernel
theorem dX12_behind_5 : decode cX12_behind 5 = .ok (.aload_n 0, 1) := by decide +kernel
theorem dX12_behind_6 : decode cX12_behind 6 = .ok (.iconst 0, 1) := by decide +kernel
theorem dX12_behind_7 : decode cX12_behind 7 = .ok (.invokevirtual 456, 3) := by decide +kernel
theorem dX12_behind_10 : decode cX12_behind 10 = .ok (.ireturn, 1) := by decide +kernel
def fX12_behind (a0 : Nat) (G : Hp) : RT := bh (up G a0 0 0) fun G1 => bp (fX12_behindBy a0 0 G1) fun v2 => rt v2 G1
set_option maxRecDepth 20000 in
set_option maxHeartbeats 4000000 in
theorem tX12_behind (l : Launch) (x : WX) (hi : Inj x.2.2) (G : Hp) (a0 : Nat) (ha0 : kd a0 = 12) : Ct l x yX12_behind cX12_behind 1 (some .int) 4 129 129 [vR a0] G (fX12_behind a0 G) := by
  refine ct_of (plainFor_of_name (by decide)) hi (Nat.le_refl _) (Nat.le_refl _) (Nat.le_of_ble_eq_true rfl) (fun cx F hd hn0 hnE hl hQ => ?_)
  subst hl
  have F : Fx cx x RX12 cX12_behind 1 (some .int) := F
  show Y cx x 1 (some .int) 129 0 [(0, vR a0)] [] G _
  unfold fX12_behind
  refine x_aload_n F dX12_behind_0 rfl rfl rfl ?_
  refine x_iconst F dX12_behind_1 ⟨by decide, by decide⟩ rfl ?_
  refine s_putI F fpX12_1 ha0 rfl dX12_behind_2 rfl (fun G1 => ?_)
  refine x_aload_n F dX12_behind_5 rfl rfl rfl ?_
  refine x_iconst F dX12_behind_6 ⟨by decide, by decide⟩ rfl ?_
  refine s_callVP F [vI 0] [] lkX12_456 mX12_behindBy rfl ha0 rfl hnE hn0 hd pX12_behindBy (tX12_behindBy cx.l x hi G1 a0 0 ha0) rfl rfl dX12_behind_7 rfl rfl (fun v2 => ?_)
  exact x_iret F hnE hQ dX12_behind_10
theorem dX12_arc_0 : decode cX12_arc 0 = .ok (.aload_n 0, 1) := by decide +kernel
theorem dX12_arc_1 : decode cX12_arc 1 = .ok (.iconst 0, 1) := by decide +kernel
theorem dX12_arc_2 : decode cX12_arc 2 = .ok (.putfield 1, 3) := by decide +kernel
theorem dX12_arc_5 : decode cX12_arc 5 = .ok (.aload_n 0, 1) := by decide +kernel
theorem dX12_arc_6 : decode cX12_arc 6 = .ok (.iload_n 1, 1) := by decide +kernel
theorem dX12_arc_7 : decode cX12_arc 7 = .ok (.invokevirtual 465, 3) := by decide +kernel
theorem dX12_arc_10 : decode cX12_arc 10 = .ok (.ifCond .eq 11, 3) := by decide +kernel
theorem dX12_arc_13 : decode cX12_arc 13 = .ok (.aload_n 0, 1) := by decide +kernel
theorem dX12_arc_14 : decode cX12_arc 14 = .ok (.iload_n 1, 1) := by decide +kernel
theorem dX12_arc_15 : decode cX12_arc 15 = .ok (.invokevirtual 468, 3) := by decide +kernel
theorem dX12_arc_18 : decode cX12_arc 18 = .ok (.goto 4, 3) := by decide +kernel
theorem dX12_arc_21 : decode cX12_arc 21 = .ok (.iconst (-1), 1) := by decide +kernel
theorem dX12_arc_22 : decode cX12_arc 22 = .ok (.ireturn, 1) := by decide +kernel
def fX12_arc (a0 : Nat) (a1 : Int) (G : Hp) : RT := bh (up G a0 0 0) fun G1 => bp (fX12_isThere a0 a1 G1) fun v2 => if v2 = 0 then (rt ((-1)) G1) else (bp (fX12_arcOf a0 a1 G1) fun v3 => rt v3 G1)
set_option maxRecDepth 20000 in
set_option maxHeartbeats 4000000 in
theorem tX12_arc (l : Launch) (x : WX) (hi : Inj x.2.2) (G : Hp) (a0 : Nat) (a1 : Int) (ha0 : kd a0 = 12) : Ct l x yX12_arc cX12_arc 2 (some .int) 4 129 129 [vR a0, vI a1] G (fX12_arc a0 a1 G) := by
  refine ct_of (plainFor_of_name (by decide)) hi (Nat.le_refl _) (Nat.le_refl _) (Nat.le_of_ble_eq_true rfl) (fun cx F hd hn0 hnE hl hQ => ?_)
  subst hl
  have F : Fx cx x RX12 cX12_arc 2 (some .int) := F
  show Y cx x 2 (some .int) 129 0 [(0, vR a0), (1, vI a1)] [] G _
  unfold fX12_arc
  refine x_aload_n F dX12_arc_0 rfl rfl rfl ?_
  refine x_iconst F dX12_arc_1 ⟨by decide, by decide⟩ rfl ?_
  refine s_putI F fpX12_1 ha0 rfl dX12_arc_2 rfl (fun G1 => ?_)
  refine x_aload_n F dX12_arc_5 rfl rfl rfl ?_
  refine x_iload_n F dX12_arc_6 rfl rfl rfl ?_
  refine s_callVP F [vI a1] [] lkX12_465 mX12_isThere rfl ha0 rfl hnE hn0 hd pX12_isThere (tX12_isThere cx.l x hi G1 a0 a1 ha0) rfl rfl dX12_arc_7 rfl rfl (fun v2 => ?_)
  refine x_ifeq (pt := 21) F dX12_arc_10 rfl rfl ?_ ?_
  · refine x_iconst F dX12_arc_21 ⟨by decide, by decide⟩ rfl ?_
    exact x_iret F hnE hQ dX12_arc_22
  · refine x_aload_n F dX12_arc_13 rfl rfl rfl ?_
    refine x_iload_n F dX12_arc_14 rfl rfl rfl ?_
    refine s_callVP F [vI a1] [] lkX12_468 mX12_arcOf rfl ha0 rfl hnE hn0 hd pX12_arcOf (tX12_arcOf cx.l x hi G1 a0 a1 ha0) rfl rfl dX12_arc_15 rfl rfl (fun v3 => ?_)
    refine x_goto (pc' := 22) F dX12_arc_18 rfl ?_
    exact x_iret F hnE hQ dX12_arc_22
theorem dX12_widest_0 : decode cX12_widest 0 = .ok (.aload_n 0, 1) := by decide +kernel
theorem dX12_widest_1 : decode cX12_widest 1 = .ok (.iconst 0, 1) := by decide +kernel
theorem dX12_widest_2 : decode cX12_widest 2 = .ok (.putfield 1, 3) := by decide +kernel
theorem dX12_widest_5 : decode cX12_widest 5 = .ok (.iconst (-1), 1) := by decide +kernel
theorem dX12_widest_6 : decode cX12_widest 6 = .ok (.istore_n 1, 1) := by decide +kernel
theorem dX12_widest_7 : decode cX12_widest 7 = .ok (.iconst 0, 1) := by decide +kernel
theorem dX12_widest_8 : decode cX12_widest 8 = .ok (.istore_n 2, 1) := by decide +kernel
theorem dX12_widest_9 : decode cX12_widest 9 = .ok (.iload_n 2, 1) := by decide +kernel
theorem dX12_widest_10 : decode cX12_widest 10 = .ok (.aload_n 0, 1) := by decide +kernel
theorem dX12_widest_11 : decode cX12_widest 11 = .ok (.invokevirtual 236, 3) := by decide +kernel
theorem dX12_widest_14 : decode cX12_widest 14 = .ok (.if_icmp .ge 41, 3) := by decide +kernel
theorem dX12_widest_17 : decode cX12_widest 17 = .ok (.aload_n 0, 1) := by decide +kernel
theorem dX12_widest_18 : decode cX12_widest 18 = .ok (.iconst 0, 1) := by decide +kernel
theorem dX12_widest_19 : decode cX12_widest 19 = .ok (.iload_n 2, 1) := by decide +kernel
theorem dX12_widest_20 : decode cX12_widest 20 = .ok (.invokevirtual 278, 3) := by decide +kernel
theorem dX12_widest_23 : decode cX12_widest 23 = .ok (.ifCond .eq 24, 3) := by decide +kernel
theorem dX12_widest_26 : decode cX12_widest 26 = .ok (.iload_n 1, 1) := by decide +kernel
theorem dX12_widest_27 : decode cX12_widest 27 = .ok (.ifCond .lt 16, 3) := by decide +kernel
theorem dX12_widest_30 : decode cX12_widest 30 = .ok (.aload_n 0, 1) := by decide +kernel
theorem dX12_widest_31 : decode cX12_widest 31 = .ok (.iload_n 2, 1) := by decide +kernel
theorem dX12_widest_32 : decode cX12_widest 32 = .ok (.invokevirtual 468, 3) := by decide +kernel
theorem dX12_widest_35 : decode cX12_widest 35 = .ok (.aload_n 0, 1) := by decide +kernel
theorem dX12_widest_36 : decode cX12_widest 36 = .ok (.iload_n 1, 1) := by decide +kernel
theorem dX12_widest_37 : decode cX12_widest 37 = .ok (.invokevirtual 468, 3) := by decide +kernel
theorem dX12_widest_40 : decode cX12_widest 40 = .ok (.if_icmp .le 7, 3) := by decide +kernel
theorem dX12_widest_43 : decode cX12_widest 43 = .ok (.iload_n 2, 1) := by decide +kernel
theorem dX12_widest_44 : decode cX12_widest 44 = .ok (.goto 4, 3) := by decide +kernel
theorem dX12_widest_47 : decode cX12_widest 47 = .ok (.iload_n 1, 1) := by decide +kernel
theorem dX12_widest_48 : decode cX12_widest 48 = .ok (.istore_n 1, 1) := by decide +kernel
theorem dX12_widest_49 : decode cX12_widest 49 = .ok (.iinc 2 1, 3) := by decide +kernel
theorem dX12_widest_52 : decode cX12_widest 52 = .ok (.goto (-43), 3) := by decide +kernel
theorem dX12_widest_55 : decode cX12_widest 55 = .ok (.iload_n 1, 1) := by decide +kernel
theorem dX12_widest_56 : decode cX12_widest 56 = .ok (.ireturn, 1) := by decide +kernel
def fX12_widest (a0 : Nat) (G : Hp) : RT := bh (up G a0 0 0) fun G1 => bd ((-1)) fun v2 => bd 0 fun v3 => (lp (fun (_ : Int) (_ : Int) => (none : RT)) 5000 (fun (rc6 : Int → Int → RT) (v4 : Int) (v5 : Int) => bp (fX12_nodes a0 G1) fun v7 => if v5 < v7 then (bp (fX12_isIn a0 0 v5 G1) fun v8 => jn (fun (v9 : Int) => bd v9 fun v11 => bd (iadd v5 1) fun v12 => rc6 v11 v12) fun (K10 : Int → RT) => jn (K10 v4) fun (K13 : RT) => if v8 = 0 then K13 else (jn (K10 v5) fun (K14 : RT) => if v4 < 0 then K14 else (bp (fX12_arcOf a0 v5 G1) fun v15 => bp (fX12_arcOf a0 v4 G1) fun v16 => if v16 < v15 then K14 else K13))) else rt v4 G1)) v2 v3
set_option maxRecDepth 20000 in
set_option maxHeartbeats 4000000 in
theorem tX12_widest (l : Launch) (x : WX) (hi : Inj x.2.2) (G : Hp) (a0 : Nat) (ha0 : kd a0 = 12) : Ct l x yX12_widest cX12_widest 3 (some .int) 4 129 129 [vR a0] G (fX12_widest a0 G) := by
  refine ct_of (plainFor_of_name (by decide)) hi (Nat.le_refl _) (Nat.le_refl _) (Nat.le_of_ble_eq_true rfl) (fun cx F hd hn0 hnE hl hQ => ?_)
  subst hl
  have F : Fx cx x RX12 cX12_widest 3 (some .int) := F
  show Y cx x 3 (some .int) 129 0 [(0, vR a0)] [] G _
  unfold fX12_widest
  refine x_aload_n F dX12_widest_0 rfl rfl rfl ?_
  refine x_iconst F dX12_widest_1 ⟨by decide, by decide⟩ rfl ?_
  refine s_putI F fpX12_1 ha0 rfl dX12_widest_2 rfl (fun G1 => ?_)
  refine x_iconst F dX12_widest_5 ⟨by decide, by decide⟩ rfl ?_
  refine x_istore_n F dX12_widest_6 rfl (by decide) rfl rfl (fun v2 => ?_)
  show Y cx x _ _ _ _ [(0, vR a0), (1, vI v2)] _ _ _
  refine x_iconst F dX12_widest_7 ⟨by decide, by decide⟩ rfl ?_
  refine x_istore_n F dX12_widest_8 rfl (by decide) rfl rfl (fun v3 => ?_)
  show Y cx x _ _ _ _ [(0, vR a0), (1, vI v2), (2, vI v3)] _ _ _
  refine x_lp (fun (rc6 : Int → Int → RT) => ∀ (v4 : Int) (v5 : Int), Y cx x 3 (some .int) 129 9 [(0, vR a0), (1, vI v4), (2, vI v5)] [] G1 (rc6 v4 v5)) (fun _ _ => Y_none) (fun rc6 hrc6 v4 v5 => ?_) 5000 v2 v3
  refine x_iload_n F dX12_widest_9 rfl rfl rfl ?_
  refine x_aload_n F dX12_widest_10 rfl rfl rfl ?_
  refine s_callVP F [] [vI v5] lkX12_236 mX12_nodes rfl ha0 rfl hnE hn0 hd pX12_nodes (tX12_nodes cx.l x hi G1 a0 ha0) rfl rfl dX12_widest_11 rfl rfl (fun v7 => ?_)
  refine x_icmpge (pt := 55) F dX12_widest_14 rfl rfl ?_ ?_
  · refine x_aload_n F dX12_widest_17 rfl rfl rfl ?_
    refine x_iconst F dX12_widest_18 ⟨by decide, by decide⟩ rfl ?_
    refine x_iload_n F dX12_widest_19 rfl rfl rfl ?_
    refine s_callVP F [vI 0, vI v5] [] lkX12_278 mX12_isIn rfl ha0 rfl hnE hn0 hd pX12_isIn (tX12_isIn cx.l x hi G1 a0 0 v5 ha0) rfl rfl dX12_widest_20 rfl rfl (fun v8 => ?_)
    refine x_jn (fun (K10 : Int → RT) => ∀ (v9 : Int), Y cx x 3 (some .int) 129 48 [(0, vR a0), (2, vI v5)] [vI v9] G1 (K10 v9)) ?_ (fun K10 hK10 => ?_)
    · intro v9
      refine x_istore_n F dX12_widest_48 rfl (by decide) rfl rfl (fun v11 => ?_)
      show Y cx x _ _ _ _ [(0, vR a0), (2, vI v5), (1, vI v11)] _ _ _
      refine x_iinc F dX12_widest_49 rfl (by decide) rfl rfl (fun v12 => ?_)
      show Y cx x _ _ _ _ [(0, vR a0), (2, vI v12), (1, vI v11)] _ _ _
      refine x_goto (pc' := 9) F dX12_widest_52 rfl ?_
      refine x_dp (L' := [(0, vR a0), (1, vI v11), (2, vI v12)]) [0, 2, 1] rfl ?_
      exact hrc6 v11 v12
    · refine x_jn (fun (K13 : RT) => Y cx x 3 (some .int) 129 47 [(0, vR a0), (1, vI v4), (2, vI v5)] [] G1 K13) ?_ (fun K13 hK13 => ?_)
      · refine x_iload_n F dX12_widest_47 rfl rfl rfl ?_
        refine x_dp (L' := [(0, vR a0), (2, vI v5)]) [0, 2] rfl ?_
        exact hK10 v4
      · refine x_ifeq (pt := 47) F dX12_widest_23 rfl rfl ?_ ?_
        · exact hK13
        · refine x_iload_n F dX12_widest_26 rfl rfl rfl ?_
          refine x_jn (fun (K14 : RT) => Y cx x 3 (some .int) 129 43 [(0, vR a0), (2, vI v5)] [] G1 K14) ?_ (fun K14 hK14 => ?_)
          · refine x_iload_n F dX12_widest_43 rfl rfl rfl ?_
            refine x_goto (pc' := 48) F dX12_widest_44 rfl ?_
            exact hK10 v5
          · refine x_iflt (pt := 43) F dX12_widest_27 rfl rfl ?_ ?_
            · refine x_dp (L' := [(0, vR a0), (2, vI v5)]) [0, 2] rfl ?_
              exact hK14
            · refine x_aload_n F dX12_widest_30 rfl rfl rfl ?_
              refine x_iload_n F dX12_widest_31 rfl rfl rfl ?_
              refine s_callVP F [vI v5] [] lkX12_468 mX12_arcOf rfl ha0 rfl hnE hn0 hd pX12_arcOf (tX12_arcOf cx.l x hi G1 a0 v5 ha0) rfl rfl dX12_widest_32 rfl rfl (fun v15 => ?_)
              refine x_aload_n F dX12_widest_35 rfl rfl rfl ?_
              refine x_iload_n F dX12_widest_36 rfl rfl rfl ?_
              refine s_callVP F [vI v4] [vI v15] lkX12_468 mX12_arcOf rfl ha0 rfl hnE hn0 hd pX12_arcOf (tX12_arcOf cx.l x hi G1 a0 v4 ha0) rfl rfl dX12_widest_37 rfl rfl (fun v16 => ?_)
              refine x_icmple (pt := 47) F dX12_widest_40 rfl rfl ?_ ?_
              · refine x_dp (L' := [(0, vR a0), (2, vI v5)]) [0, 2] rfl ?_
                exact hK14
              · exact hK13
  · refine x_iload_n F dX12_widest_55 rfl rfl rfl ?_
    exact x_iret F hnE hQ dX12_widest_56
theorem dX12_load_0 : decode cX12_load 0 = .ok (.aload_n 0, 1) := by decide +kernel
theorem dX12_load_1 : decode cX12_load 1 = .ok (.iconst 0, 1) := by decide +kernel
theorem dX12_load_2 : decode cX12_load 2 = .ok (.putfield 1, 3) := by decide +kernel
theorem dX12_load_5 : decode cX12_load 5 = .ok (.aload_n 0, 1) := by decide +kernel
theorem dX12_load_6 : decode cX12_load 6 = .ok (.iload_n 1, 1) := by decide +kernel
theorem dX12_load_7 : decode cX12_load 7 = .ok (.invokevirtual 465, 3) := by decide +kernel
theorem dX12_load_10 : decode cX12_load 10 = .ok (.ifCond .ne 5, 3) := by decide +kernel
theorem dX12_load_13 : decode cX12_load 13 = .ok (.iconst (-1), 1) := by decide +kernel
theorem dX12_load_14 : decode cX12_load 14 = .ok (.ireturn, 1) := by decide +kernel
theorem dX12_load_15 : decode cX12_load 15 = .ok (.iconst 0, 1) := by decide +kernel
theorem dX12_load_16 : decode cX12_load 16 = .ok (.istore_n 2, 1) := by decide +kernel
theorem dX12_load_17 : decode cX12_load 17 = .ok (.iconst 0, 1) := by decide +kernel
theorem dX12_load_18 : decode cX12_load 18 = .ok (.istore_n 3, 1) := by decide +kernel
theorem dX12_load_19 : decode cX12_load 19 = .ok (.iload_n 3, 1) := by decide +kernel
theorem dX12_load_20 : decode cX12_load 20 = .ok (.aload_n 0, 1) := by decide +kernel
theorem dX12_load_21 : decode cX12_load 21 = .ok (.invokevirtual 229, 3) := by decide +kernel
theorem dX12_load_24 : decode cX12_load 24 = .ok (.if_icmp .ge 29, 3) := by decide +kernel
theorem dX12_load_27 : decode cX12_load 27 = .ok (.iload_n 2, 1) := by decide +kernel
theorem dX12_load_28 : decode cX12_load 28 = .ok (.aload_n 0, 1) := by decide +kernel
theorem dX12_load_29 : decode cX12_load 29 = .ok (.iconst 0, 1) := by decide +kernel
theorem dX12_load_30 : decode cX12_load 30 = .ok (.iload_n 3, 1) := by decide +kernel
theorem dX12_load_31 : decode cX12_load 31 = .ok (.invokevirtual 414, 3) := by decide +kernel
theorem dX12_load_34 : decode cX12_load 34 = .ok (.iload_n 1, 1) := by decide +kernel
theorem dX12_load_35 : decode cX12_load 35 = .ok (.if_icmp .ne 9, 3) := by decide +kernel
theorem dX12_load_38 : decode cX12_load 38 = .ok (.iconst 1, 1) := by decide +kernel
theorem dX12_load_39 : decode cX12_load 39 = .ok (.iload_n 3, 1) := by decide +kernel
theorem dX12_load_40 : decode cX12_load 40 = .ok (.ishl, 1) := by decide +kernel
theorem dX12_load_41 : decode cX12_load 41 = .ok (.goto 4, 3) := by decide +kernel
theorem dX12_load_44 : decode cX12_load 44 = .ok (.iconst 0, 1) := by decide +kernel
theorem dX12_load_45 : decode cX12_load 45 = .ok (.ior, 1) := by decide +kernel
theorem dX12_load_46 : decode cX12_load 46 = .ok (.istore_n 2, 1) := by decide +kernel
theorem dX12_load_47 : decode cX12_load 47 = .ok (.iinc 3 1, 3) := by decide +kernel
theorem dX12_load_50 : decode cX12_load 50 = .ok (.goto (-31), 3) := by decide +kernel
theorem dX12_load_53 : decode cX12_load 53 = .ok (.iload_n 2, 1) := by decide +kernel
theorem dX12_load_54 : decode cX12_load 54 = .ok (.ireturn, 1) := by decide +kernel
def fX12_load (a0 : Nat) (a1 : Int) (G : Hp) : RT := bh (up G a0 0 0) fun G1 => bp (fX12_isThere a0 a1 G1) fun v2 => if v2 = 0 then (rt ((-1)) G1) else (bd 0 fun v3 => bd 0 fun v4 => (lp (fun (_ : Int) (_ : Int) => (none : RT)) 5000 (fun (rc7 : Int → Int → RT) (v5 : Int) (v6 : Int) => bp (fX12_keys a0 G1) fun v8 => if v6 < v8 then (bp (fX12_ownerOf a0 0 v6 G1) fun v9 => jn (fun (v10 : Int) => bd (ior v5 v10) fun v12 => bd (iadd v6 1) fun v13 => rc7 v12 v13) fun (K11 : Int → RT) => if v9 = a1 then (K11 (ishl 1 v6)) else K11 0) else rt v5 G1)) v3 v4)
set_option maxRecDepth 20000 in
set_option maxHeartbeats 4000000 in
theorem tX12_load (l : Launch) (x : WX) (hi : Inj x.2.2) (G : Hp) (a0 : Nat) (a1 : Int) (ha0 : kd a0 = 12) : Ct l x yX12_load cX12_load 4 (some .int) 4 129 129 [vR a0, vI a1] G (fX12_load a0 a1 G) := by
  refine ct_of (plainFor_of_name (by decide)) hi (Nat.le_refl _) (Nat.le_refl _) (Nat.le_of_ble_eq_true rfl) (fun cx F hd hn0 hnE hl hQ => ?_)
  subst hl
  have F : Fx cx x RX12 cX12_load 4 (some .int) := F
  show Y cx x 4 (some .int) 129 0 [(0, vR a0), (1, vI a1)] [] G _
  unfold fX12_load
  refine x_aload_n F dX12_load_0 rfl rfl rfl ?_
  refine x_iconst F dX12_load_1 ⟨by decide, by decide⟩ rfl ?_
  refine s_putI F fpX12_1 ha0 rfl dX12_load_2 rfl (fun G1 => ?_)
  refine x_aload_n F dX12_load_5 rfl rfl rfl ?_
  refine x_iload_n F dX12_load_6 rfl rfl rfl ?_
  refine s_callVP F [vI a1] [] lkX12_465 mX12_isThere rfl ha0 rfl hnE hn0 hd pX12_isThere (tX12_isThere cx.l x hi G1 a0 a1 ha0) rfl rfl dX12_load_7 rfl rfl (fun v2 => ?_)
  refine x_ifne (pt := 15) F dX12_load_10 rfl rfl ?_ ?_
  · refine x_iconst F dX12_load_13 ⟨by decide, by decide⟩ rfl ?_
    exact x_iret F hnE hQ dX12_load_14
  · refine x_iconst F dX12_load_15 ⟨by decide, by decide⟩ rfl ?_
    refine x_istore_n F dX12_load_16 rfl (by decide) rfl rfl (fun v3 => ?_)
    show Y cx x _ _ _ _ [(0, vR a0), (1, vI a1), (2, vI v3)] _ _ _
    refine x_iconst F dX12_load_17 ⟨by decide, by decide⟩ rfl ?_
    refine x_istore_n F dX12_load_18 rfl (by decide) rfl rfl (fun v4 => ?_)
    show Y cx x _ _ _ _ [(0, vR a0), (1, vI a1), (2, vI v3), (3, vI v4)] _ _ _
    refine x_lp (fun (rc7 : Int → Int → RT) => ∀ (v5 : Int) (v6 : Int), Y cx x 4 (some .int) 129 19 [(0, vR a0), (1, vI a1), (2, vI v5), (3, vI v6)] [] G1 (rc7 v5 v6)) (fun _ _ => Y_none) (fun rc7 hrc7 v5 v6 => ?_) 5000 v3 v4
    refine x_iload_n F dX12_load_19 rfl rfl rfl ?_
    refine x_aload_n F dX12_load_20 rfl rfl rfl ?_
    refine s_callVP F [] [vI v6] lkX12_229 mX12_keys rfl ha0 rfl hnE hn0 hd pX12_keys (tX12_keys cx.l x hi G1 a0 ha0) rfl rfl dX12_load_21 rfl rfl (fun v8 => ?_)
    refine x_icmpge (pt := 53) F dX12_load_24 rfl rfl ?_ ?_
    · refine x_iload_n F dX12_load_27 rfl rfl rfl ?_
      refine x_aload_n F dX12_load_28 rfl rfl rfl ?_
      refine x_iconst F dX12_load_29 ⟨by decide, by decide⟩ rfl ?_
      refine x_iload_n F dX12_load_30 rfl rfl rfl ?_
      refine s_callVP F [vI 0, vI v6] [vI v5] lkX12_414 mX12_ownerOf rfl ha0 rfl hnE hn0 hd pX12_ownerOf (tX12_ownerOf cx.l x hi G1 a0 0 v6 ha0) rfl rfl dX12_load_31 rfl rfl (fun v9 => ?_)
      refine x_iload_n F dX12_load_34 rfl rfl rfl ?_
      refine x_jn (fun (K11 : Int → RT) => ∀ (v10 : Int), Y cx x 4 (some .int) 129 45 [(0, vR a0), (1, vI a1), (3, vI v6)] [vI v10, vI v5] G1 (K11 v10)) ?_ (fun K11 hK11 => ?_)
      · intro v10
        refine x_ior F dX12_load_45 rfl ?_
        refine x_istore_n F dX12_load_46 rfl (by decide) rfl rfl (fun v12 => ?_)
        show Y cx x _ _ _ _ [(0, vR a0), (1, vI a1), (3, vI v6), (2, vI v12)] _ _ _
        refine x_iinc F dX12_load_47 rfl (by decide) rfl rfl (fun v13 => ?_)
        show Y cx x _ _ _ _ [(0, vR a0), (1, vI a1), (3, vI v13), (2, vI v12)] _ _ _
        refine x_goto (pc' := 19) F dX12_load_50 rfl ?_
        refine x_dp (L' := [(0, vR a0), (1, vI a1), (2, vI v12), (3, vI v13)]) [0, 1, 3, 2] rfl ?_
        exact hrc7 v12 v13
      · refine x_icmpne (pt := 44) F dX12_load_35 rfl rfl ?_ ?_
        · refine x_iconst F dX12_load_38 ⟨by decide, by decide⟩ rfl ?_
          refine x_iload_n F dX12_load_39 rfl rfl rfl ?_
          refine x_ishl F dX12_load_40 rfl ?_
          refine x_goto (pc' := 45) F dX12_load_41 rfl ?_
          refine x_dp (L' := [(0, vR a0), (1, vI a1), (3, vI v6)]) [0, 1, 3] rfl ?_
          exact hK11 (ishl 1 v6)
        · refine x_iconst F dX12_load_44 ⟨by decide, by decide⟩ rfl ?_
          refine x_dp (L' := [(0, vR a0), (1, vI a1), (3, vI v6)]) [0, 1, 3] rfl ?_
          exact hK11 0
    · refine x_iload_n F dX12_load_53 rfl rfl rfl ?_
      exact x_iret F hnE hQ dX12_load_54
theorem dX12_moves_0 : decode cX12_moves 0 = .ok (.aload_n 0, 1) := by decide +kernel
theorem dX12_moves_1 : decode cX12_moves 1 = .ok (.iconst 0, 1) := by decide +kernel
theorem dX12_moves_2 : decode cX12_moves 2 = .ok (.putfield 1, 3) := by decide +kernel
theorem dX12_moves_5 : decode cX12_moves 5 = .ok (.aload_n 0, 1) := by decide +kernel
theorem dX12_moves_6 : decode cX12_moves 6 = .ok (.iload_n 1, 1) := by decide +kernel
theorem dX12_moves_7 : decode cX12_moves 7 = .ok (.invokevirtual 386, 3) := by decide +kernel
theorem dX12_moves_10 : decode cX12_moves 10 = .ok (.ifCond .ne 5, 3) := by decide +kernel
theorem dX12_moves_13 : decode cX12_moves 13 = .ok (.iconst (-1), 1) := by decide +kernel
theorem dX12_moves_14 : decode cX12_moves 14 = .ok (.ireturn, 1) := by decide +kernel
theorem dX12_moves_15 : decode cX12_moves 15 = .ok (.aload_n 0, 1) := by decide +kernel
theorem dX12_moves_16 : decode cX12_moves 16 = .ok (.iconst 0, 1) := by decide +kernel
theorem dX12_moves_17 : decode cX12_moves 17 = .ok (.sipush 3255, 3) := by decide +kernel
theorem dX12_moves_20 : decode cX12_moves 20 = .ok (.sipush 130, 3) := by decide +kernel
theorem dX12_moves_23 : decode cX12_moves 23 = .ok (.invokevirtual 275, 3) := by decide +kernel
theorem dX12_moves_26 : decode cX12_moves 26 = .ok (.aload_n 0, 1) := by decide +kernel
theorem dX12_moves_27 : decode cX12_moves 27 = .ok (.getfield 105, 3) := by decide +kernel
theorem dX12_moves_30 : decode cX12_moves 30 = .ok (.sipush 3255, 3) := by decide +kernel
theorem dX12_moves_33 : decode cX12_moves 33 = .ok (.bipush 15, 2) := by decide +kernel
theorem dX12_moves_35 : decode cX12_moves 35 = .ok (.iload_n 1, 1) := by decide +kernel
theorem dX12_moves_36 : decode cX12_moves 36 = .ok (.imul, 1) := by decide +kernel
theorem dX12_moves_37 : decode cX12_moves 37 = .ok (.iadd, 1) := by decide +kernel
theorem dX12_moves_38 : decode cX12_moves 38 = .ok (.iconst 0, 1) := by decide +kernel
theorem dX12_moves_39 : decode cX12_moves 39 = .ok (.iadd, 1) := by decide +kernel
theorem dX12_moves_40 : decode cX12_moves 40 = .ok (.aload_n 0, 1) := by decide +kernel
theorem dX12_moves_41 : decode cX12_moves 41 = .ok (.iconst 0, 1) := by decide +kernel
theorem dX12_moves_42 : decode cX12_moves 42 = .ok (.iload_n 1, 1) := by decide +kernel
theorem dX12_moves_43 : decode cX12_moves 43 = .ok (.invokevirtual 278, 3) := by decide +kernel
theorem dX12_moves_46 : decode cX12_moves 46 = .ok (.ifCond .eq 7, 3) := by decide +kernel
theorem dX12_moves_49 : decode cX12_moves 49 = .ok (.iconst 0, 1) := by decide +kernel
theorem dX12_moves_50 : decode cX12_moves 50 = .ok (.goto 4, 3) := by decide +kernel
theorem dX12_moves_53 : decode cX12_moves 53 = .ok (.iconst 1, 1) := by decide +kernel
theorem dX12_moves_54 : decode cX12_moves 54 = .ok (.iastore, 1) := by decide +kernel
theorem dX12_moves_55 : decode cX12_moves 55 = .ok (.iconst 0, 1) := by decide +kernel
theorem dX12_moves_56 : decode cX12_moves 56 = .ok (.istore_n 2, 1) := by decide +kernel
theorem dX12_moves_57 : decode cX12_moves 57 = .ok (.iconst 0, 1) := by decide +kernel
theorem dX12_moves_58 : decode cX12_moves 58 = .ok (.istore_n 3, 1) := by decide +kernel
theorem dX12_moves_59 : decode cX12_moves 59 = .ok (.iload_n 3, 1) := by decide +kernel
theorem dX12_moves_60 : decode cX12_moves 60 = .ok (.aload_n 0, 1) := by decide +kernel
theorem dX12_moves_61 : decode cX12_moves 61 = .ok (.invokevirtual 229, 3) := by decide +kernel
theorem dX12_moves_64 : decode cX12_moves 64 = .ok (.if_icmp .ge 34, 3) := by decide +kernel
theorem dX12_moves_67 : decode cX12_moves 67 = .ok (.iload_n 2, 1) := by decide +kernel
theorem dX12_moves_68 : decode cX12_moves 68 = .ok (.aload_n 0, 1) := by decide +kernel
theorem dX12_moves_69 : decode cX12_moves 69 = .ok (.iconst 0, 1) := by decide +kernel
theorem dX12_moves_70 : decode cX12_moves 70 = .ok (.iload_n 3, 1) := by decide +kernel
theorem dX12_moves_71 : decode cX12_moves 71 = .ok (.invokevirtual 414, 3) := by decide +kernel
theorem dX12_moves_74 : decode cX12_moves 74 = .ok (.aload_n 0, 1) := by decide +kernel
theorem dX12_moves_75 : decode cX12_moves 75 = .ok (.sipush 3255, 3) := by decide +kernel
theorem dX12_moves_78 : decode cX12_moves 78 = .ok (.iload_n 3, 1) := by decide +kernel
theorem dX12_moves_79 : decode cX12_moves 79 = .ok (.invokevirtual 414, 3) := by decide +kernel
theorem dX12_moves_82 : decode cX12_moves 82 = .ok (.if_icmp .eq 7, 3) := by decide +kernel
theorem dX12_moves_85 : decode cX12_moves 85 = .ok (.iconst 1, 1) := by decide +kernel
theorem dX12_moves_86 : decode cX12_moves 86 = .ok (.goto 4, 3) := by decide +kernel
theorem dX12_moves_89 : decode cX12_moves 89 = .ok (.iconst 0, 1) := by decide +kernel
theorem dX12_moves_90 : decode cX12_moves 90 = .ok (.iadd, 1) := by decide +kernel
theorem dX12_moves_91 : decode cX12_moves 91 = .ok (.istore_n 2, 1) := by decide +kernel
theorem dX12_moves_92 : decode cX12_moves 92 = .ok (.iinc 3 1, 3) := by decide +kernel
theorem dX12_moves_95 : decode cX12_moves 95 = .ok (.goto (-36), 3) := by decide +kernel
theorem dX12_moves_98 : decode cX12_moves 98 = .ok (.iload_n 2, 1) := by decide +kernel
theorem dX12_moves_99 : decode cX12_moves 99 = .ok (.ireturn, 1) := by decide +kernel
def fX12_moves (a0 : Nat) (a1 : Int) (G : Hp) : RT := bh (up G a0 0 0) fun G1 => bp (fX12_isNode a0 a1 G1) fun v2 => if v2 = 0 then (rt ((-1)) G1) else (bn (fX12_copies a0 0 3255 130 G1) fun _ G3 => bp (fX12_isIn a0 0 a1 G3) fun v4 => jn (fun (v5 : Int) => bs (wr G3 ((rf a0 17)) 3565 (iadd (iadd 3255 (imul 15 a1)) 0) v5) fun G7 => bd 0 fun v8 => bd 0 fun v9 => (lp (fun (_ : Int) (_ : Int) => (none : RT)) 5000 (fun (rc12 : Int → Int → RT) (v10 : Int) (v11 : Int) => bp (fX12_keys a0 G7) fun v13 => if v11 < v13 then (bp (fX12_ownerOf a0 0 v11 G7) fun v14 => bp (fX12_ownerOf a0 3255 v11 G7) fun v15 => jn (fun (v16 : Int) => bd (iadd v10 v16) fun v18 => bd (iadd v11 1) fun v19 => rc12 v18 v19) fun (K17 : Int → RT) => if v14 = v15 then K17 0 else K17 1) else rt v10 G7)) v8 v9) fun (K6 : Int → RT) => if v4 = 0 then K6 1 else K6 0)
set_option maxRecDepth 20000 in
set_option maxHeartbeats 4000000 in
theorem tX12_moves (l : Launch) (x : WX) (hi : Inj x.2.2) (G : Hp) (a0 : Nat) (a1 : Int) (ha0 : kd a0 = 12) : Ct l x yX12_moves cX12_moves 4 (some .int) 4 129 129 [vR a0, vI a1] G (fX12_moves a0 a1 G) := by
  refine ct_of (plainFor_of_name (by decide)) hi (Nat.le_refl _) (Nat.le_refl _) (Nat.le_of_ble_eq_true rfl) (fun cx F hd hn0 hnE hl hQ => ?_)
  subst hl
  have F : Fx cx x RX12 cX12_moves 4 (some .int) := F
  show Y cx x 4 (some .int) 129 0 [(0, vR a0), (1, vI a1)] [] G _
  unfold fX12_moves
  refine x_aload_n F dX12_moves_0 rfl rfl rfl ?_
  refine x_iconst F dX12_moves_1 ⟨by decide, by decide⟩ rfl ?_
  refine s_putI F fpX12_1 ha0 rfl dX12_moves_2 rfl (fun G1 => ?_)
  refine x_aload_n F dX12_moves_5 rfl rfl rfl ?_
  refine x_iload_n F dX12_moves_6 rfl rfl rfl ?_
  refine s_callVP F [vI a1] [] lkX12_386 mX12_isNode rfl ha0 rfl hnE hn0 hd pX12_isNode (tX12_isNode cx.l x hi G1 a0 a1 ha0) rfl rfl dX12_moves_7 rfl rfl (fun v2 => ?_)
  refine x_ifne (pt := 15) F dX12_moves_10 rfl rfl ?_ ?_
  · refine x_iconst F dX12_moves_13 ⟨by decide, by decide⟩ rfl ?_
    exact x_iret F hnE hQ dX12_moves_14
  · refine x_aload_n F dX12_moves_15 rfl rfl rfl ?_
    refine x_iconst F dX12_moves_16 ⟨by decide, by decide⟩ rfl ?_
    refine x_sipush F dX12_moves_17 ⟨by decide, by decide⟩ (by decide) rfl ?_
    refine x_sipush F dX12_moves_20 ⟨by decide, by decide⟩ (by decide) rfl ?_
    refine s_callVv F [vI 0, vI 3255, vI 130] [] lkX12_275 mX12_copies rfl ha0 rfl hnE hn0 hd (tX12_copies cx.l x hi G1 a0 0 3255 130 ha0) rfl rfl dX12_moves_23 rfl rfl (fun _ G3 => ?_)
    refine x_aload_n F dX12_moves_26 rfl rfl rfl ?_
    refine x_getR F flX12_105 ha0 rfl dX12_moves_27 rfl ?_
    refine x_sipush F dX12_moves_30 ⟨by decide, by decide⟩ (by decide) rfl ?_
    refine x_bipush F dX12_moves_33 ⟨by decide, by decide⟩ (by decide) rfl ?_
    refine x_iload_n F dX12_moves_35 rfl rfl rfl ?_
    refine x_imul F dX12_moves_36 rfl ?_
    refine x_iadd F dX12_moves_37 rfl ?_
    refine x_iconst F dX12_moves_38 ⟨by decide, by decide⟩ rfl ?_
    refine x_iadd F dX12_moves_39 rfl ?_
    refine x_aload_n F dX12_moves_40 rfl rfl rfl ?_
    refine x_iconst F dX12_moves_41 ⟨by decide, by decide⟩ rfl ?_
    refine x_iload_n F dX12_moves_42 rfl rfl rfl ?_
    refine s_callVP F [vI 0, vI a1] [vI (iadd (iadd 3255 (imul 15 a1)) 0), vR ((rf a0 17))] lkX12_278 mX12_isIn rfl ha0 rfl hnE hn0 hd pX12_isIn (tX12_isIn cx.l x hi G3 a0 0 a1 ha0) rfl rfl dX12_moves_43 rfl rfl (fun v4 => ?_)
    refine x_jn (fun (K6 : Int → RT) => ∀ (v5 : Int), Y cx x 4 (some .int) 129 54 [(0, vR a0)] [vI v5, vI (iadd (iadd 3255 (imul 15 a1)) 0), vR ((rf a0 17))] G3 (K6 v5)) ?_ (fun K6 hK6 => ?_)
    · intro v5
      refine s_iast F (tf12_17 ha0).1 (tf12_17 ha0).2 dX12_moves_54 rfl (fun G7 => ?_)
      refine x_iconst F dX12_moves_55 ⟨by decide, by decide⟩ rfl ?_
      refine x_istore_n F dX12_moves_56 rfl (by decide) rfl rfl (fun v8 => ?_)
      show Y cx x _ _ _ _ [(0, vR a0), (2, vI v8)] _ _ _
      refine x_iconst F dX12_moves_57 ⟨by decide, by decide⟩ rfl ?_
      refine x_istore_n F dX12_moves_58 rfl (by decide) rfl rfl (fun v9 => ?_)
      show Y cx x _ _ _ _ [(0, vR a0), (2, vI v8), (3, vI v9)] _ _ _
      refine x_lp (fun (rc12 : Int → Int → RT) => ∀ (v10 : Int) (v11 : Int), Y cx x 4 (some .int) 129 59 [(0, vR a0), (2, vI v10), (3, vI v11)] [] G7 (rc12 v10 v11)) (fun _ _ => Y_none) (fun rc12 hrc12 v10 v11 => ?_) 5000 v8 v9
      refine x_iload_n F dX12_moves_59 rfl rfl rfl ?_
      refine x_aload_n F dX12_moves_60 rfl rfl rfl ?_
      refine s_callVP F [] [vI v11] lkX12_229 mX12_keys rfl ha0 rfl hnE hn0 hd pX12_keys (tX12_keys cx.l x hi G7 a0 ha0) rfl rfl dX12_moves_61 rfl rfl (fun v13 => ?_)
      refine x_icmpge (pt := 98) F dX12_moves_64 rfl rfl ?_ ?_
      · refine x_iload_n F dX12_moves_67 rfl rfl rfl ?_
        refine x_aload_n F dX12_moves_68 rfl rfl rfl ?_
        refine x_iconst F dX12_moves_69 ⟨by decide, by decide⟩ rfl ?_
        refine x_iload_n F dX12_moves_70 rfl rfl rfl ?_
        refine s_callVP F [vI 0, vI v11] [vI v10] lkX12_414 mX12_ownerOf rfl ha0 rfl hnE hn0 hd pX12_ownerOf (tX12_ownerOf cx.l x hi G7 a0 0 v11 ha0) rfl rfl dX12_moves_71 rfl rfl (fun v14 => ?_)
        refine x_aload_n F dX12_moves_74 rfl rfl rfl ?_
        refine x_sipush F dX12_moves_75 ⟨by decide, by decide⟩ (by decide) rfl ?_
        refine x_iload_n F dX12_moves_78 rfl rfl rfl ?_
        refine s_callVP F [vI 3255, vI v11] [vI v14, vI v10] lkX12_414 mX12_ownerOf rfl ha0 rfl hnE hn0 hd pX12_ownerOf (tX12_ownerOf cx.l x hi G7 a0 3255 v11 ha0) rfl rfl dX12_moves_79 rfl rfl (fun v15 => ?_)
        refine x_jn (fun (K17 : Int → RT) => ∀ (v16 : Int), Y cx x 4 (some .int) 129 90 [(0, vR a0), (3, vI v11)] [vI v16, vI v10] G7 (K17 v16)) ?_ (fun K17 hK17 => ?_)
        · intro v16
          refine x_iadd F dX12_moves_90 rfl ?_
          refine x_istore_n F dX12_moves_91 rfl (by decide) rfl rfl (fun v18 => ?_)
          show Y cx x _ _ _ _ [(0, vR a0), (3, vI v11), (2, vI v18)] _ _ _
          refine x_iinc F dX12_moves_92 rfl (by decide) rfl rfl (fun v19 => ?_)
          show Y cx x _ _ _ _ [(0, vR a0), (3, vI v19), (2, vI v18)] _ _ _
          refine x_goto (pc' := 59) F dX12_moves_95 rfl ?_
          refine x_dp (L' := [(0, vR a0), (2, vI v18), (3, vI v19)]) [0, 2, 1] rfl ?_
          exact hrc12 v18 v19
        · refine x_icmpeq (pt := 89) F dX12_moves_82 rfl rfl ?_ ?_
          · refine x_iconst F dX12_moves_89 ⟨by decide, by decide⟩ rfl ?_
            refine x_dp (L' := [(0, vR a0), (3, vI v11)]) [0, 2] rfl ?_
            exact hK17 0
          · refine x_iconst F dX12_moves_85 ⟨by decide, by decide⟩ rfl ?_
            refine x_goto (pc' := 90) F dX12_moves_86 rfl ?_
            refine x_dp (L' := [(0, vR a0), (3, vI v11)]) [0, 2] rfl ?_
            exact hK17 1
      · refine x_iload_n F dX12_moves_98 rfl rfl rfl ?_
        exact x_iret F hnE hQ dX12_moves_99
    · refine x_ifeq (pt := 53) F dX12_moves_46 rfl rfl ?_ ?_
      · refine x_iconst F dX12_moves_53 ⟨by decide, by decide⟩ rfl ?_
        refine x_dp (L' := [(0, vR a0)]) [0] rfl ?_
        exact hK6 1
      · refine x_iconst F dX12_moves_49 ⟨by decide, by decide⟩ rfl ?_
        refine x_goto (pc' := 54) F dX12_moves_50 rfl ?_
        refine x_dp (L' := [(0, vR a0)]) [0] rfl ?_
        exact hK6 0
theorem dX12_finds_0 : decode cX12_finds 0 = .ok (.aload_n 0, 1) := by decide +kernel
theorem dX12_finds_1 : decode cX12_finds 1 = .ok (.iconst 0, 1) := by decide +kernel
theorem dX12_finds_2 : decode cX12_finds 2 = .ok (.putfield 307, 3) := by decide +kernel
theorem dX12_finds_5 : decode cX12_finds 5 = .ok (.iload_n 2, 1) := by decide +kernel
theorem dX12_finds_6 : decode cX12_finds 6 = .ok (.istore 4, 2) := by decide +kernel
theorem dX12_finds_8 : decode cX12_finds 8 = .ok (.iconst 0, 1) := by decide +kernel
theorem dX12_finds_9 : decode cX12_finds 9 = .ok (.istore 5, 2) := by decide +kernel
theorem dX12_finds_11 : decode cX12_finds 11 = .ok (.iload 5, 2) := by decide +kernel
theorem dX12_finds_13 : decode cX12_finds 13 = .ok (.bipush 20, 2) := by decide +kernel
theorem dX12_finds_15 : decode cX12_finds 15 = .ok (.if_icmp .gt 90, 3) := by decide +kernel
theorem dX12_finds_18 : decode cX12_finds 18 = .ok (.aload_n 0, 1) := by decide +kernel
theorem dX12_finds_19 : decode cX12_finds 19 = .ok (.iload_n 1, 1) := by decide +kernel
theorem dX12_finds_20 : decode cX12_finds 20 = .ok (.iload 4, 2) := by decide +kernel
theorem dX12_finds_22 : decode cX12_finds 22 = .ok (.invokevirtual 310, 3) := by decide +kernel
theorem dX12_finds_25 : decode cX12_finds 25 = .ok (.istore 6, 2) := by decide +kernel
theorem dX12_finds_27 : decode cX12_finds 27 = .ok (.iload 6, 2) := by decide +kernel
theorem dX12_finds_29 : decode cX12_finds 29 = .ok (.ifCond .ge 5, 3) := by decide +kernel
theorem dX12_finds_32 : decode cX12_finds 32 = .ok (.iconst (-1), 1) := by decide +kernel
theorem dX12_finds_33 : decode cX12_finds 33 = .ok (.ireturn, 1) := by decide +kernel
theorem dX12_finds_34 : decode cX12_finds 34 = .ok (.aload_n 0, 1) := by decide +kernel
theorem dX12_finds_35 : decode cX12_finds 35 = .ok (.aload_n 0, 1) := by decide +kernel
theorem dX12_finds_36 : decode cX12_finds 36 = .ok (.iload 4, 2) := by decide +kernel
theorem dX12_finds_38 : decode cX12_finds 38 = .ok (.invokevirtual 282, 3) := by decide +kernel
theorem dX12_finds_41 : decode cX12_finds 41 = .ok (.iload_n 3, 1) := by decide +kernel
theorem dX12_finds_42 : decode cX12_finds 42 = .ok (.invokevirtual 285, 3) := by decide +kernel
theorem dX12_finds_45 : decode cX12_finds 45 = .ok (.aload_n 0, 1) := by decide +kernel
theorem dX12_finds_46 : decode cX12_finds 46 = .ok (.iload 4, 2) := by decide +kernel
theorem dX12_finds_48 : decode cX12_finds 48 = .ok (.iload 6, 2) := by decide +kernel
theorem dX12_finds_50 : decode cX12_finds 50 = .ok (.invokevirtual 297, 3) := by decide +kernel
theorem dX12_finds_53 : decode cX12_finds 53 = .ok (.if_icmp .gt 6, 3) := by decide +kernel
theorem dX12_finds_56 : decode cX12_finds 56 = .ok (.iload 6, 2) := by decide +kernel
theorem dX12_finds_58 : decode cX12_finds 58 = .ok (.ireturn, 1) := by decide +kernel
theorem dX12_finds_59 : decode cX12_finds 59 = .ok (.aload_n 0, 1) := by decide +kernel
theorem dX12_finds_60 : decode cX12_finds 60 = .ok (.getfield 307, 3) := by decide +kernel
theorem dX12_finds_63 : decode cX12_finds 63 = .ok (.bipush 20, 2) := by decide +kernel
theorem dX12_finds_65 : decode cX12_finds 65 = .ok (.if_icmp .ge 34, 3) := by decide +kernel
theorem dX12_finds_68 : decode cX12_finds 68 = .ok (.aload_n 0, 1) := by decide +kernel
theorem dX12_finds_69 : decode cX12_finds 69 = .ok (.iload_n 1, 1) := by decide +kernel
theorem dX12_finds_70 : decode cX12_finds 70 = .ok (.iload 4, 2) := by decide +kernel
theorem dX12_finds_72 : decode cX12_finds 72 = .ok (.iload_n 3, 1) := by decide +kernel
theorem dX12_finds_73 : decode cX12_finds 73 = .ok (.invokevirtual 313, 3) := by decide +kernel
theorem dX12_finds_76 : decode cX12_finds 76 = .ok (.istore 4, 2) := by decide +kernel
theorem dX12_finds_78 : decode cX12_finds 78 = .ok (.aload_n 0, 1) := by decide +kernel
theorem dX12_finds_79 : decode cX12_finds 79 = .ok (.getfield 115, 3) := by decide +kernel
theorem dX12_finds_82 : decode cX12_finds 82 = .ok (.aload_n 0, 1) := by decide +kernel
theorem dX12_finds_83 : decode cX12_finds 83 = .ok (.getfield 307, 3) := by decide +kernel
theorem dX12_finds_86 : decode cX12_finds 86 = .ok (.iload 4, 2) := by decide +kernel
theorem dX12_finds_88 : decode cX12_finds 88 = .ok (.iastore, 1) := by decide +kernel
theorem dX12_finds_89 : decode cX12_finds 89 = .ok (.aload_n 0, 1) := by decide +kernel
theorem dX12_finds_90 : decode cX12_finds 90 = .ok (.dup, 1) := by decide +kernel
theorem dX12_finds_91 : decode cX12_finds 91 = .ok (.getfield 307, 3) := by decide +kernel
theorem dX12_finds_94 : decode cX12_finds 94 = .ok (.iconst 1, 1) := by decide +kernel
theorem dX12_finds_95 : decode cX12_finds 95 = .ok (.iadd, 1) := by decide +kernel
theorem dX12_finds_96 : decode cX12_finds 96 = .ok (.putfield 307, 3) := by decide +kernel
theorem dX12_finds_99 : decode cX12_finds 99 = .ok (.iinc 5 1, 3) := by decide +kernel
theorem dX12_finds_102 : decode cX12_finds 102 = .ok (.goto (-91), 3) := by decide +kernel
theorem dX12_finds_105 : decode cX12_finds 105 = .ok (.iconst (-1), 1) := by decide +kernel
theorem dX12_finds_106 : decode cX12_finds 106 = .ok (.ireturn, 1) := by decide +kernel
def fX12_finds (a0 : Nat) (a1 : Int) (a2 : Int) (a3 : Int) (G : Hp) : RT := bh (up G a0 21 0) fun G1 => bd a2 fun v2 => bd 0 fun v3 => (lp (fun (_ : Int) (_ : Int) (_ : Hp) => (none : RT)) 5000 (fun (rc7 : Int → Int → Hp → RT) (v4 : Int) (v5 : Int) (G6 : Hp) => if 20 < v5 then (rt ((-1)) G6) else (bp (fX12_firstOf a0 a1 v4 G6) fun v8 => bd v8 fun v9 => if v9 < 0 then (rt ((-1)) G6) else (bp (fX12_placeOf a0 v4 G6) fun v10 => bp (fX12_way a0 v10 a3 G6) fun v11 => bp (fX12_wayTo a0 v4 v9 G6) fun v12 => if v12 < v11 then (jn (fun (v13 : Int) (G14 : Hp) => bd (iadd v5 1) fun v16 => rc7 v13 v16 G14) fun (K15 : Int → Hp → RT) => if (G6 a0 21) < 20 then (bp (fX12_asksOn a0 a1 v4 a3 G6) fun v17 => bd v17 fun v18 => bs (wr G6 ((rf a0 22)) 20 (G6 a0 21) v18) fun G19 => bh (up G19 a0 21 (iadd (G19 a0 21) 1)) fun G20 => K15 v18 G20) else K15 v4 G6) else rt v9 G6)))) v2 v3 G1
set_option maxRecDepth 20000 in
set_option maxHeartbeats 4000000 in
theorem tX12_finds (l : Launch) (x : WX) (hi : Inj x.2.2) (G : Hp) (a0 : Nat) (a1 : Int) (a2 : Int) (a3 : Int) (ha0 : kd a0 = 12) : Ct l x yX12_finds cX12_finds 7 (some .int) 5 129 129 [vR a0, vI a1, vI a2, vI a3] G (fX12_finds a0 a1 a2 a3 G) := by
  refine ct_of (plainFor_of_name (by decide)) hi (Nat.le_refl _) (Nat.le_refl _) (Nat.le_of_ble_eq_true rfl) (fun cx F hd hn0 hnE hl hQ => ?_)
  subst hl
  have F : Fx cx x RX12 cX12_finds 7 (some .int) := F
  show Y cx x 7 (some .int) 129 0 [(0, vR a0), (1, vI a1), (2, vI a2), (3, vI a3)] [] G _
  unfold fX12_finds
  refine x_aload_n F dX12_finds_0 rfl rfl rfl ?_
  refine x_iconst F dX12_finds_1 ⟨by decide, by decide⟩ rfl ?_
  refine s_putI F fpX12_307 ha0 rfl dX12_finds_2 rfl (fun G1 => ?_)
  refine x_iload_n F dX12_finds_5 rfl rfl rfl ?_
  refine x_dp (L' := [(0, vR a0), (1, vI a1), (3, vI a3)]) [0, 1, 3] rfl ?_
  refine x_istore F dX12_finds_6 (by decide) rfl rfl (fun v2 => ?_)
  show Y cx x _ _ _ _ [(0, vR a0), (1, vI a1), (3, vI a3), (4, vI v2)] _ _ _
  refine x_iconst F dX12_finds_8 ⟨by decide, by decide⟩ rfl ?_
  refine x_istore F dX12_finds_9 (by decide) rfl rfl (fun v3 => ?_)
  show Y cx x _ _ _ _ [(0, vR a0), (1, vI a1), (3, vI a3), (4, vI v2), (5, vI v3)] _ _ _
  refine x_lp (fun (rc7 : Int → Int → Hp → RT) => ∀ (v4 : Int) (v5 : Int) (G6 : Hp), Y cx x 7 (some .int) 129 11 [(0, vR a0), (1, vI a1), (3, vI a3), (4, vI v4), (5, vI v5)] [] G6 (rc7 v4 v5 G6)) (fun _ _ _ => Y_none) (fun rc7 hrc7 v4 v5 G6 => ?_) 5000 v2 v3 G1
  refine x_iload F dX12_finds_11 rfl rfl ?_
  refine x_bipush F dX12_finds_13 ⟨by decide, by decide⟩ (by decide) rfl ?_
  refine x_icmpgt (pt := 105) F dX12_finds_15 rfl rfl ?_ ?_
  · refine x_iconst F dX12_finds_105 ⟨by decide, by decide⟩ rfl ?_
    exact x_iret F hnE hQ dX12_finds_106
  · refine x_aload_n F dX12_finds_18 rfl rfl rfl ?_
    refine x_iload_n F dX12_finds_19 rfl rfl rfl ?_
    refine x_iload F dX12_finds_20 rfl rfl ?_
    refine s_callVP F [vI a1, vI v4] [] lkX12_310 mX12_firstOf rfl ha0 rfl hnE hn0 hd pX12_firstOf (tX12_firstOf cx.l x hi G6 a0 a1 v4 ha0) rfl rfl dX12_finds_22 rfl rfl (fun v8 => ?_)
    refine x_istore F dX12_finds_25 (by decide) rfl rfl (fun v9 => ?_)
    show Y cx x _ _ _ _ [(0, vR a0), (1, vI a1), (3, vI a3), (4, vI v4), (5, vI v5), (6, vI v9)] _ _ _
    refine x_iload F dX12_finds_27 rfl rfl ?_
    refine x_ifge (pt := 34) F dX12_finds_29 rfl rfl ?_ ?_
    · refine x_iconst F dX12_finds_32 ⟨by decide, by decide⟩ rfl ?_
      exact x_iret F hnE hQ dX12_finds_33
    · refine x_aload_n F dX12_finds_34 rfl rfl rfl ?_
      refine x_aload_n F dX12_finds_35 rfl rfl rfl ?_
      refine x_iload F dX12_finds_36 rfl rfl ?_
      refine s_callVP F [vI v4] [vR a0] lkX12_282 mX12_placeOf rfl ha0 rfl hnE hn0 hd pX12_placeOf (tX12_placeOf cx.l x hi G6 a0 v4 ha0) rfl rfl dX12_finds_38 rfl rfl (fun v10 => ?_)
      refine x_iload_n F dX12_finds_41 rfl rfl rfl ?_
      refine s_callVP F [vI v10, vI a3] [] lkX12_285 mX12_way rfl ha0 rfl hnE hn0 hd pX12_way (tX12_way cx.l x hi G6 a0 v10 a3 ha0) rfl rfl dX12_finds_42 rfl rfl (fun v11 => ?_)
      refine x_aload_n F dX12_finds_45 rfl rfl rfl ?_
      refine x_iload F dX12_finds_46 rfl rfl ?_
      refine x_iload F dX12_finds_48 rfl rfl ?_
      refine s_callVP F [vI v4, vI v9] [vI v11] lkX12_297 mX12_wayTo rfl ha0 rfl hnE hn0 hd pX12_wayTo (tX12_wayTo cx.l x hi G6 a0 v4 v9 ha0) rfl rfl dX12_finds_50 rfl rfl (fun v12 => ?_)
      refine x_icmpgt (pt := 59) F dX12_finds_53 rfl rfl ?_ ?_
      · refine x_aload_n F dX12_finds_59 rfl rfl rfl ?_
        refine s_getI F flX12_307 ha0 rfl dX12_finds_60 rfl ?_
        refine x_bipush F dX12_finds_63 ⟨by decide, by decide⟩ (by decide) rfl ?_
        refine x_jn (fun (K15 : Int → Hp → RT) => ∀ (v13 : Int) (G14 : Hp), Y cx x 7 (some .int) 129 99 [(0, vR a0), (1, vI a1), (3, vI a3), (4, vI v13), (5, vI v5)] [] G14 (K15 v13 G14)) ?_ (fun K15 hK15 => ?_)
        · intro v13 G14
          refine x_iinc F dX12_finds_99 rfl (by decide) rfl rfl (fun v16 => ?_)
          show Y cx x _ _ _ _ [(0, vR a0), (1, vI a1), (3, vI a3), (4, vI v13), (5, vI v16)] _ _ _
          refine x_goto (pc' := 11) F dX12_finds_102 rfl ?_
          exact hrc7 v13 v16 G14
        · refine x_icmpge (pt := 99) F dX12_finds_65 rfl rfl ?_ ?_
          · refine x_aload_n F dX12_finds_68 rfl rfl rfl ?_
            refine x_iload_n F dX12_finds_69 rfl rfl rfl ?_
            refine x_iload F dX12_finds_70 rfl rfl ?_
            refine x_iload_n F dX12_finds_72 rfl rfl rfl ?_
            refine s_callVP F [vI a1, vI v4, vI a3] [] lkX12_313 mX12_asksOn rfl ha0 rfl hnE hn0 hd pX12_asksOn (tX12_asksOn cx.l x hi G6 a0 a1 v4 a3 ha0) rfl rfl dX12_finds_73 rfl rfl (fun v17 => ?_)
            refine x_dp (L' := [(0, vR a0), (1, vI a1), (3, vI a3), (4, vI v4), (5, vI v5)]) [0, 1, 2, 3, 4] rfl ?_
            refine x_istore F dX12_finds_76 (by decide) rfl rfl (fun v18 => ?_)
            show Y cx x _ _ _ _ [(0, vR a0), (1, vI a1), (3, vI a3), (4, vI v18), (5, vI v5)] _ _ _
            refine x_aload_n F dX12_finds_78 rfl rfl rfl ?_
            refine x_getR F flX12_115 ha0 rfl dX12_finds_79 rfl ?_
            refine x_aload_n F dX12_finds_82 rfl rfl rfl ?_
            refine s_getI F flX12_307 ha0 rfl dX12_finds_83 rfl ?_
            refine x_iload F dX12_finds_86 rfl rfl ?_
            refine s_iast F (tf12_22 ha0).1 (tf12_22 ha0).2 dX12_finds_88 rfl (fun G19 => ?_)
            refine x_aload_n F dX12_finds_89 rfl rfl rfl ?_
            refine x_dup F dX12_finds_90 rfl rfl ?_
            refine s_getI F flX12_307 ha0 rfl dX12_finds_91 rfl ?_
            refine x_iconst F dX12_finds_94 ⟨by decide, by decide⟩ rfl ?_
            refine x_iadd F dX12_finds_95 rfl ?_
            refine s_putI F fpX12_307 ha0 rfl dX12_finds_96 rfl (fun G20 => ?_)
            exact hK15 v18 G20
          · refine x_dp (L' := [(0, vR a0), (1, vI a1), (3, vI a3), (4, vI v4), (5, vI v5)]) [0, 1, 2, 3, 4] rfl ?_
            exact hK15 v4 G6
      · refine x_iload F dX12_finds_56 rfl rfl ?_
        exact x_iret F hnE hQ dX12_finds_58
theorem dX12_tidy_0 : decode cX12_tidy 0 = .ok (.aload_n 0, 1) := by decide +kernel
theorem dX12_tidy_1 : decode cX12_tidy 1 = .ok (.iconst 0, 1) := by decide +kernel
theorem dX12_tidy_2 : decode cX12_tidy 2 = .ok (.putfield 1, 3) := by decide +kernel
theorem dX12_tidy_5 : decode cX12_tidy 5 = .ok (.aload_n 0, 1) := by decide +kernel
theorem dX12_tidy_6 : decode cX12_tidy 6 = .ok (.invokevirtual 383, 3) := by decide +kernel
theorem dX12_tidy_9 : decode cX12_tidy 9 = .ok (.aload_n 0, 1) := by decide +kernel
theorem dX12_tidy_10 : decode cX12_tidy 10 = .ok (.iload_n 1, 1) := by decide +kernel
theorem dX12_tidy_11 : decode cX12_tidy 11 = .ok (.invokevirtual 386, 3) := by decide +kernel
theorem dX12_tidy_14 : decode cX12_tidy 14 = .ok (.ifCond .eq 12, 3) := by decide +kernel
theorem dX12_tidy_17 : decode cX12_tidy 17 = .ok (.aload_n 0, 1) := by decide +kernel
theorem dX12_tidy_18 : decode cX12_tidy 18 = .ok (.iconst 0, 1) := by decide +kernel
theorem dX12_tidy_19 : decode cX12_tidy 19 = .ok (.iload_n 1, 1) := by decide +kernel
theorem dX12_tidy_20 : decode cX12_tidy 20 = .ok (.invokevirtual 371, 3) := by decide +kernel
theorem dX12_tidy_23 : decode cX12_tidy 23 = .ok (.goto 4, 3) := by decide +kernel
theorem dX12_tidy_26 : decode cX12_tidy 26 = .ok (.iconst (-1), 1) := by decide +kernel
theorem dX12_tidy_27 : decode cX12_tidy 27 = .ok (.istore_n 2, 1) := by decide +kernel
theorem dX12_tidy_28 : decode cX12_tidy 28 = .ok (.aload_n 0, 1) := by decide +kernel
theorem dX12_tidy_29 : decode cX12_tidy 29 = .ok (.iload_n 2, 1) := by decide +kernel
theorem dX12_tidy_30 : decode cX12_tidy 30 = .ok (.invokevirtual 392, 3) := by decide +kernel
theorem dX12_tidy_33 : decode cX12_tidy 33 = .ok (.ireturn, 1) := by decide +kernel
def fX12_tidy (a0 : Nat) (a1 : Int) (G : Hp) : RT := bh (up G a0 0 0) fun G1 => bn (fX12_aside a0 G1) fun _ G2 => bp (fX12_isNode a0 a1 G2) fun v3 => jn (fun (v4 : Int) (G5 : Hp) => bd v4 fun v7 => bn (fX12_done a0 v7 G5) fun v8 G9 => rt v8 G9) fun (K6 : Int → Hp → RT) => if v3 = 0 then (K6 ((-1)) G2) else (bn (fX12_tidied a0 0 a1 G2) fun v10 G11 => K6 v10 G11)
set_option maxRecDepth 20000 in
set_option maxHeartbeats 4000000 in
theorem tX12_tidy (l : Launch) (x : WX) (hi : Inj x.2.2) (G : Hp) (a0 : Nat) (a1 : Int) (ha0 : kd a0 = 12) : Ct l x yX12_tidy cX12_tidy 3 (some .int) 5 129 129 [vR a0, vI a1] G (fX12_tidy a0 a1 G) := by
  refine ct_of (plainFor_of_name (by decide)) hi (Nat.le_refl _) (Nat.le_refl _) (Nat.le_of_ble_eq_true rfl) (fun cx F hd hn0 hnE hl hQ => ?_)
  subst hl
  have F : Fx cx x RX12 cX12_tidy 3 (some .int) := F
  show Y cx x 3 (some .int) 129 0 [(0, vR a0), (1, vI a1)] [] G _
  unfold fX12_tidy
  refine x_aload_n F dX12_tidy_0 rfl rfl rfl ?_
  refine x_iconst F dX12_tidy_1 ⟨by decide, by decide⟩ rfl ?_
  refine s_putI F fpX12_1 ha0 rfl dX12_tidy_2 rfl (fun G1 => ?_)
  refine x_aload_n F dX12_tidy_5 rfl rfl rfl ?_
  refine s_callVv F [] [] lkX12_383 mX12_aside rfl ha0 rfl hnE hn0 hd (tX12_aside cx.l x hi G1 a0 ha0) rfl rfl dX12_tidy_6 rfl rfl (fun _ G2 => ?_)
  refine x_aload_n F dX12_tidy_9 rfl rfl rfl ?_
  refine x_iload_n F dX12_tidy_10 rfl rfl rfl ?_
  refine s_callVP F [vI a1] [] lkX12_386 mX12_isNode rfl ha0 rfl hnE hn0 hd pX12_isNode (tX12_isNode cx.l x hi G2 a0 a1 ha0) rfl rfl dX12_tidy_11 rfl rfl (fun v3 => ?_)
  refine x_jn (fun (K6 : Int → Hp → RT) => ∀ (v4 : Int) (G5 : Hp), Y cx x 3 (some .int) 129 27 [(0, vR a0)] [vI v4] G5 (K6 v4 G5)) ?_ (fun K6 hK6 => ?_)
  · intro v4 G5
    refine x_istore_n F dX12_tidy_27 rfl (by decide) rfl rfl (fun v7 => ?_)
    show Y cx x _ _ _ _ [(0, vR a0), (2, vI v7)] _ _ _
    refine x_aload_n F dX12_tidy_28 rfl rfl rfl ?_
    refine x_iload_n F dX12_tidy_29 rfl rfl rfl ?_
    refine s_callV F [vI v7] [] lkX12_392 mX12_done rfl ha0 rfl hnE hn0 hd (tX12_done cx.l x hi G5 a0 v7 ha0) rfl rfl dX12_tidy_30 rfl rfl (fun v8 G9 => ?_)
    exact x_iret F hnE hQ dX12_tidy_33
  · refine x_ifeq (pt := 26) F dX12_tidy_14 rfl rfl ?_ ?_
    · refine x_iconst F dX12_tidy_26 ⟨by decide, by decide⟩ rfl ?_
      refine x_dp (L' := [(0, vR a0)]) [0] rfl ?_
      exact hK6 ((-1)) G2
    · refine x_aload_n F dX12_tidy_17 rfl rfl rfl ?_
      refine x_iconst F dX12_tidy_18 ⟨by decide, by decide⟩ rfl ?_
      refine x_iload_n F dX12_tidy_19 rfl rfl rfl ?_
      refine s_callV F [vI 0, vI a1] [] lkX12_371 mX12_tidied rfl ha0 rfl hnE hn0 hd (tX12_tidied cx.l x hi G2 a0 0 a1 ha0) rfl rfl dX12_tidy_20 rfl rfl (fun v10 G11 => ?_)
      refine x_goto (pc' := 27) F dX12_tidy_23 rfl ?_
      refine x_dp (L' := [(0, vR a0)]) [0] rfl ?_
      exact hK6 v10 G11
theorem dX12_astray_0 : decode cX12_astray 0 = .ok (.aload_n 0, 1) := by decide +kernel
theorem dX12_astray_1 : decode cX12_astray 1 = .ok (.iconst 0, 1) := by decide +kernel
theorem dX12_astray_2 : decode cX12_astray 2 = .ok (.putfield 1, 3) := by decide +kernel
theorem dX12_astray_5 : decode cX12_astray 5 = .ok (.aload_n 0, 1) := by decide +kernel
theorem dX12_astray_6 : decode cX12_astray 6 = .ok (.iconst 0, 1) := by decide +kernel
theorem dX12_astray_7 : decode cX12_astray 7 = .ok (.invokevirtual 426, 3) := by decide +kernel
theorem dX12_astray_10 : decode cX12_astray 10 = .ok (.ireturn, 1) := by decide +kernel
def fX12_astray (a0 : Nat) (G : Hp) : RT := bh (up G a0 0 0) fun G1 => bp (fX12_astrayBy a0 0 G1) fun v2 => rt v2 G1
set_option maxRecDepth 20000 in
set_option maxHeartbeats 4000000 in
theorem tX12_astray (l : Launch) (x : WX) (hi : Inj x.2.2) (G : Hp) (a0 : Nat) (ha0 : kd a0 = 12) : Ct l x yX12_astray cX12_astray 1 (some .int) 5 129 129 [vR a0] G (fX12_astray a0 G) := by
  refine ct_of (plainFor_of_name (by decide)) hi (Nat.le_refl _) (Nat.le_refl _) (Nat.le_of_ble_eq_true rfl) (fun cx F hd hn0 hnE hl hQ => ?_)
  subst hl
  have F : Fx cx x RX12 cX12_astray 1 (some .int) := F
  show Y cx x 1 (some .int) 129 0 [(0, vR a0)] [] G _
  unfold fX12_astray
  refine x_aload_n F dX12_astray_0 rfl rfl rfl ?_
  refine x_iconst F dX12_astray_1 ⟨by decide, by decide⟩ rfl ?_
  refine s_putI F fpX12_1 ha0 rfl dX12_astray_2 rfl (fun G1 => ?_)
  refine x_aload_n F dX12_astray_5 rfl rfl rfl ?_
  refine x_iconst F dX12_astray_6 ⟨by decide, by decide⟩ rfl ?_
  refine s_callVP F [vI 0] [] lkX12_426 mX12_astrayBy rfl ha0 rfl hnE hn0 hd pX12_astrayBy (tX12_astrayBy cx.l x hi G1 a0 0 ha0) rfl rfl dX12_astray_7 rfl rfl (fun v2 => ?_)
  exact x_iret F hnE hQ dX12_astray_10
theorem dX12_cyclesMany_0 : decode cX12_cyclesMany 0 = .ok (.aload_n 0, 1) := by decide +kernel
theorem dX12_cyclesMany_1 : decode cX12_cyclesMany 1 = .ok (.iload_n 1, 1) := by decide +kernel
theorem dX12_cyclesMany_2 : decode cX12_cyclesMany 2 = .ok (.invokevirtual 435, 3) := by decide +kernel
theorem dX12_cyclesMany_5 : decode cX12_cyclesMany 5 = .ok (.istore_n 2, 1) := by decide +kernel
theorem dX12_cyclesMany_6 : decode cX12_cyclesMany 6 = .ok (.iconst 0, 1) := by decide +kernel
theorem dX12_cyclesMany_7 : decode cX12_cyclesMany 7 = .ok (.istore_n 3, 1) := by decide +kernel
theorem dX12_cyclesMany_8 : decode cX12_cyclesMany 8 = .ok (.iconst 0, 1) := by decide +kernel
theorem dX12_cyclesMany_9 : decode cX12_cyclesMany 9 = .ok (.istore 4, 2) := by decide +kernel
theorem dX12_cyclesMany_11 : decode cX12_cyclesMany 11 = .ok (.iload 4, 2) := by decide +kernel
theorem dX12_cyclesMany_13 : decode cX12_cyclesMany 13 = .ok (.aload_n 0, 1) := by decide +kernel
theorem dX12_cyclesMany_14 : decode cX12_cyclesMany 14 = .ok (.invokevirtual 236, 3) := by decide +kernel
theorem dX12_cyclesMany_17 : decode cX12_cyclesMany 17 = .ok (.if_icmp .ge 37, 3) := by decide +kernel
theorem dX12_cyclesMany_20 : decode cX12_cyclesMany 20 = .ok (.iload_n 3, 1) := by decide +kernel
theorem dX12_cyclesMany_21 : decode cX12_cyclesMany 21 = .ok (.iload_n 2, 1) := by decide +kernel
theorem dX12_cyclesMany_22 : decode cX12_cyclesMany 22 = .ok (.iload 4, 2) := by decide +kernel
theorem dX12_cyclesMany_24 : decode cX12_cyclesMany 24 = .ok (.ishr, 1) := by decide +kernel
theorem dX12_cyclesMany_25 : decode cX12_cyclesMany 25 = .ok (.iconst 1, 1) := by decide +kernel
theorem dX12_cyclesMany_26 : decode cX12_cyclesMany 26 = .ok (.iand, 1) := by decide +kernel
theorem dX12_cyclesMany_27 : decode cX12_cyclesMany 27 = .ok (.iconst 1, 1) := by decide +kernel
theorem dX12_cyclesMany_28 : decode cX12_cyclesMany 28 = .ok (.if_icmp .ne 17, 3) := by decide +kernel
theorem dX12_cyclesMany_31 : decode cX12_cyclesMany 31 = .ok (.aload_n 0, 1) := by decide +kernel
theorem dX12_cyclesMany_32 : decode cX12_cyclesMany 32 = .ok (.iload_n 1, 1) := by decide +kernel
theorem dX12_cyclesMany_33 : decode cX12_cyclesMany 33 = .ok (.iload 4, 2) := by decide +kernel
theorem dX12_cyclesMany_35 : decode cX12_cyclesMany 35 = .ok (.invokevirtual 438, 3) := by decide +kernel
theorem dX12_cyclesMany_38 : decode cX12_cyclesMany 38 = .ok (.ifCond .eq 7, 3) := by decide +kernel
theorem dX12_cyclesMany_41 : decode cX12_cyclesMany 41 = .ok (.iconst 1, 1) := by decide +kernel
theorem dX12_cyclesMany_42 : decode cX12_cyclesMany 42 = .ok (.goto 4, 3) := by decide +kernel
theorem dX12_cyclesMany_45 : decode cX12_cyclesMany 45 = .ok (.iconst 0, 1) := by decide +kernel
theorem dX12_cyclesMany_46 : decode cX12_cyclesMany 46 = .ok (.iadd, 1) := by decide +kernel
theorem dX12_cyclesMany_47 : decode cX12_cyclesMany 47 = .ok (.istore_n 3, 1) := by decide +kernel
theorem dX12_cyclesMany_48 : decode cX12_cyclesMany 48 = .ok (.iinc 4 1, 3) := by decide +kernel
theorem dX12_cyclesMany_51 : decode cX12_cyclesMany 51 = .ok (.goto (-40), 3) := by decide +kernel
theorem dX12_cyclesMany_54 : decode cX12_cyclesMany 54 = .ok (.iload_n 3, 1) := by decide +kernel
theorem dX12_cyclesMany_55 : decode cX12_cyclesMany 55 = .ok (.ireturn, 1) := by decide +kernel
def fX12_cyclesMany (a0 : Nat) (a1 : Int) (G : Hp) : RT := bp (fX12_cycleSet a0 a1 G) fun v1 => bd v1 fun v2 => bd 0 fun v3 => bd 0 fun v4 => (lp (fun (_ : Int) (_ : Int) => (none : RT)) 5000 (fun (rc7 : Int → Int → RT) (v5 : Int) (v6 : Int) => bp (fX12_nodes a0 G) fun v8 => if v6 < v8 then (jn (fun (v9 : Int) => bd (iadd v5 v9) fun v11 => bd (iadd v6 1) fun v12 => rc7 v11 v12) fun (K10 : Int → RT) => jn (K10 0) fun (K13 : RT) => if (iand (ishr v2 v6) 1) = 1 then (bp (fX12_isLeast a0 a1 v6 G) fun v14 => if v14 = 0 then K13 else K10 1) else K13) else rt v5 G)) v3 v4
theorem pX12_cyclesMany {G : Hp} {a0 : Nat} {a1 : Int} : PU G (fX12_cyclesMany a0 a1 G) := by
  unfold fX12_cyclesMany
  refine PU_bp (fun v1 => ?_)
  refine PU_bd (fun v2 => ?_)
  refine PU_bd (fun v3 => ?_)
  refine PU_bd (fun v4 => ?_)
  refine x_lp (fun (rc7 : Int → Int → RT) => ∀ (v5 : Int) (v6 : Int), PU G (rc7 v5 v6)) (fun _ _ => PU_none) (fun rc7 phrc7 v5 v6 => ?_) 5000 v3 v4
  refine PU_bp (fun v8 => ?_)
  refine PU_ite ?_ ?_
  · refine PU_jn (fun (K10 : Int → RT) => ∀ (v9 : Int), PU G (K10 v9)) ?_ (fun K10 phK10 => ?_)
    · intro v9
      refine PU_bd (fun v11 => ?_)
      refine PU_bd (fun v12 => ?_)
      exact phrc7 v11 v12
    · refine PU_jn (fun (K13 : RT) => PU G (K13)) ?_ (fun K13 phK13 => ?_)
      · exact phK10 0
      · refine PU_ite ?_ ?_
        · refine PU_bp (fun v14 => ?_)
          refine PU_ite ?_ ?_
          · exact phK13
          · exact phK10 1
        · exact phK13
  · exact PU_rt
set_option maxRecDepth 20000 in
set_option maxHeartbeats 4000000 in
theorem tX12_cyclesMany (l : Launch) (x : WX) (hi : Inj x.2.2) (G : Hp) (a0 : Nat) (a1 : Int) (ha0 : kd a0 = 12) : Ct l x yX12_cyclesMany cX12_cyclesMany 5 (some .int) 5 129 129 [vR a0, vI a1] G (fX12_cyclesMany a0 a1 G) := by
  refine ct_of (plainFor_of_name (by decide)) hi (Nat.le_refl _) (Nat.le_refl _) (Nat.le_of_ble_eq_true rfl) (fun cx F hd hn0 hnE hl hQ => ?_)
  subst hl
  have F : Fx cx x RX12 cX12_cyclesMany 5 (some .int) := F
  show Y cx x 5 (some .int) 129 0 [(0, vR a0), (1, vI a1)] [] G _
  unfold fX12_cyclesMany
  refine x_aload_n F dX12_cyclesMany_0 rfl rfl rfl ?_
  refine x_iload_n F dX12_cyclesMany_1 rfl rfl rfl ?_
  refine s_callVP F [vI a1] [] lkX12_435 mX12_cycleSet rfl ha0 rfl hnE hn0 hd pX12_cycleSet (tX12_cycleSet cx.l x hi G a0 a1 ha0) rfl rfl dX12_cyclesMany_2 rfl rfl (fun v1 => ?_)
  refine x_istore_n F dX12_cyclesMany_5 rfl (by decide) rfl rfl (fun v2 => ?_)
  show Y cx x _ _ _ _ [(0, vR a0), (1, vI a1), (2, vI v2)] _ _ _
  refine x_iconst F dX12_cyclesMany_6 ⟨by decide, by decide⟩ rfl ?_
  refine x_istore_n F dX12_cyclesMany_7 rfl (by decide) rfl rfl (fun v3 => ?_)
  show Y cx x _ _ _ _ [(0, vR a0), (1, vI a1), (2, vI v2), (3, vI v3)] _ _ _
  refine x_iconst F dX12_cyclesMany_8 ⟨by decide, by decide⟩ rfl ?_
  refine x_istore F dX12_cyclesMany_9 (by decide) rfl rfl (fun v4 => ?_)
  show Y cx x _ _ _ _ [(0, vR a0), (1, vI a1), (2, vI v2), (3, vI v3), (4, vI v4)] _ _ _
  refine x_lp (fun (rc7 : Int → Int → RT) => ∀ (v5 : Int) (v6 : Int), Y cx x 5 (some .int) 129 11 [(0, vR a0), (1, vI a1), (2, vI v2), (3, vI v5), (4, vI v6)] [] G (rc7 v5 v6)) (fun _ _ => Y_none) (fun rc7 hrc7 v5 v6 => ?_) 5000 v3 v4
  refine x_iload F dX12_cyclesMany_11 rfl rfl ?_
  refine x_aload_n F dX12_cyclesMany_13 rfl rfl rfl ?_
  refine s_callVP F [] [vI v6] lkX12_236 mX12_nodes rfl ha0 rfl hnE hn0 hd pX12_nodes (tX12_nodes cx.l x hi G a0 ha0) rfl rfl dX12_cyclesMany_14 rfl rfl (fun v8 => ?_)
  refine x_icmpge (pt := 54) F dX12_cyclesMany_17 rfl rfl ?_ ?_
  · refine x_iload_n F dX12_cyclesMany_20 rfl rfl rfl ?_
    refine x_iload_n F dX12_cyclesMany_21 rfl rfl rfl ?_
    refine x_iload F dX12_cyclesMany_22 rfl rfl ?_
    refine x_ishr F dX12_cyclesMany_24 rfl ?_
    refine x_iconst F dX12_cyclesMany_25 ⟨by decide, by decide⟩ rfl ?_
    refine x_iand F dX12_cyclesMany_26 rfl ?_
    refine x_iconst F dX12_cyclesMany_27 ⟨by decide, by decide⟩ rfl ?_
    refine x_jn (fun (K10 : Int → RT) => ∀ (v9 : Int), Y cx x 5 (some .int) 129 46 [(0, vR a0), (1, vI a1), (2, vI v2), (4, vI v6)] [vI v9, vI v5] G (K10 v9)) ?_ (fun K10 hK10 => ?_)
    · intro v9
      refine x_iadd F dX12_cyclesMany_46 rfl ?_
      refine x_istore_n F dX12_cyclesMany_47 rfl (by decide) rfl rfl (fun v11 => ?_)
      show Y cx x _ _ _ _ [(0, vR a0), (1, vI a1), (2, vI v2), (4, vI v6), (3, vI v11)] _ _ _
      refine x_iinc F dX12_cyclesMany_48 rfl (by decide) rfl rfl (fun v12 => ?_)
      show Y cx x _ _ _ _ [(0, vR a0), (1, vI a1), (2, vI v2), (4, vI v12), (3, vI v11)] _ _ _
      refine x_goto (pc' := 11) F dX12_cyclesMany_51 rfl ?_
      refine x_dp (L' := [(0, vR a0), (1, vI a1), (2, vI v2), (3, vI v11), (4, vI v12)]) [0, 1, 2, 4, 3] rfl ?_
      exact hrc7 v11 v12
    · refine x_jn (fun (K13 : RT) => Y cx x 5 (some .int) 129 45 [(0, vR a0), (1, vI a1), (2, vI v2), (4, vI v6)] [vI v5] G K13) ?_ (fun K13 hK13 => ?_)
      · refine x_iconst F dX12_cyclesMany_45 ⟨by decide, by decide⟩ rfl ?_
        exact hK10 0
      · refine x_icmpne (pt := 45) F dX12_cyclesMany_28 rfl rfl ?_ ?_
        · refine x_aload_n F dX12_cyclesMany_31 rfl rfl rfl ?_
          refine x_iload_n F dX12_cyclesMany_32 rfl rfl rfl ?_
          refine x_iload F dX12_cyclesMany_33 rfl rfl ?_
          refine s_callVP F [vI a1, vI v6] [vI v5] lkX12_438 mX12_isLeast rfl ha0 rfl hnE hn0 hd pX12_isLeast (tX12_isLeast cx.l x hi G a0 a1 v6 ha0) rfl rfl dX12_cyclesMany_35 rfl rfl (fun v14 => ?_)
          refine x_ifeq (pt := 45) F dX12_cyclesMany_38 rfl rfl ?_ ?_
          · refine x_dp (L' := [(0, vR a0), (1, vI a1), (2, vI v2), (4, vI v6)]) [0, 1, 2, 4] rfl ?_
            exact hK13
          · refine x_iconst F dX12_cyclesMany_41 ⟨by decide, by decide⟩ rfl ?_
            refine x_goto (pc' := 46) F dX12_cyclesMany_42 rfl ?_
            refine x_dp (L' := [(0, vR a0), (1, vI a1), (2, vI v2), (4, vI v6)]) [0, 1, 2, 4] rfl ?_
            exact hK10 1
        · refine x_dp (L' := [(0, vR a0), (1, vI a1), (2, vI v2), (4, vI v6)]) [0, 1, 2, 4] rfl ?_
          exact hK13
  · refine x_iload_n F dX12_cyclesMany_54 rfl rfl rfl ?_
    exact x_iret F hnE hQ dX12_cyclesMany_55
theorem dX12_rounds_0 : decode cX12_rounds 0 = .ok (.iconst 0, 1) := by decide +kernel
theorem dX12_rounds_1 : decode cX12_rounds 1 = .ok (.istore_n 2, 1) := by decide +kernel
theorem dX12_rounds_2 : decode cX12_rounds 2 = .ok (.iload_n 2, 1) := by decide +kernel
theorem dX12_rounds_3 : decode cX12_rounds 3 = .ok (.aload_n 0, 1) := by decide +kernel
theorem dX12_rounds_4 : decode cX12_rounds 4 = .ok (.invokevirtual 236, 3) := by decide +kernel
theorem dX12_rounds_7 : decode cX12_rounds 7 = .ok (.if_icmp .ge 27, 3) := by decide +kernel
theorem dX12_rounds_10 : decode cX12_rounds 10 = .ok (.aload_n 0, 1) := by decide +kernel
theorem dX12_rounds_11 : decode cX12_rounds 11 = .ok (.iload_n 1, 1) := by decide +kernel
theorem dX12_rounds_12 : decode cX12_rounds 12 = .ok (.iload_n 2, 1) := by decide +kernel
theorem dX12_rounds_13 : decode cX12_rounds 13 = .ok (.invokevirtual 374, 3) := by decide +kernel
theorem dX12_rounds_16 : decode cX12_rounds 16 = .ok (.istore_n 3, 1) := by decide +kernel
theorem dX12_rounds_17 : decode cX12_rounds 17 = .ok (.iload_n 3, 1) := by decide +kernel
theorem dX12_rounds_18 : decode cX12_rounds 18 = .ok (.ifCond .lt 10, 3) := by decide +kernel
theorem dX12_rounds_21 : decode cX12_rounds 21 = .ok (.aload_n 0, 1) := by decide +kernel
theorem dX12_rounds_22 : decode cX12_rounds 22 = .ok (.iload_n 1, 1) := by decide +kernel
theorem dX12_rounds_23 : decode cX12_rounds 23 = .ok (.iload_n 2, 1) := by decide +kernel
theorem dX12_rounds_24 : decode cX12_rounds 24 = .ok (.invokevirtual 371, 3) := by decide +kernel
theorem dX12_rounds_27 : decode cX12_rounds 27 = .ok (.pop, 1) := by decide +kernel
theorem dX12_rounds_28 : decode cX12_rounds 28 = .ok (.iinc 2 1, 3) := by decide +kernel
theorem dX12_rounds_31 : decode cX12_rounds 31 = .ok (.goto (-29), 3) := by decide +kernel
theorem dX12_rounds_34 : decode cX12_rounds 34 = .ok (.return_, 1) := by decide +kernel
def fX12_rounds (a0 : Nat) (a1 : Int) (G : Hp) : RT := bd 0 fun v1 => (lp (fun (_ : Int) (_ : Hp) => (none : RT)) 5000 (fun (rc4 : Int → Hp → RT) (v2 : Int) (G3 : Hp) => bp (fX12_nodes a0 G3) fun v5 => if v2 < v5 then (bn (fX12_flushed a0 a1 v2 G3) fun v6 G7 => bd v6 fun v8 => jn (fun (G9 : Hp) => bd (iadd v2 1) fun v11 => rc4 v11 G9) fun (K10 : Hp → RT) => if v8 < 0 then K10 G7 else (bn (fX12_tidied a0 a1 v2 G7) fun v12 G13 => K10 G13)) else rt 0 G3)) v1 G
set_option maxRecDepth 20000 in
set_option maxHeartbeats 4000000 in
theorem tX12_rounds (l : Launch) (x : WX) (hi : Inj x.2.2) (G : Hp) (a0 : Nat) (a1 : Int) (ha0 : kd a0 = 12) : Ct l x yX12_rounds cX12_rounds 4 none 5 129 129 [vR a0, vI a1] G (fX12_rounds a0 a1 G) := by
  refine ct_of (plainFor_of_name (by decide)) hi (Nat.le_refl _) (Nat.le_refl _) (Nat.le_of_ble_eq_true rfl) (fun cx F hd hn0 hnE hl hQ => ?_)
  subst hl
  have F : Fx cx x RX12 cX12_rounds 4 none := F
  show Y cx x 4 none 129 0 [(0, vR a0), (1, vI a1)] [] G _
  unfold fX12_rounds
  refine x_iconst F dX12_rounds_0 ⟨by decide, by decide⟩ rfl ?_
  refine x_istore_n F dX12_rounds_1 rfl (by decide) rfl rfl (fun v1 => ?_)
  show Y cx x _ _ _ _ [(0, vR a0), (1, vI a1), (2, vI v1)] _ _ _
  refine x_lp (fun (rc4 : Int → Hp → RT) => ∀ (v2 : Int) (G3 : Hp), Y cx x 4 none 129 2 [(0, vR a0), (1, vI a1), (2, vI v2)] [] G3 (rc4 v2 G3)) (fun _ _ => Y_none) (fun rc4 hrc4 v2 G3 => ?_) 5000 v1 G
  refine x_iload_n F dX12_rounds_2 rfl rfl rfl ?_
  refine x_aload_n F dX12_rounds_3 rfl rfl rfl ?_
  refine s_callVP F [] [vI v2] lkX12_236 mX12_nodes rfl ha0 rfl hnE hn0 hd pX12_nodes (tX12_nodes cx.l x hi G3 a0 ha0) rfl rfl dX12_rounds_4 rfl rfl (fun v5 => ?_)
  refine x_icmpge (pt := 34) F dX12_rounds_7 rfl rfl ?_ ?_
  · refine x_aload_n F dX12_rounds_10 rfl rfl rfl ?_
    refine x_iload_n F dX12_rounds_11 rfl rfl rfl ?_
    refine x_iload_n F dX12_rounds_12 rfl rfl rfl ?_
    refine s_callV F [vI a1, vI v2] [] lkX12_374 mX12_flushed rfl ha0 rfl hnE hn0 hd (tX12_flushed cx.l x hi G3 a0 a1 v2 ha0) rfl rfl dX12_rounds_13 rfl rfl (fun v6 G7 => ?_)
    refine x_istore_n F dX12_rounds_16 rfl (by decide) rfl rfl (fun v8 => ?_)
    show Y cx x _ _ _ _ [(0, vR a0), (1, vI a1), (2, vI v2), (3, vI v8)] _ _ _
    refine x_iload_n F dX12_rounds_17 rfl rfl rfl ?_
    refine x_jn (fun (K10 : Hp → RT) => ∀ (G9 : Hp), Y cx x 4 none 129 28 [(0, vR a0), (1, vI a1), (2, vI v2)] [] G9 (K10 G9)) ?_ (fun K10 hK10 => ?_)
    · intro G9
      refine x_iinc F dX12_rounds_28 rfl (by decide) rfl rfl (fun v11 => ?_)
      show Y cx x _ _ _ _ [(0, vR a0), (1, vI a1), (2, vI v11)] _ _ _
      refine x_goto (pc' := 2) F dX12_rounds_31 rfl ?_
      exact hrc4 v11 G9
    · refine x_iflt (pt := 28) F dX12_rounds_18 rfl rfl ?_ ?_
      · refine x_dp (L' := [(0, vR a0), (1, vI a1), (2, vI v2)]) [0, 1, 2] rfl ?_
        exact hK10 G7
      · refine x_aload_n F dX12_rounds_21 rfl rfl rfl ?_
        refine x_iload_n F dX12_rounds_22 rfl rfl rfl ?_
        refine x_iload_n F dX12_rounds_23 rfl rfl rfl ?_
        refine s_callV F [vI a1, vI v2] [] lkX12_371 mX12_tidied rfl ha0 rfl hnE hn0 hd (tX12_tidied cx.l x hi G7 a0 a1 v2 ha0) rfl rfl dX12_rounds_24 rfl rfl (fun v12 G13 => ?_)
        refine x_pop F dX12_rounds_27 rfl rfl ?_
        refine x_dp (L' := [(0, vR a0), (1, vI a1), (2, vI v2)]) [0, 1, 2] rfl ?_
        exact hK10 G13
  · exact x_vret F hnE hQ dX12_rounds_34
theorem dX12_joined_0 : decode cX12_joined 0 = .ok (.aload_n 0, 1) := by decide +kernel
theorem dX12_joined_1 : decode cX12_joined 1 = .ok (.iload_n 1, 1) := by decide +kernel
theorem dX12_joined_2 : decode cX12_joined 2 = .ok (.iload_n 2, 1) := by decide +kernel
theorem dX12_joined_3 : decode cX12_joined 3 = .ok (.invokevirtual 278, 3) := by decide +kernel
theorem dX12_joined_6 : decode cX12_joined 6 = .ok (.ifCond .ne 26, 3) := by decide +kernel
theorem dX12_joined_9 : decode cX12_joined 9 = .ok (.aload_n 0, 1) := by decide +kernel
theorem dX12_joined_10 : decode cX12_joined 10 = .ok (.iload_n 1, 1) := by decide +kernel
theorem dX12_joined_11 : decode cX12_joined 11 = .ok (.iload_n 3, 1) := by decide +kernel
theorem dX12_joined_12 : decode cX12_joined 12 = .ok (.invokevirtual 278, 3) := by decide +kernel
theorem dX12_joined_15 : decode cX12_joined 15 = .ok (.ifCond .eq 17, 3) := by decide +kernel
theorem dX12_joined_18 : decode cX12_joined 18 = .ok (.aload_n 0, 1) := by decide +kernel
theorem dX12_joined_19 : decode cX12_joined 19 = .ok (.iload_n 1, 1) := by decide +kernel
theorem dX12_joined_20 : decode cX12_joined 20 = .ok (.iload_n 3, 1) := by decide +kernel
theorem dX12_joined_21 : decode cX12_joined 21 = .ok (.aload_n 0, 1) := by decide +kernel
theorem dX12_joined_22 : decode cX12_joined 22 = .ok (.iload_n 2, 1) := by decide +kernel
theorem dX12_joined_23 : decode cX12_joined 23 = .ok (.invokevirtual 282, 3) := by decide +kernel
theorem dX12_joined_26 : decode cX12_joined 26 = .ok (.invokevirtual 325, 3) := by decide +kernel
theorem dX12_joined_29 : decode cX12_joined 29 = .ok (.goto 4, 3) := by decide +kernel
theorem dX12_joined_32 : decode cX12_joined 32 = .ok (.iconst (-1), 1) := by decide +kernel
theorem dX12_joined_33 : decode cX12_joined 33 = .ok (.istore 4, 2) := by decide +kernel
theorem dX12_joined_35 : decode cX12_joined 35 = .ok (.iload 4, 2) := by decide +kernel
theorem dX12_joined_37 : decode cX12_joined 37 = .ok (.ifCond .lt 31, 3) := by decide +kernel
theorem dX12_joined_40 : decode cX12_joined 40 = .ok (.aload_n 0, 1) := by decide +kernel
theorem dX12_joined_41 : decode cX12_joined 41 = .ok (.iload_n 1, 1) := by decide +kernel
theorem dX12_joined_42 : decode cX12_joined 42 = .ok (.iload_n 2, 1) := by decide +kernel
theorem dX12_joined_43 : decode cX12_joined 43 = .ok (.invokevirtual 263, 3) := by decide +kernel
theorem dX12_joined_46 : decode cX12_joined 46 = .ok (.aload_n 0, 1) := by decide +kernel
theorem dX12_joined_47 : decode cX12_joined 47 = .ok (.getfield 105, 3) := by decide +kernel
theorem dX12_joined_50 : decode cX12_joined 50 = .ok (.iload_n 1, 1) := by decide +kernel
theorem dX12_joined_51 : decode cX12_joined 51 = .ok (.bipush 15, 2) := by decide +kernel
theorem dX12_joined_53 : decode cX12_joined 53 = .ok (.iload_n 2, 1) := by decide +kernel
theorem dX12_joined_54 : decode cX12_joined 54 = .ok (.imul, 1) := by decide +kernel
theorem dX12_joined_55 : decode cX12_joined 55 = .ok (.iadd, 1) := by decide +kernel
theorem dX12_joined_56 : decode cX12_joined 56 = .ok (.iconst 0, 1) := by decide +kernel
theorem dX12_joined_57 : decode cX12_joined 57 = .ok (.iadd, 1) := by decide +kernel
theorem dX12_joined_58 : decode cX12_joined 58 = .ok (.iconst 1, 1) := by decide +kernel
theorem dX12_joined_59 : decode cX12_joined 59 = .ok (.iastore, 1) := by decide +kernel
theorem dX12_joined_60 : decode cX12_joined 60 = .ok (.aload_n 0, 1) := by decide +kernel
theorem dX12_joined_61 : decode cX12_joined 61 = .ok (.iload_n 1, 1) := by decide +kernel
theorem dX12_joined_62 : decode cX12_joined 62 = .ok (.iload_n 2, 1) := by decide +kernel
theorem dX12_joined_63 : decode cX12_joined 63 = .ok (.iload 4, 2) := by decide +kernel
theorem dX12_joined_65 : decode cX12_joined 65 = .ok (.invokevirtual 328, 3) := by decide +kernel
theorem dX12_joined_68 : decode cX12_joined 68 = .ok (.iload 4, 2) := by decide +kernel
theorem dX12_joined_70 : decode cX12_joined 70 = .ok (.ireturn, 1) := by decide +kernel
def fX12_joined (a0 : Nat) (a1 : Int) (a2 : Int) (a3 : Int) (G : Hp) : RT := bp (fX12_isIn a0 a1 a2 G) fun v1 => jn (fun (v2 : Int) (G3 : Hp) => bd v2 fun v5 => if v5 < 0 then rt v5 G3 else (bn (fX12_goesOut a0 a1 a2 G3) fun _ G6 => bs (wr G6 ((rf a0 17)) 3565 (iadd (iadd a1 (imul 15 a2)) 0) 1) fun G7 => bn (fX12_lists a0 a1 a2 v5 G7) fun _ G8 => rt v5 G8)) fun (K4 : Int → Hp → RT) => jn (K4 ((-1)) G) fun (K11 : RT) => if v1 = 0 then (bp (fX12_isIn a0 a1 a3 G) fun v12 => if v12 = 0 then K11 else (bp (fX12_placeOf a0 a2 G) fun v13 => bn (fX12_finds a0 a1 a3 v13 G) fun v14 G15 => K4 v14 G15)) else K11
set_option maxRecDepth 20000 in
set_option maxHeartbeats 4000000 in
theorem tX12_joined (l : Launch) (x : WX) (hi : Inj x.2.2) (G : Hp) (a0 : Nat) (a1 : Int) (a2 : Int) (a3 : Int) (ha0 : kd a0 = 12) : Ct l x yX12_joined cX12_joined 5 (some .int) 6 129 129 [vR a0, vI a1, vI a2, vI a3] G (fX12_joined a0 a1 a2 a3 G) := by
  refine ct_of (plainFor_of_name (by decide)) hi (Nat.le_refl _) (Nat.le_refl _) (Nat.le_of_ble_eq_true rfl) (fun cx F hd hn0 hnE hl hQ => ?_)
  subst hl
  have F : Fx cx x RX12 cX12_joined 5 (some .int) := F
  show Y cx x 5 (some .int) 129 0 [(0, vR a0), (1, vI a1), (2, vI a2), (3, vI a3)] [] G _
  unfold fX12_joined
  refine x_aload_n F dX12_joined_0 rfl rfl rfl ?_
  refine x_iload_n F dX12_joined_1 rfl rfl rfl ?_
  refine x_iload_n F dX12_joined_2 rfl rfl rfl ?_
  refine s_callVP F [vI a1, vI a2] [] lkX12_278 mX12_isIn rfl ha0 rfl hnE hn0 hd pX12_isIn (tX12_isIn cx.l x hi G a0 a1 a2 ha0) rfl rfl dX12_joined_3 rfl rfl (fun v1 => ?_)
  refine x_jn (fun (K4 : Int → Hp → RT) => ∀ (v2 : Int) (G3 : Hp), Y cx x 5 (some .int) 129 33 [(0, vR a0), (1, vI a1), (2, vI a2)] [vI v2] G3 (K4 v2 G3)) ?_ (fun K4 hK4 => ?_)
  · intro v2 G3
    refine x_istore F dX12_joined_33 (by decide) rfl rfl (fun v5 => ?_)
    show Y cx x _ _ _ _ [(0, vR a0), (1, vI a1), (2, vI a2), (4, vI v5)] _ _ _
    refine x_iload F dX12_joined_35 rfl rfl ?_
    refine x_iflt (pt := 68) F dX12_joined_37 rfl rfl ?_ ?_
    · refine x_iload F dX12_joined_68 rfl rfl ?_
      exact x_iret F hnE hQ dX12_joined_70
    · refine x_aload_n F dX12_joined_40 rfl rfl rfl ?_
      refine x_iload_n F dX12_joined_41 rfl rfl rfl ?_
      refine x_iload_n F dX12_joined_42 rfl rfl rfl ?_
      refine s_callVv F [vI a1, vI a2] [] lkX12_263 mX12_goesOut rfl ha0 rfl hnE hn0 hd (tX12_goesOut cx.l x hi G3 a0 a1 a2 ha0) rfl rfl dX12_joined_43 rfl rfl (fun _ G6 => ?_)
      refine x_aload_n F dX12_joined_46 rfl rfl rfl ?_
      refine x_getR F flX12_105 ha0 rfl dX12_joined_47 rfl ?_
      refine x_iload_n F dX12_joined_50 rfl rfl rfl ?_
      refine x_bipush F dX12_joined_51 ⟨by decide, by decide⟩ (by decide) rfl ?_
      refine x_iload_n F dX12_joined_53 rfl rfl rfl ?_
      refine x_imul F dX12_joined_54 rfl ?_
      refine x_iadd F dX12_joined_55 rfl ?_
      refine x_iconst F dX12_joined_56 ⟨by decide, by decide⟩ rfl ?_
      refine x_iadd F dX12_joined_57 rfl ?_
      refine x_iconst F dX12_joined_58 ⟨by decide, by decide⟩ rfl ?_
      refine s_iast F (tf12_17 ha0).1 (tf12_17 ha0).2 dX12_joined_59 rfl (fun G7 => ?_)
      refine x_aload_n F dX12_joined_60 rfl rfl rfl ?_
      refine x_iload_n F dX12_joined_61 rfl rfl rfl ?_
      refine x_iload_n F dX12_joined_62 rfl rfl rfl ?_
      refine x_iload F dX12_joined_63 rfl rfl ?_
      refine s_callVv F [vI a1, vI a2, vI v5] [] lkX12_328 mX12_lists rfl ha0 rfl hnE hn0 hd (tX12_lists cx.l x hi G7 a0 a1 a2 v5 ha0) rfl rfl dX12_joined_65 rfl rfl (fun _ G8 => ?_)
      refine x_iload F dX12_joined_68 rfl rfl ?_
      exact x_iret F hnE hQ dX12_joined_70
  · refine x_jn (fun (K11 : RT) => Y cx x 5 (some .int) 129 32 [(0, vR a0), (1, vI a1), (2, vI a2)] [] G K11) ?_ (fun K11 hK11 => ?_)
    · refine x_iconst F dX12_joined_32 ⟨by decide, by decide⟩ rfl ?_
      exact hK4 ((-1)) G
    · refine x_ifne (pt := 32) F dX12_joined_6 rfl rfl ?_ ?_
      · refine x_aload_n F dX12_joined_9 rfl rfl rfl ?_
        refine x_iload_n F dX12_joined_10 rfl rfl rfl ?_
        refine x_iload_n F dX12_joined_11 rfl rfl rfl ?_
        refine s_callVP F [vI a1, vI a3] [] lkX12_278 mX12_isIn rfl ha0 rfl hnE hn0 hd pX12_isIn (tX12_isIn cx.l x hi G a0 a1 a3 ha0) rfl rfl dX12_joined_12 rfl rfl (fun v12 => ?_)
        refine x_ifeq (pt := 32) F dX12_joined_15 rfl rfl ?_ ?_
        · refine x_dp (L' := [(0, vR a0), (1, vI a1), (2, vI a2)]) [0, 1, 2] rfl ?_
          exact hK11
        · refine x_aload_n F dX12_joined_18 rfl rfl rfl ?_
          refine x_iload_n F dX12_joined_19 rfl rfl rfl ?_
          refine x_iload_n F dX12_joined_20 rfl rfl rfl ?_
          refine x_aload_n F dX12_joined_21 rfl rfl rfl ?_
          refine x_iload_n F dX12_joined_22 rfl rfl rfl ?_
          refine s_callVP F [vI a2] [vI a3, vI a1, vR a0] lkX12_282 mX12_placeOf rfl ha0 rfl hnE hn0 hd pX12_placeOf (tX12_placeOf cx.l x hi G a0 a2 ha0) rfl rfl dX12_joined_23 rfl rfl (fun v13 => ?_)
          refine s_callV F [vI a1, vI a3, vI v13] [] lkX12_325 mX12_finds rfl ha0 rfl hnE hn0 hd (tX12_finds cx.l x hi G a0 a1 a3 v13 ha0) rfl rfl dX12_joined_26 rfl rfl (fun v14 G15 => ?_)
          refine x_goto (pc' := 33) F dX12_joined_29 rfl ?_
          refine x_dp (L' := [(0, vR a0), (1, vI a1), (2, vI a2)]) [0, 1, 2] rfl ?_
          exact hK4 v14 G15
      · refine x_dp (L' := [(0, vR a0), (1, vI a1), (2, vI a2)]) [0, 1, 2] rfl ?_
        exact hK11
theorem dX12_fixed_0 : decode cX12_fixed 0 = .ok (.aload_n 0, 1) := by decide +kernel
theorem dX12_fixed_1 : decode cX12_fixed 1 = .ok (.iload_n 1, 1) := by decide +kernel
theorem dX12_fixed_2 : decode cX12_fixed 2 = .ok (.iload_n 2, 1) := by decide +kernel
theorem dX12_fixed_3 : decode cX12_fixed 3 = .ok (.invokevirtual 278, 3) := by decide +kernel
theorem dX12_fixed_6 : decode cX12_fixed 6 = .ok (.ifCond .eq 20, 3) := by decide +kernel
theorem dX12_fixed_9 : decode cX12_fixed 9 = .ok (.aload_n 0, 1) := by decide +kernel
theorem dX12_fixed_10 : decode cX12_fixed 10 = .ok (.iload_n 2, 1) := by decide +kernel
theorem dX12_fixed_11 : decode cX12_fixed 11 = .ok (.invokevirtual 319, 3) := by decide +kernel
theorem dX12_fixed_14 : decode cX12_fixed 14 = .ok (.iconst 3, 1) := by decide +kernel
theorem dX12_fixed_15 : decode cX12_fixed 15 = .ok (.if_icmp .eq 11, 3) := by decide +kernel
theorem dX12_fixed_18 : decode cX12_fixed 18 = .ok (.aload_n 0, 1) := by decide +kernel
theorem dX12_fixed_19 : decode cX12_fixed 19 = .ok (.iload_n 3, 1) := by decide +kernel
theorem dX12_fixed_20 : decode cX12_fixed 20 = .ok (.invokevirtual 349, 3) := by decide +kernel
theorem dX12_fixed_23 : decode cX12_fixed 23 = .ok (.ifCond .ne 5, 3) := by decide +kernel
theorem dX12_fixed_26 : decode cX12_fixed 26 = .ok (.iconst 0, 1) := by decide +kernel
theorem dX12_fixed_27 : decode cX12_fixed 27 = .ok (.ireturn, 1) := by decide +kernel
theorem dX12_fixed_28 : decode cX12_fixed 28 = .ok (.aload_n 0, 1) := by decide +kernel
theorem dX12_fixed_29 : decode cX12_fixed 29 = .ok (.iload_n 1, 1) := by decide +kernel
theorem dX12_fixed_30 : decode cX12_fixed 30 = .ok (.iload_n 2, 1) := by decide +kernel
theorem dX12_fixed_31 : decode cX12_fixed 31 = .ok (.aload_n 0, 1) := by decide +kernel
theorem dX12_fixed_32 : decode cX12_fixed 32 = .ok (.iload_n 2, 1) := by decide +kernel
theorem dX12_fixed_33 : decode cX12_fixed 33 = .ok (.iload_n 3, 1) := by decide +kernel
theorem dX12_fixed_34 : decode cX12_fixed 34 = .ok (.invokevirtual 352, 3) := by decide +kernel
theorem dX12_fixed_37 : decode cX12_fixed 37 = .ok (.invokevirtual 325, 3) := by decide +kernel
theorem dX12_fixed_40 : decode cX12_fixed 40 = .ok (.istore 4, 2) := by decide +kernel
theorem dX12_fixed_42 : decode cX12_fixed 42 = .ok (.aload_n 0, 1) := by decide +kernel
theorem dX12_fixed_43 : decode cX12_fixed 43 = .ok (.getfield 105, 3) := by decide +kernel
theorem dX12_fixed_46 : decode cX12_fixed 46 = .ok (.iload_n 1, 1) := by decide +kernel
theorem dX12_fixed_47 : decode cX12_fixed 47 = .ok (.bipush 15, 2) := by decide +kernel
theorem dX12_fixed_49 : decode cX12_fixed 49 = .ok (.iload_n 2, 1) := by decide +kernel
theorem dX12_fixed_50 : decode cX12_fixed 50 = .ok (.imul, 1) := by decide +kernel
theorem dX12_fixed_51 : decode cX12_fixed 51 = .ok (.iadd, 1) := by decide +kernel
theorem dX12_fixed_52 : decode cX12_fixed 52 = .ok (.bipush 7, 2) := by decide +kernel
theorem dX12_fixed_54 : decode cX12_fixed 54 = .ok (.iadd, 1) := by decide +kernel
theorem dX12_fixed_55 : decode cX12_fixed 55 = .ok (.iload_n 3, 1) := by decide +kernel
theorem dX12_fixed_56 : decode cX12_fixed 56 = .ok (.iadd, 1) := by decide +kernel
theorem dX12_fixed_57 : decode cX12_fixed 57 = .ok (.iload 4, 2) := by decide +kernel
theorem dX12_fixed_59 : decode cX12_fixed 59 = .ok (.iastore, 1) := by decide +kernel
theorem dX12_fixed_60 : decode cX12_fixed 60 = .ok (.iconst 1, 1) := by decide +kernel
theorem dX12_fixed_61 : decode cX12_fixed 61 = .ok (.ireturn, 1) := by decide +kernel
def fX12_fixed (a0 : Nat) (a1 : Int) (a2 : Int) (a3 : Int) (G : Hp) : RT := bp (fX12_isIn a0 a1 a2 G) fun v1 => if v1 = 0 then rz 0 G else (bp (fX12_kindOf a0 a2 G) fun v2 => if v2 = 3 then rz 0 G else (bp (fX12_hasFinger a0 a3 G) fun v3 => if v3 = 0 then rz 0 G else (bp (fX12_fingerPlace a0 a2 a3 G) fun v4 => bn (fX12_finds a0 a1 a2 v4 G) fun v5 G6 => bd v5 fun v7 => bs (wr G6 ((rf a0 17)) 3565 (iadd (iadd (iadd a1 (imul 15 a2)) 7) a3) v7) fun G8 => rz 1 G8)))
set_option maxRecDepth 20000 in
set_option maxHeartbeats 4000000 in
theorem tX12_fixed (l : Launch) (x : WX) (hi : Inj x.2.2) (G : Hp) (a0 : Nat) (a1 : Int) (a2 : Int) (a3 : Int) (ha0 : kd a0 = 12) : Ct l x yX12_fixed cX12_fixed 5 (some .boolean) 6 129 129 [vR a0, vI a1, vI a2, vI a3] G (fX12_fixed a0 a1 a2 a3 G) := by
  refine ct_of (plainFor_of_name (by decide)) hi (Nat.le_refl _) (Nat.le_refl _) (Nat.le_of_ble_eq_true rfl) (fun cx F hd hn0 hnE hl hQ => ?_)
  subst hl
  have F : Fx cx x RX12 cX12_fixed 5 (some .boolean) := F
  show Y cx x 5 (some .boolean) 129 0 [(0, vR a0), (1, vI a1), (2, vI a2), (3, vI a3)] [] G _
  unfold fX12_fixed
  refine x_aload_n F dX12_fixed_0 rfl rfl rfl ?_
  refine x_iload_n F dX12_fixed_1 rfl rfl rfl ?_
  refine x_iload_n F dX12_fixed_2 rfl rfl rfl ?_
  refine s_callVP F [vI a1, vI a2] [] lkX12_278 mX12_isIn rfl ha0 rfl hnE hn0 hd pX12_isIn (tX12_isIn cx.l x hi G a0 a1 a2 ha0) rfl rfl dX12_fixed_3 rfl rfl (fun v1 => ?_)
  refine x_ifeq (pt := 26) F dX12_fixed_6 rfl rfl ?_ ?_
  · refine x_iconst F dX12_fixed_26 ⟨by decide, by decide⟩ rfl ?_
    exact x_zret F hnE hQ dX12_fixed_27
  · refine x_aload_n F dX12_fixed_9 rfl rfl rfl ?_
    refine x_iload_n F dX12_fixed_10 rfl rfl rfl ?_
    refine s_callVP F [vI a2] [] lkX12_319 mX12_kindOf rfl ha0 rfl hnE hn0 hd pX12_kindOf (tX12_kindOf cx.l x hi G a0 a2 ha0) rfl rfl dX12_fixed_11 rfl rfl (fun v2 => ?_)
    refine x_iconst F dX12_fixed_14 ⟨by decide, by decide⟩ rfl ?_
    refine x_icmpeq (pt := 26) F dX12_fixed_15 rfl rfl ?_ ?_
    · refine x_iconst F dX12_fixed_26 ⟨by decide, by decide⟩ rfl ?_
      exact x_zret F hnE hQ dX12_fixed_27
    · refine x_aload_n F dX12_fixed_18 rfl rfl rfl ?_
      refine x_iload_n F dX12_fixed_19 rfl rfl rfl ?_
      refine s_callVP F [vI a3] [] lkX12_349 mX12_hasFinger rfl ha0 rfl hnE hn0 hd pX12_hasFinger (tX12_hasFinger cx.l x hi G a0 a3 ha0) rfl rfl dX12_fixed_20 rfl rfl (fun v3 => ?_)
      refine x_ifne (pt := 28) F dX12_fixed_23 rfl rfl ?_ ?_
      · refine x_iconst F dX12_fixed_26 ⟨by decide, by decide⟩ rfl ?_
        exact x_zret F hnE hQ dX12_fixed_27
      · refine x_aload_n F dX12_fixed_28 rfl rfl rfl ?_
        refine x_iload_n F dX12_fixed_29 rfl rfl rfl ?_
        refine x_iload_n F dX12_fixed_30 rfl rfl rfl ?_
        refine x_aload_n F dX12_fixed_31 rfl rfl rfl ?_
        refine x_iload_n F dX12_fixed_32 rfl rfl rfl ?_
        refine x_iload_n F dX12_fixed_33 rfl rfl rfl ?_
        refine s_callVP F [vI a2, vI a3] [vI a2, vI a1, vR a0] lkX12_352 mX12_fingerPlace rfl ha0 rfl hnE hn0 hd pX12_fingerPlace (tX12_fingerPlace cx.l x hi G a0 a2 a3 ha0) rfl rfl dX12_fixed_34 rfl rfl (fun v4 => ?_)
        refine s_callV F [vI a1, vI a2, vI v4] [] lkX12_325 mX12_finds rfl ha0 rfl hnE hn0 hd (tX12_finds cx.l x hi G a0 a1 a2 v4 ha0) rfl rfl dX12_fixed_37 rfl rfl (fun v5 G6 => ?_)
        refine x_istore F dX12_fixed_40 (by decide) rfl rfl (fun v7 => ?_)
        show Y cx x _ _ _ _ [(0, vR a0), (1, vI a1), (2, vI a2), (3, vI a3), (4, vI v7)] _ _ _
        refine x_aload_n F dX12_fixed_42 rfl rfl rfl ?_
        refine x_getR F flX12_105 ha0 rfl dX12_fixed_43 rfl ?_
        refine x_iload_n F dX12_fixed_46 rfl rfl rfl ?_
        refine x_bipush F dX12_fixed_47 ⟨by decide, by decide⟩ (by decide) rfl ?_
        refine x_iload_n F dX12_fixed_49 rfl rfl rfl ?_
        refine x_imul F dX12_fixed_50 rfl ?_
        refine x_iadd F dX12_fixed_51 rfl ?_
        refine x_bipush F dX12_fixed_52 ⟨by decide, by decide⟩ (by decide) rfl ?_
        refine x_iadd F dX12_fixed_54 rfl ?_
        refine x_iload_n F dX12_fixed_55 rfl rfl rfl ?_
        refine x_iadd F dX12_fixed_56 rfl ?_
        refine x_iload F dX12_fixed_57 rfl rfl ?_
        refine s_iast F (tf12_17 ha0).1 (tf12_17 ha0).2 dX12_fixed_59 rfl (fun G8 => ?_)
        refine x_iconst F dX12_fixed_60 ⟨by decide, by decide⟩ rfl ?_
        exact x_zret F hnE hQ dX12_fixed_61
theorem dX12_putBy_0 : decode cX12_putBy 0 = .ok (.aload_n 0, 1) := by decide +kernel
theorem dX12_putBy_1 : decode cX12_putBy 1 = .ok (.iload_n 1, 1) := by decide +kernel
theorem dX12_putBy_2 : decode cX12_putBy 2 = .ok (.iload_n 3, 1) := by decide +kernel
theorem dX12_putBy_3 : decode cX12_putBy 3 = .ok (.invokevirtual 278, 3) := by decide +kernel
theorem dX12_putBy_6 : decode cX12_putBy 6 = .ok (.ifCond .eq 18, 3) := by decide +kernel
theorem dX12_putBy_9 : decode cX12_putBy 9 = .ok (.aload_n 0, 1) := by decide +kernel
theorem dX12_putBy_10 : decode cX12_putBy 10 = .ok (.iload_n 1, 1) := by decide +kernel
theorem dX12_putBy_11 : decode cX12_putBy 11 = .ok (.iload_n 3, 1) := by decide +kernel
theorem dX12_putBy_12 : decode cX12_putBy 12 = .ok (.aload_n 0, 1) := by decide +kernel
theorem dX12_putBy_13 : decode cX12_putBy 13 = .ok (.getfield 112, 3) := by decide +kernel
theorem dX12_putBy_16 : decode cX12_putBy 16 = .ok (.iload_n 2, 1) := by decide +kernel
theorem dX12_putBy_17 : decode cX12_putBy 17 = .ok (.iaload, 1) := by decide +kernel
theorem dX12_putBy_18 : decode cX12_putBy 18 = .ok (.invokevirtual 325, 3) := by decide +kernel
theorem dX12_putBy_21 : decode cX12_putBy 21 = .ok (.goto 4, 3) := by decide +kernel
theorem dX12_putBy_24 : decode cX12_putBy 24 = .ok (.iconst (-1), 1) := by decide +kernel
theorem dX12_putBy_25 : decode cX12_putBy 25 = .ok (.istore 4, 2) := by decide +kernel
theorem dX12_putBy_27 : decode cX12_putBy 27 = .ok (.iload 4, 2) := by decide +kernel
theorem dX12_putBy_29 : decode cX12_putBy 29 = .ok (.ifCond .lt 16, 3) := by decide +kernel
theorem dX12_putBy_32 : decode cX12_putBy 32 = .ok (.aload_n 0, 1) := by decide +kernel
theorem dX12_putBy_33 : decode cX12_putBy 33 = .ok (.getfield 105, 3) := by decide +kernel
theorem dX12_putBy_36 : decode cX12_putBy 36 = .ok (.iload_n 1, 1) := by decide +kernel
theorem dX12_putBy_37 : decode cX12_putBy 37 = .ok (.bipush 120, 2) := by decide +kernel
theorem dX12_putBy_39 : decode cX12_putBy 39 = .ok (.iadd, 1) := by decide +kernel
theorem dX12_putBy_40 : decode cX12_putBy 40 = .ok (.iload_n 2, 1) := by decide +kernel
theorem dX12_putBy_41 : decode cX12_putBy 41 = .ok (.iadd, 1) := by decide +kernel
theorem dX12_putBy_42 : decode cX12_putBy 42 = .ok (.iload 4, 2) := by decide +kernel
theorem dX12_putBy_44 : decode cX12_putBy 44 = .ok (.iastore, 1) := by decide +kernel
theorem dX12_putBy_45 : decode cX12_putBy 45 = .ok (.iload 4, 2) := by decide +kernel
theorem dX12_putBy_47 : decode cX12_putBy 47 = .ok (.ireturn, 1) := by decide +kernel
def fX12_putBy (a0 : Nat) (a1 : Int) (a2 : Int) (a3 : Int) (G : Hp) : RT := bp (fX12_isIn a0 a1 a3 G) fun v1 => jn (fun (v2 : Int) (G3 : Hp) => bd v2 fun v5 => if v5 < 0 then rt v5 G3 else (bs (wr G3 ((rf a0 17)) 3565 (iadd (iadd a1 120) a2) v5) fun G6 => rt v5 G6)) fun (K4 : Int → Hp → RT) => if v1 = 0 then (K4 ((-1)) G) else (br (rd G ((rf a0 20)) 10 a2) fun v7 => bn (fX12_finds a0 a1 a3 v7 G) fun v8 G9 => K4 v8 G9)
set_option maxRecDepth 20000 in
set_option maxHeartbeats 4000000 in
theorem tX12_putBy (l : Launch) (x : WX) (hi : Inj x.2.2) (G : Hp) (a0 : Nat) (a1 : Int) (a2 : Int) (a3 : Int) (ha0 : kd a0 = 12) : Ct l x yX12_putBy cX12_putBy 5 (some .int) 6 129 129 [vR a0, vI a1, vI a2, vI a3] G (fX12_putBy a0 a1 a2 a3 G) := by
  refine ct_of (plainFor_of_name (by decide)) hi (Nat.le_refl _) (Nat.le_refl _) (Nat.le_of_ble_eq_true rfl) (fun cx F hd hn0 hnE hl hQ => ?_)
  subst hl
  have F : Fx cx x RX12 cX12_putBy 5 (some .int) := F
  show Y cx x 5 (some .int) 129 0 [(0, vR a0), (1, vI a1), (2, vI a2), (3, vI a3)] [] G _
  unfold fX12_putBy
  refine x_aload_n F dX12_putBy_0 rfl rfl rfl ?_
  refine x_iload_n F dX12_putBy_1 rfl rfl rfl ?_
  refine x_iload_n F dX12_putBy_2 rfl rfl rfl ?_
  refine s_callVP F [vI a1, vI a3] [] lkX12_278 mX12_isIn rfl ha0 rfl hnE hn0 hd pX12_isIn (tX12_isIn cx.l x hi G a0 a1 a3 ha0) rfl rfl dX12_putBy_3 rfl rfl (fun v1 => ?_)
  refine x_jn (fun (K4 : Int → Hp → RT) => ∀ (v2 : Int) (G3 : Hp), Y cx x 5 (some .int) 129 25 [(0, vR a0), (1, vI a1), (2, vI a2)] [vI v2] G3 (K4 v2 G3)) ?_ (fun K4 hK4 => ?_)
  · intro v2 G3
    refine x_istore F dX12_putBy_25 (by decide) rfl rfl (fun v5 => ?_)
    show Y cx x _ _ _ _ [(0, vR a0), (1, vI a1), (2, vI a2), (4, vI v5)] _ _ _
    refine x_iload F dX12_putBy_27 rfl rfl ?_
    refine x_iflt (pt := 45) F dX12_putBy_29 rfl rfl ?_ ?_
    · refine x_iload F dX12_putBy_45 rfl rfl ?_
      exact x_iret F hnE hQ dX12_putBy_47
    · refine x_aload_n F dX12_putBy_32 rfl rfl rfl ?_
      refine x_getR F flX12_105 ha0 rfl dX12_putBy_33 rfl ?_
      refine x_iload_n F dX12_putBy_36 rfl rfl rfl ?_
      refine x_bipush F dX12_putBy_37 ⟨by decide, by decide⟩ (by decide) rfl ?_
      refine x_iadd F dX12_putBy_39 rfl ?_
      refine x_iload_n F dX12_putBy_40 rfl rfl rfl ?_
      refine x_iadd F dX12_putBy_41 rfl ?_
      refine x_iload F dX12_putBy_42 rfl rfl ?_
      refine s_iast F (tf12_17 ha0).1 (tf12_17 ha0).2 dX12_putBy_44 rfl (fun G6 => ?_)
      refine x_iload F dX12_putBy_45 rfl rfl ?_
      exact x_iret F hnE hQ dX12_putBy_47
  · refine x_ifeq (pt := 24) F dX12_putBy_6 rfl rfl ?_ ?_
    · refine x_iconst F dX12_putBy_24 ⟨by decide, by decide⟩ rfl ?_
      refine x_dp (L' := [(0, vR a0), (1, vI a1), (2, vI a2)]) [0, 1, 2] rfl ?_
      exact hK4 ((-1)) G
    · refine x_aload_n F dX12_putBy_9 rfl rfl rfl ?_
      refine x_iload_n F dX12_putBy_10 rfl rfl rfl ?_
      refine x_iload_n F dX12_putBy_11 rfl rfl rfl ?_
      refine x_aload_n F dX12_putBy_12 rfl rfl rfl ?_
      refine x_getR F flX12_112 ha0 rfl dX12_putBy_13 rfl ?_
      refine x_iload_n F dX12_putBy_16 rfl rfl rfl ?_
      refine s_iald F (tf12_20 ha0).1 (tf12_20 ha0).2 dX12_putBy_17 rfl (fun v7 => ?_)
      refine s_callV F [vI a1, vI a3, vI v7] [] lkX12_325 mX12_finds rfl ha0 rfl hnE hn0 hd (tX12_finds cx.l x hi G a0 a1 a3 v7 ha0) rfl rfl dX12_putBy_18 rfl rfl (fun v8 G9 => ?_)
      refine x_goto (pc' := 25) F dX12_putBy_21 rfl ?_
      refine x_dp (L' := [(0, vR a0), (1, vI a1), (2, vI a2)]) [0, 1, 2] rfl ?_
      exact hK4 v8 G9
theorem dX12_handed_0 : decode cX12_handed 0 = .ok (.aload_n 0, 1) := by decide +kernel
theorem dX12_handed_1 : decode cX12_handed 1 = .ok (.iload_n 1, 1) := by decide +kernel
theorem dX12_handed_2 : decode cX12_handed 2 = .ok (.iload_n 2, 1) := by decide +kernel
theorem dX12_handed_3 : decode cX12_handed 3 = .ok (.invokevirtual 278, 3) := by decide +kernel
theorem dX12_handed_6 : decode cX12_handed 6 = .ok (.ifCond .ne 5, 3) := by decide +kernel
theorem dX12_handed_9 : decode cX12_handed 9 = .ok (.iconst (-1), 1) := by decide +kernel
theorem dX12_handed_10 : decode cX12_handed 10 = .ok (.ireturn, 1) := by decide +kernel
theorem dX12_handed_11 : decode cX12_handed 11 = .ok (.aload_n 0, 1) := by decide +kernel
theorem dX12_handed_12 : decode cX12_handed 12 = .ok (.iload_n 1, 1) := by decide +kernel
theorem dX12_handed_13 : decode cX12_handed 13 = .ok (.iload_n 2, 1) := by decide +kernel
theorem dX12_handed_14 : decode cX12_handed 14 = .ok (.invokevirtual 337, 3) := by decide +kernel
theorem dX12_handed_17 : decode cX12_handed 17 = .ok (.istore_n 3, 1) := by decide +kernel
theorem dX12_handed_18 : decode cX12_handed 18 = .ok (.iconst 0, 1) := by decide +kernel
theorem dX12_handed_19 : decode cX12_handed 19 = .ok (.istore 4, 2) := by decide +kernel
theorem dX12_handed_21 : decode cX12_handed 21 = .ok (.iconst 0, 1) := by decide +kernel
theorem dX12_handed_22 : decode cX12_handed 22 = .ok (.istore 5, 2) := by decide +kernel
theorem dX12_handed_24 : decode cX12_handed 24 = .ok (.iload 5, 2) := by decide +kernel
theorem dX12_handed_26 : decode cX12_handed 26 = .ok (.aload_n 0, 1) := by decide +kernel
theorem dX12_handed_27 : decode cX12_handed 27 = .ok (.invokevirtual 229, 3) := by decide +kernel
theorem dX12_handed_30 : decode cX12_handed 30 = .ok (.if_icmp .ge 73, 3) := by decide +kernel
theorem dX12_handed_33 : decode cX12_handed 33 = .ok (.iload_n 3, 1) := by decide +kernel
theorem dX12_handed_34 : decode cX12_handed 34 = .ok (.iload 5, 2) := by decide +kernel
theorem dX12_handed_36 : decode cX12_handed 36 = .ok (.ishr, 1) := by decide +kernel
theorem dX12_handed_37 : decode cX12_handed 37 = .ok (.iconst 1, 1) := by decide +kernel
theorem dX12_handed_38 : decode cX12_handed 38 = .ok (.iand, 1) := by decide +kernel
theorem dX12_handed_39 : decode cX12_handed 39 = .ok (.iconst 1, 1) := by decide +kernel
theorem dX12_handed_40 : decode cX12_handed 40 = .ok (.if_icmp .ne 19, 3) := by decide +kernel
theorem dX12_handed_43 : decode cX12_handed 43 = .ok (.aload_n 0, 1) := by decide +kernel
theorem dX12_handed_44 : decode cX12_handed 44 = .ok (.iload_n 1, 1) := by decide +kernel
theorem dX12_handed_45 : decode cX12_handed 45 = .ok (.iload_n 2, 1) := by decide +kernel
theorem dX12_handed_46 : decode cX12_handed 46 = .ok (.aload_n 0, 1) := by decide +kernel
theorem dX12_handed_47 : decode cX12_handed 47 = .ok (.getfield 112, 3) := by decide +kernel
theorem dX12_handed_50 : decode cX12_handed 50 = .ok (.iload 5, 2) := by decide +kernel
theorem dX12_handed_52 : decode cX12_handed 52 = .ok (.iaload, 1) := by decide +kernel
theorem dX12_handed_53 : decode cX12_handed 53 = .ok (.invokevirtual 325, 3) := by decide +kernel
theorem dX12_handed_56 : decode cX12_handed 56 = .ok (.goto 4, 3) := by decide +kernel
theorem dX12_handed_59 : decode cX12_handed 59 = .ok (.iconst (-1), 1) := by decide +kernel
theorem dX12_handed_60 : decode cX12_handed 60 = .ok (.istore 6, 2) := by decide +kernel
theorem dX12_handed_62 : decode cX12_handed 62 = .ok (.iload 6, 2) := by decide +kernel
theorem dX12_handed_64 : decode cX12_handed 64 = .ok (.ifCond .lt 33, 3) := by decide +kernel
theorem dX12_handed_67 : decode cX12_handed 67 = .ok (.aload_n 0, 1) := by decide +kernel
theorem dX12_handed_68 : decode cX12_handed 68 = .ok (.getfield 105, 3) := by decide +kernel
theorem dX12_handed_71 : decode cX12_handed 71 = .ok (.iload_n 1, 1) := by decide +kernel
theorem dX12_handed_72 : decode cX12_handed 72 = .ok (.bipush 120, 2) := by decide +kernel
theorem dX12_handed_74 : decode cX12_handed 74 = .ok (.iadd, 1) := by decide +kernel
theorem dX12_handed_75 : decode cX12_handed 75 = .ok (.iload 5, 2) := by decide +kernel
theorem dX12_handed_77 : decode cX12_handed 77 = .ok (.iadd, 1) := by decide +kernel
theorem dX12_handed_78 : decode cX12_handed 78 = .ok (.iload 6, 2) := by decide +kernel
theorem dX12_handed_80 : decode cX12_handed 80 = .ok (.iastore, 1) := by decide +kernel
theorem dX12_handed_81 : decode cX12_handed 81 = .ok (.iload 4, 2) := by decide +kernel
theorem dX12_handed_83 : decode cX12_handed 83 = .ok (.iload 6, 2) := by decide +kernel
theorem dX12_handed_85 : decode cX12_handed 85 = .ok (.iload_n 2, 1) := by decide +kernel
theorem dX12_handed_86 : decode cX12_handed 86 = .ok (.if_icmp .eq 7, 3) := by decide +kernel
theorem dX12_handed_89 : decode cX12_handed 89 = .ok (.iconst 1, 1) := by decide +kernel
theorem dX12_handed_90 : decode cX12_handed 90 = .ok (.goto 4, 3) := by decide +kernel
theorem dX12_handed_93 : decode cX12_handed 93 = .ok (.iconst 0, 1) := by decide +kernel
theorem dX12_handed_94 : decode cX12_handed 94 = .ok (.iadd, 1) := by decide +kernel
theorem dX12_handed_95 : decode cX12_handed 95 = .ok (.istore 4, 2) := by decide +kernel
theorem dX12_handed_97 : decode cX12_handed 97 = .ok (.iinc 5 1, 3) := by decide +kernel
theorem dX12_handed_100 : decode cX12_handed 100 = .ok (.goto (-76), 3) := by decide +kernel
theorem dX12_handed_103 : decode cX12_handed 103 = .ok (.iload 4, 2) := by decide +kernel
theorem dX12_handed_105 : decode cX12_handed 105 = .ok (.ireturn, 1) := by decide +kernel
def fX12_handed (a0 : Nat) (a1 : Int) (a2 : Int) (G : Hp) : RT := bp (fX12_isIn a0 a1 a2 G) fun v1 => if v1 = 0 then (rt ((-1)) G) else (bp (fX12_heldSet a0 a1 a2 G) fun v2 => bd v2 fun v3 => bd 0 fun v4 => bd 0 fun v5 => (lp (fun (_ : Int) (_ : Int) (_ : Hp) => (none : RT)) 5000 (fun (rc9 : Int → Int → Hp → RT) (v6 : Int) (v7 : Int) (G8 : Hp) => bp (fX12_keys a0 G8) fun v10 => if v7 < v10 then (jn (fun (v11 : Int) (G12 : Hp) => bd v11 fun v14 => jn (fun (v15 : Int) (G16 : Hp) => bd (iadd v7 1) fun v18 => rc9 v15 v18 G16) fun (K17 : Int → Hp → RT) => if v14 < 0 then K17 v6 G12 else (bs (wr G12 ((rf a0 17)) 3565 (iadd (iadd a1 120) v7) v14) fun G19 => jn (fun (v20 : Int) => bd (iadd v6 v20) fun v22 => K17 v22 G19) fun (K21 : Int → RT) => if v14 = a2 then K21 0 else K21 1)) fun (K13 : Int → Hp → RT) => if (iand (ishr v3 v7) 1) = 1 then (br (rd G8 ((rf a0 20)) 10 v7) fun v23 => bn (fX12_finds a0 a1 a2 v23 G8) fun v24 G25 => K13 v24 G25) else (K13 ((-1)) G8)) else rt v6 G8)) v4 v5 G)
set_option maxRecDepth 20000 in
set_option maxHeartbeats 4000000 in
theorem tX12_handed (l : Launch) (x : WX) (hi : Inj x.2.2) (G : Hp) (a0 : Nat) (a1 : Int) (a2 : Int) (ha0 : kd a0 = 12) : Ct l x yX12_handed cX12_handed 7 (some .int) 6 129 129 [vR a0, vI a1, vI a2] G (fX12_handed a0 a1 a2 G) := by
  refine ct_of (plainFor_of_name (by decide)) hi (Nat.le_refl _) (Nat.le_refl _) (Nat.le_of_ble_eq_true rfl) (fun cx F hd hn0 hnE hl hQ => ?_)
  subst hl
  have F : Fx cx x RX12 cX12_handed 7 (some .int) := F
  show Y cx x 7 (some .int) 129 0 [(0, vR a0), (1, vI a1), (2, vI a2)] [] G _
  unfold fX12_handed
  refine x_aload_n F dX12_handed_0 rfl rfl rfl ?_
  refine x_iload_n F dX12_handed_1 rfl rfl rfl ?_
  refine x_iload_n F dX12_handed_2 rfl rfl rfl ?_
  refine s_callVP F [vI a1, vI a2] [] lkX12_278 mX12_isIn rfl ha0 rfl hnE hn0 hd pX12_isIn (tX12_isIn cx.l x hi G a0 a1 a2 ha0) rfl rfl dX12_handed_3 rfl rfl (fun v1 => ?_)
  refine x_ifne (pt := 11) F dX12_handed_6 rfl rfl ?_ ?_
  · refine x_iconst F dX12_handed_9 ⟨by decide, by decide⟩ rfl ?_
    exact x_iret F hnE hQ dX12_handed_10
  · refine x_aload_n F dX12_handed_11 rfl rfl rfl ?_
    refine x_iload_n F dX12_handed_12 rfl rfl rfl ?_
    refine x_iload_n F dX12_handed_13 rfl rfl rfl ?_
    refine s_callVP F [vI a1, vI a2] [] lkX12_337 mX12_heldSet rfl ha0 rfl hnE hn0 hd pX12_heldSet (tX12_heldSet cx.l x hi G a0 a1 a2 ha0) rfl rfl dX12_handed_14 rfl rfl (fun v2 => ?_)
    refine x_istore_n F dX12_handed_17 rfl (by decide) rfl rfl (fun v3 => ?_)
    show Y cx x _ _ _ _ [(0, vR a0), (1, vI a1), (2, vI a2), (3, vI v3)] _ _ _
    refine x_iconst F dX12_handed_18 ⟨by decide, by decide⟩ rfl ?_
    refine x_istore F dX12_handed_19 (by decide) rfl rfl (fun v4 => ?_)
    show Y cx x _ _ _ _ [(0, vR a0), (1, vI a1), (2, vI a2), (3, vI v3), (4, vI v4)] _ _ _
    refine x_iconst F dX12_handed_21 ⟨by decide, by decide⟩ rfl ?_
    refine x_istore F dX12_handed_22 (by decide) rfl rfl (fun v5 => ?_)
    show Y cx x _ _ _ _ [(0, vR a0), (1, vI a1), (2, vI a2), (3, vI v3), (4, vI v4), (5, vI v5)] _ _ _
    refine x_lp (fun (rc9 : Int → Int → Hp → RT) => ∀ (v6 : Int) (v7 : Int) (G8 : Hp), Y cx x 7 (some .int) 129 24 [(0, vR a0), (1, vI a1), (2, vI a2), (3, vI v3), (4, vI v6), (5, vI v7)] [] G8 (rc9 v6 v7 G8)) (fun _ _ _ => Y_none) (fun rc9 hrc9 v6 v7 G8 => ?_) 5000 v4 v5 G
    refine x_iload F dX12_handed_24 rfl rfl ?_
    refine x_aload_n F dX12_handed_26 rfl rfl rfl ?_
    refine s_callVP F [] [vI v7] lkX12_229 mX12_keys rfl ha0 rfl hnE hn0 hd pX12_keys (tX12_keys cx.l x hi G8 a0 ha0) rfl rfl dX12_handed_27 rfl rfl (fun v10 => ?_)
    refine x_icmpge (pt := 103) F dX12_handed_30 rfl rfl ?_ ?_
    · refine x_iload_n F dX12_handed_33 rfl rfl rfl ?_
      refine x_iload F dX12_handed_34 rfl rfl ?_
      refine x_ishr F dX12_handed_36 rfl ?_
      refine x_iconst F dX12_handed_37 ⟨by decide, by decide⟩ rfl ?_
      refine x_iand F dX12_handed_38 rfl ?_
      refine x_iconst F dX12_handed_39 ⟨by decide, by decide⟩ rfl ?_
      refine x_jn (fun (K13 : Int → Hp → RT) => ∀ (v11 : Int) (G12 : Hp), Y cx x 7 (some .int) 129 60 [(0, vR a0), (1, vI a1), (2, vI a2), (3, vI v3), (4, vI v6), (5, vI v7)] [vI v11] G12 (K13 v11 G12)) ?_ (fun K13 hK13 => ?_)
      · intro v11 G12
        refine x_istore F dX12_handed_60 (by decide) rfl rfl (fun v14 => ?_)
        show Y cx x _ _ _ _ [(0, vR a0), (1, vI a1), (2, vI a2), (3, vI v3), (4, vI v6), (5, vI v7), (6, vI v14)] _ _ _
        refine x_iload F dX12_handed_62 rfl rfl ?_
        refine x_jn (fun (K17 : Int → Hp → RT) => ∀ (v15 : Int) (G16 : Hp), Y cx x 7 (some .int) 129 97 [(0, vR a0), (1, vI a1), (2, vI a2), (3, vI v3), (4, vI v15), (5, vI v7)] [] G16 (K17 v15 G16)) ?_ (fun K17 hK17 => ?_)
        · intro v15 G16
          refine x_iinc F dX12_handed_97 rfl (by decide) rfl rfl (fun v18 => ?_)
          show Y cx x _ _ _ _ [(0, vR a0), (1, vI a1), (2, vI a2), (3, vI v3), (4, vI v15), (5, vI v18)] _ _ _
          refine x_goto (pc' := 24) F dX12_handed_100 rfl ?_
          exact hrc9 v15 v18 G16
        · refine x_iflt (pt := 97) F dX12_handed_64 rfl rfl ?_ ?_
          · refine x_dp (L' := [(0, vR a0), (1, vI a1), (2, vI a2), (3, vI v3), (4, vI v6), (5, vI v7)]) [0, 1, 2, 3, 4, 5] rfl ?_
            exact hK17 v6 G12
          · refine x_aload_n F dX12_handed_67 rfl rfl rfl ?_
            refine x_getR F flX12_105 ha0 rfl dX12_handed_68 rfl ?_
            refine x_iload_n F dX12_handed_71 rfl rfl rfl ?_
            refine x_bipush F dX12_handed_72 ⟨by decide, by decide⟩ (by decide) rfl ?_
            refine x_iadd F dX12_handed_74 rfl ?_
            refine x_iload F dX12_handed_75 rfl rfl ?_
            refine x_iadd F dX12_handed_77 rfl ?_
            refine x_iload F dX12_handed_78 rfl rfl ?_
            refine s_iast F (tf12_17 ha0).1 (tf12_17 ha0).2 dX12_handed_80 rfl (fun G19 => ?_)
            refine x_iload F dX12_handed_81 rfl rfl ?_
            refine x_iload F dX12_handed_83 rfl rfl ?_
            refine x_iload_n F dX12_handed_85 rfl rfl rfl ?_
            refine x_jn (fun (K21 : Int → RT) => ∀ (v20 : Int), Y cx x 7 (some .int) 129 94 [(0, vR a0), (1, vI a1), (2, vI a2), (3, vI v3), (5, vI v7)] [vI v20, vI v6] G19 (K21 v20)) ?_ (fun K21 hK21 => ?_)
            · intro v20
              refine x_iadd F dX12_handed_94 rfl ?_
              refine x_istore F dX12_handed_95 (by decide) rfl rfl (fun v22 => ?_)
              show Y cx x _ _ _ _ [(0, vR a0), (1, vI a1), (2, vI a2), (3, vI v3), (5, vI v7), (4, vI v22)] _ _ _
              refine x_dp (L' := [(0, vR a0), (1, vI a1), (2, vI a2), (3, vI v3), (4, vI v22), (5, vI v7)]) [0, 1, 2, 3, 5, 4] rfl ?_
              exact hK17 v22 G19
            · refine x_icmpeq (pt := 93) F dX12_handed_86 rfl rfl ?_ ?_
              · refine x_iconst F dX12_handed_93 ⟨by decide, by decide⟩ rfl ?_
                refine x_dp (L' := [(0, vR a0), (1, vI a1), (2, vI a2), (3, vI v3), (5, vI v7)]) [0, 1, 2, 3, 5] rfl ?_
                exact hK21 0
              · refine x_iconst F dX12_handed_89 ⟨by decide, by decide⟩ rfl ?_
                refine x_goto (pc' := 94) F dX12_handed_90 rfl ?_
                refine x_dp (L' := [(0, vR a0), (1, vI a1), (2, vI a2), (3, vI v3), (5, vI v7)]) [0, 1, 2, 3, 5] rfl ?_
                exact hK21 1
      · refine x_icmpne (pt := 59) F dX12_handed_40 rfl rfl ?_ ?_
        · refine x_aload_n F dX12_handed_43 rfl rfl rfl ?_
          refine x_iload_n F dX12_handed_44 rfl rfl rfl ?_
          refine x_iload_n F dX12_handed_45 rfl rfl rfl ?_
          refine x_aload_n F dX12_handed_46 rfl rfl rfl ?_
          refine x_getR F flX12_112 ha0 rfl dX12_handed_47 rfl ?_
          refine x_iload F dX12_handed_50 rfl rfl ?_
          refine s_iald F (tf12_20 ha0).1 (tf12_20 ha0).2 dX12_handed_52 rfl (fun v23 => ?_)
          refine s_callV F [vI a1, vI a2, vI v23] [] lkX12_325 mX12_finds rfl ha0 rfl hnE hn0 hd (tX12_finds cx.l x hi G8 a0 a1 a2 v23 ha0) rfl rfl dX12_handed_53 rfl rfl (fun v24 G25 => ?_)
          refine x_goto (pc' := 60) F dX12_handed_56 rfl ?_
          exact hK13 v24 G25
        · refine x_iconst F dX12_handed_59 ⟨by decide, by decide⟩ rfl ?_
          exact hK13 ((-1)) G8
    · refine x_iload F dX12_handed_103 rfl rfl ?_
      exact x_iret F hnE hQ dX12_handed_105
theorem dX12_find_0 : decode cX12_find 0 = .ok (.aload_n 0, 1) := by decide +kernel
theorem dX12_find_1 : decode cX12_find 1 = .ok (.iconst 0, 1) := by decide +kernel
theorem dX12_find_2 : decode cX12_find 2 = .ok (.putfield 1, 3) := by decide +kernel
theorem dX12_find_5 : decode cX12_find 5 = .ok (.aload_n 0, 1) := by decide +kernel
theorem dX12_find_6 : decode cX12_find 6 = .ok (.iload_n 1, 1) := by decide +kernel
theorem dX12_find_7 : decode cX12_find 7 = .ok (.iload_n 2, 1) := by decide +kernel
theorem dX12_find_8 : decode cX12_find 8 = .ok (.invokevirtual 420, 3) := by decide +kernel
theorem dX12_find_11 : decode cX12_find 11 = .ok (.ifCond .eq 13, 3) := by decide +kernel
theorem dX12_find_14 : decode cX12_find 14 = .ok (.aload_n 0, 1) := by decide +kernel
theorem dX12_find_15 : decode cX12_find 15 = .ok (.iconst 0, 1) := by decide +kernel
theorem dX12_find_16 : decode cX12_find 16 = .ok (.iload_n 1, 1) := by decide +kernel
theorem dX12_find_17 : decode cX12_find 17 = .ok (.iload_n 2, 1) := by decide +kernel
theorem dX12_find_18 : decode cX12_find 18 = .ok (.invokevirtual 325, 3) := by decide +kernel
theorem dX12_find_21 : decode cX12_find 21 = .ok (.goto 4, 3) := by decide +kernel
theorem dX12_find_24 : decode cX12_find 24 = .ok (.iconst (-1), 1) := by decide +kernel
theorem dX12_find_25 : decode cX12_find 25 = .ok (.ireturn, 1) := by decide +kernel
def fX12_find (a0 : Nat) (a1 : Int) (a2 : Int) (G : Hp) : RT := bh (up G a0 0 0) fun G1 => bp (fX12_canFind a0 a1 a2 G1) fun v2 => if v2 = 0 then (rt ((-1)) G1) else (bn (fX12_finds a0 0 a1 a2 G1) fun v3 G4 => rt v3 G4)
set_option maxRecDepth 20000 in
set_option maxHeartbeats 4000000 in
theorem tX12_find (l : Launch) (x : WX) (hi : Inj x.2.2) (G : Hp) (a0 : Nat) (a1 : Int) (a2 : Int) (ha0 : kd a0 = 12) : Ct l x yX12_find cX12_find 3 (some .int) 6 129 129 [vR a0, vI a1, vI a2] G (fX12_find a0 a1 a2 G) := by
  refine ct_of (plainFor_of_name (by decide)) hi (Nat.le_refl _) (Nat.le_refl _) (Nat.le_of_ble_eq_true rfl) (fun cx F hd hn0 hnE hl hQ => ?_)
  subst hl
  have F : Fx cx x RX12 cX12_find 3 (some .int) := F
  show Y cx x 3 (some .int) 129 0 [(0, vR a0), (1, vI a1), (2, vI a2)] [] G _
  unfold fX12_find
  refine x_aload_n F dX12_find_0 rfl rfl rfl ?_
  refine x_iconst F dX12_find_1 ⟨by decide, by decide⟩ rfl ?_
  refine s_putI F fpX12_1 ha0 rfl dX12_find_2 rfl (fun G1 => ?_)
  refine x_aload_n F dX12_find_5 rfl rfl rfl ?_
  refine x_iload_n F dX12_find_6 rfl rfl rfl ?_
  refine x_iload_n F dX12_find_7 rfl rfl rfl ?_
  refine s_callVP F [vI a1, vI a2] [] lkX12_420 mX12_canFind rfl ha0 rfl hnE hn0 hd pX12_canFind (tX12_canFind cx.l x hi G1 a0 a1 a2 ha0) rfl rfl dX12_find_8 rfl rfl (fun v2 => ?_)
  refine x_ifeq (pt := 24) F dX12_find_11 rfl rfl ?_ ?_
  · refine x_iconst F dX12_find_24 ⟨by decide, by decide⟩ rfl ?_
    exact x_iret F hnE hQ dX12_find_25
  · refine x_aload_n F dX12_find_14 rfl rfl rfl ?_
    refine x_iconst F dX12_find_15 ⟨by decide, by decide⟩ rfl ?_
    refine x_iload_n F dX12_find_16 rfl rfl rfl ?_
    refine x_iload_n F dX12_find_17 rfl rfl rfl ?_
    refine s_callV F [vI 0, vI a1, vI a2] [] lkX12_325 mX12_finds rfl ha0 rfl hnE hn0 hd (tX12_finds cx.l x hi G1 a0 0 a1 a2 ha0) rfl rfl dX12_find_18 rfl rfl (fun v3 G4 => ?_)
    refine x_goto (pc' := 25) F dX12_find_21 rfl ?_
    exact x_iret F hnE hQ dX12_find_25
theorem dX12_stepsTo_0 : decode cX12_stepsTo 0 = .ok (.aload_n 0, 1) := by decide +kernel
theorem dX12_stepsTo_1 : decode cX12_stepsTo 1 = .ok (.iload_n 1, 1) := by decide +kernel
theorem dX12_stepsTo_2 : decode cX12_stepsTo 2 = .ok (.iload_n 2, 1) := by decide +kernel
theorem dX12_stepsTo_3 : decode cX12_stepsTo 3 = .ok (.iload_n 3, 1) := by decide +kernel
theorem dX12_stepsTo_4 : decode cX12_stepsTo 4 = .ok (.invokevirtual 325, 3) := by decide +kernel
theorem dX12_stepsTo_7 : decode cX12_stepsTo 7 = .ok (.istore 4, 2) := by decide +kernel
theorem dX12_stepsTo_9 : decode cX12_stepsTo 9 = .ok (.iload 4, 2) := by decide +kernel
theorem dX12_stepsTo_11 : decode cX12_stepsTo 11 = .ok (.ifCond .ge 7, 3) := by decide +kernel
theorem dX12_stepsTo_14 : decode cX12_stepsTo 14 = .ok (.iconst (-1), 1) := by decide +kernel
theorem dX12_stepsTo_15 : decode cX12_stepsTo 15 = .ok (.goto 7, 3) := by decide +kernel
theorem dX12_stepsTo_18 : decode cX12_stepsTo 18 = .ok (.aload_n 0, 1) := by decide +kernel
theorem dX12_stepsTo_19 : decode cX12_stepsTo 19 = .ok (.getfield 307, 3) := by decide +kernel
theorem dX12_stepsTo_22 : decode cX12_stepsTo 22 = .ok (.ireturn, 1) := by decide +kernel
def fX12_stepsTo (a0 : Nat) (a1 : Int) (a2 : Int) (a3 : Int) (G : Hp) : RT := bn (fX12_finds a0 a1 a2 a3 G) fun v1 G2 => bd v1 fun v3 => if v3 < 0 then (rt ((-1)) G2) else (rt (G2 a0 21) G2)
set_option maxRecDepth 20000 in
set_option maxHeartbeats 4000000 in
theorem tX12_stepsTo (l : Launch) (x : WX) (hi : Inj x.2.2) (G : Hp) (a0 : Nat) (a1 : Int) (a2 : Int) (a3 : Int) (ha0 : kd a0 = 12) : Ct l x yX12_stepsTo cX12_stepsTo 5 (some .int) 6 129 129 [vR a0, vI a1, vI a2, vI a3] G (fX12_stepsTo a0 a1 a2 a3 G) := by
  refine ct_of (plainFor_of_name (by decide)) hi (Nat.le_refl _) (Nat.le_refl _) (Nat.le_of_ble_eq_true rfl) (fun cx F hd hn0 hnE hl hQ => ?_)
  subst hl
  have F : Fx cx x RX12 cX12_stepsTo 5 (some .int) := F
  show Y cx x 5 (some .int) 129 0 [(0, vR a0), (1, vI a1), (2, vI a2), (3, vI a3)] [] G _
  unfold fX12_stepsTo
  refine x_aload_n F dX12_stepsTo_0 rfl rfl rfl ?_
  refine x_iload_n F dX12_stepsTo_1 rfl rfl rfl ?_
  refine x_iload_n F dX12_stepsTo_2 rfl rfl rfl ?_
  refine x_iload_n F dX12_stepsTo_3 rfl rfl rfl ?_
  refine s_callV F [vI a1, vI a2, vI a3] [] lkX12_325 mX12_finds rfl ha0 rfl hnE hn0 hd (tX12_finds cx.l x hi G a0 a1 a2 a3 ha0) rfl rfl dX12_stepsTo_4 rfl rfl (fun v1 G2 => ?_)
  refine x_dp (L' := [(0, vR a0)]) [0] rfl ?_
  refine x_istore F dX12_stepsTo_7 (by decide) rfl rfl (fun v3 => ?_)
  show Y cx x _ _ _ _ [(0, vR a0), (4, vI v3)] _ _ _
  refine x_iload F dX12_stepsTo_9 rfl rfl ?_
  refine x_ifge (pt := 18) F dX12_stepsTo_11 rfl rfl ?_ ?_
  · refine x_iconst F dX12_stepsTo_14 ⟨by decide, by decide⟩ rfl ?_
    refine x_goto (pc' := 22) F dX12_stepsTo_15 rfl ?_
    exact x_iret F hnE hQ dX12_stepsTo_22
  · refine x_aload_n F dX12_stepsTo_18 rfl rfl rfl ?_
    refine s_getI F flX12_307 ha0 rfl dX12_stepsTo_19 rfl ?_
    exact x_iret F hnE hQ dX12_stepsTo_22
theorem dX12_cycles_0 : decode cX12_cycles 0 = .ok (.aload_n 0, 1) := by decide +kernel
theorem dX12_cycles_1 : decode cX12_cycles 1 = .ok (.iconst 0, 1) := by decide +kernel
theorem dX12_cycles_2 : decode cX12_cycles 2 = .ok (.putfield 1, 3) := by decide +kernel
theorem dX12_cycles_5 : decode cX12_cycles 5 = .ok (.aload_n 0, 1) := by decide +kernel
theorem dX12_cycles_6 : decode cX12_cycles 6 = .ok (.iconst 0, 1) := by decide +kernel
theorem dX12_cycles_7 : decode cX12_cycles 7 = .ok (.invokevirtual 435, 3) := by decide +kernel
theorem dX12_cycles_10 : decode cX12_cycles 10 = .ok (.istore_n 2, 1) := by decide +kernel
theorem dX12_cycles_11 : decode cX12_cycles 11 = .ok (.aload_n 0, 1) := by decide +kernel
theorem dX12_cycles_12 : decode cX12_cycles 12 = .ok (.iconst 0, 1) := by decide +kernel
theorem dX12_cycles_13 : decode cX12_cycles 13 = .ok (.invokevirtual 441, 3) := by decide +kernel
theorem dX12_cycles_16 : decode cX12_cycles 16 = .ok (.istore_n 3, 1) := by decide +kernel
theorem dX12_cycles_17 : decode cX12_cycles 17 = .ok (.iload_n 1, 1) := by decide +kernel
theorem dX12_cycles_18 : decode cX12_cycles 18 = .ok (.tableswitch 50 0 3 #[30, 36, 38, 48], 30) := by decide +kernel
theorem dX12_cycles_48 : decode cX12_cycles 48 = .ok (.aload_n 0, 1) := by decide +kernel
theorem dX12_cycles_49 : decode cX12_cycles 49 = .ok (.iconst 0, 1) := by decide +kernel
theorem dX12_cycles_50 : decode cX12_cycles 50 = .ok (.invokevirtual 444, 3) := by decide +kernel
theorem dX12_cycles_53 : decode cX12_cycles 53 = .ok (.ireturn, 1) := by decide +kernel
theorem dX12_cycles_54 : decode cX12_cycles 54 = .ok (.iload_n 2, 1) := by decide +kernel
theorem dX12_cycles_55 : decode cX12_cycles 55 = .ok (.ireturn, 1) := by decide +kernel
theorem dX12_cycles_56 : decode cX12_cycles 56 = .ok (.aload_n 0, 1) := by decide +kernel
theorem dX12_cycles_57 : decode cX12_cycles 57 = .ok (.iconst 0, 1) := by decide +kernel
theorem dX12_cycles_58 : decode cX12_cycles 58 = .ok (.invokevirtual 316, 3) := by decide +kernel
theorem dX12_cycles_61 : decode cX12_cycles 61 = .ok (.iload_n 2, 1) := by decide +kernel
theorem dX12_cycles_62 : decode cX12_cycles 62 = .ok (.isub, 1) := by decide +kernel
theorem dX12_cycles_63 : decode cX12_cycles 63 = .ok (.iload_n 3, 1) := by decide +kernel
theorem dX12_cycles_64 : decode cX12_cycles 64 = .ok (.isub, 1) := by decide +kernel
theorem dX12_cycles_65 : decode cX12_cycles 65 = .ok (.ireturn, 1) := by decide +kernel
theorem dX12_cycles_66 : decode cX12_cycles 66 = .ok (.iload_n 3, 1) := by decide +kernel
theorem dX12_cycles_67 : decode cX12_cycles 67 = .ok (.ireturn, 1) := by decide +kernel
theorem dX12_cycles_68 : decode cX12_cycles 68 = .ok (.iconst (-1), 1) := by decide +kernel
theorem dX12_cycles_69 : decode cX12_cycles 69 = .ok (.ireturn, 1) := by decide +kernel
def fX12_cycles (a0 : Nat) (a1 : Int) (G : Hp) : RT := bh (up G a0 0 0) fun G1 => bp (fX12_cycleSet a0 0 G1) fun v2 => bd v2 fun v3 => bp (fX12_brokenSet a0 0 G1) fun v4 => bd v4 fun v5 => if a1 = 0 then (bp (fX12_cyclesMany a0 0 G1) fun v7 => rt v7 G1) else (if a1 = 1 then rt v3 G1 else (if a1 = 2 then (bp (fX12_inSet a0 0 G1) fun v10 => rt (isub (isub v10 v3) v5) G1) else (if a1 = 3 then rt v5 G1 else (rt ((-1)) G1))))
set_option maxRecDepth 20000 in
set_option maxHeartbeats 4000000 in
theorem tX12_cycles (l : Launch) (x : WX) (hi : Inj x.2.2) (G : Hp) (a0 : Nat) (a1 : Int) (ha0 : kd a0 = 12) : Ct l x yX12_cycles cX12_cycles 4 (some .int) 6 129 129 [vR a0, vI a1] G (fX12_cycles a0 a1 G) := by
  refine ct_of (plainFor_of_name (by decide)) hi (Nat.le_refl _) (Nat.le_refl _) (Nat.le_of_ble_eq_true rfl) (fun cx F hd hn0 hnE hl hQ => ?_)
  subst hl
  have F : Fx cx x RX12 cX12_cycles 4 (some .int) := F
  show Y cx x 4 (some .int) 129 0 [(0, vR a0), (1, vI a1)] [] G _
  unfold fX12_cycles
  refine x_aload_n F dX12_cycles_0 rfl rfl rfl ?_
  refine x_iconst F dX12_cycles_1 ⟨by decide, by decide⟩ rfl ?_
  refine s_putI F fpX12_1 ha0 rfl dX12_cycles_2 rfl (fun G1 => ?_)
  refine x_aload_n F dX12_cycles_5 rfl rfl rfl ?_
  refine x_iconst F dX12_cycles_6 ⟨by decide, by decide⟩ rfl ?_
  refine s_callVP F [vI 0] [] lkX12_435 mX12_cycleSet rfl ha0 rfl hnE hn0 hd pX12_cycleSet (tX12_cycleSet cx.l x hi G1 a0 0 ha0) rfl rfl dX12_cycles_7 rfl rfl (fun v2 => ?_)
  refine x_istore_n F dX12_cycles_10 rfl (by decide) rfl rfl (fun v3 => ?_)
  show Y cx x _ _ _ _ [(0, vR a0), (1, vI a1), (2, vI v3)] _ _ _
  refine x_aload_n F dX12_cycles_11 rfl rfl rfl ?_
  refine x_iconst F dX12_cycles_12 ⟨by decide, by decide⟩ rfl ?_
  refine s_callVP F [vI 0] [] lkX12_441 mX12_brokenSet rfl ha0 rfl hnE hn0 hd pX12_brokenSet (tX12_brokenSet cx.l x hi G1 a0 0 ha0) rfl rfl dX12_cycles_13 rfl rfl (fun v4 => ?_)
  refine x_istore_n F dX12_cycles_16 rfl (by decide) rfl rfl (fun v5 => ?_)
  show Y cx x _ _ _ _ [(0, vR a0), (1, vI a1), (2, vI v3), (3, vI v5)] _ _ _
  refine x_iload_n F dX12_cycles_17 rfl rfl rfl ?_
  refine x_ite (fun h6 => ?_) (fun h6 => ?_)
  · refine x_tabIn (off := 30) (pc' := 48) F dX12_cycles_18 (by omega) (by omega) (by rw [h6]; rfl) rfl ?_
    refine x_aload_n F dX12_cycles_48 rfl rfl rfl ?_
    refine x_iconst F dX12_cycles_49 ⟨by decide, by decide⟩ rfl ?_
    refine s_callVP F [vI 0] [] lkX12_444 mX12_cyclesMany rfl ha0 rfl hnE hn0 hd pX12_cyclesMany (tX12_cyclesMany cx.l x hi G1 a0 0 ha0) rfl rfl dX12_cycles_50 rfl rfl (fun v7 => ?_)
    exact x_iret F hnE hQ dX12_cycles_53
  · refine x_ite (fun h8 => ?_) (fun h8 => ?_)
    · refine x_tabIn (off := 36) (pc' := 54) F dX12_cycles_18 (by omega) (by omega) (by rw [h8]; rfl) rfl ?_
      refine x_iload_n F dX12_cycles_54 rfl rfl rfl ?_
      exact x_iret F hnE hQ dX12_cycles_55
    · refine x_ite (fun h9 => ?_) (fun h9 => ?_)
      · refine x_tabIn (off := 38) (pc' := 56) F dX12_cycles_18 (by omega) (by omega) (by rw [h9]; rfl) rfl ?_
        refine x_aload_n F dX12_cycles_56 rfl rfl rfl ?_
        refine x_iconst F dX12_cycles_57 ⟨by decide, by decide⟩ rfl ?_
        refine s_callVP F [vI 0] [] lkX12_316 mX12_inSet rfl ha0 rfl hnE hn0 hd pX12_inSet (tX12_inSet cx.l x hi G1 a0 0 ha0) rfl rfl dX12_cycles_58 rfl rfl (fun v10 => ?_)
        refine x_iload_n F dX12_cycles_61 rfl rfl rfl ?_
        refine x_isub F dX12_cycles_62 rfl ?_
        refine x_iload_n F dX12_cycles_63 rfl rfl rfl ?_
        refine x_isub F dX12_cycles_64 rfl ?_
        exact x_iret F hnE hQ dX12_cycles_65
      · refine x_ite (fun h11 => ?_) (fun h11 => ?_)
        · refine x_tabIn (off := 48) (pc' := 66) F dX12_cycles_18 (by omega) (by omega) (by rw [h11]; rfl) rfl ?_
          refine x_iload_n F dX12_cycles_66 rfl rfl rfl ?_
          exact x_iret F hnE hQ dX12_cycles_67
        · refine x_tabOut (pc' := 68) F dX12_cycles_18 (by omega) rfl ?_
          refine x_iconst F dX12_cycles_68 ⟨by decide, by decide⟩ rfl ?_
          exact x_iret F hnE hQ dX12_cycles_69
theorem dX12_isOrdered_0 : decode cX12_isOrdered 0 = .ok (.aload_n 0, 1) := by decide +kernel
theorem dX12_isOrdered_1 : decode cX12_isOrdered 1 = .ok (.iload_n 1, 1) := by decide +kernel
theorem dX12_isOrdered_2 : decode cX12_isOrdered 2 = .ok (.invokevirtual 435, 3) := by decide +kernel
theorem dX12_isOrdered_5 : decode cX12_isOrdered 5 = .ok (.istore_n 2, 1) := by decide +kernel
theorem dX12_isOrdered_6 : decode cX12_isOrdered 6 = .ok (.iconst 0, 1) := by decide +kernel
theorem dX12_isOrdered_7 : decode cX12_isOrdered 7 = .ok (.istore_n 3, 1) := by decide +kernel
theorem dX12_isOrdered_8 : decode cX12_isOrdered 8 = .ok (.iconst 0, 1) := by decide +kernel
theorem dX12_isOrdered_9 : decode cX12_isOrdered 9 = .ok (.istore 4, 2) := by decide +kernel
theorem dX12_isOrdered_11 : decode cX12_isOrdered 11 = .ok (.iload 4, 2) := by decide +kernel
theorem dX12_isOrdered_13 : decode cX12_isOrdered 13 = .ok (.aload_n 0, 1) := by decide +kernel
theorem dX12_isOrdered_14 : decode cX12_isOrdered 14 = .ok (.invokevirtual 236, 3) := by decide +kernel
theorem dX12_isOrdered_17 : decode cX12_isOrdered 17 = .ok (.if_icmp .ge 39, 3) := by decide +kernel
theorem dX12_isOrdered_20 : decode cX12_isOrdered 20 = .ok (.iload_n 3, 1) := by decide +kernel
theorem dX12_isOrdered_21 : decode cX12_isOrdered 21 = .ok (.iload_n 2, 1) := by decide +kernel
theorem dX12_isOrdered_22 : decode cX12_isOrdered 22 = .ok (.iload 4, 2) := by decide +kernel
theorem dX12_isOrdered_24 : decode cX12_isOrdered 24 = .ok (.ishr, 1) := by decide +kernel
theorem dX12_isOrdered_25 : decode cX12_isOrdered 25 = .ok (.iconst 1, 1) := by decide +kernel
theorem dX12_isOrdered_26 : decode cX12_isOrdered 26 = .ok (.iand, 1) := by decide +kernel
theorem dX12_isOrdered_27 : decode cX12_isOrdered 27 = .ok (.iconst 1, 1) := by decide +kernel
theorem dX12_isOrdered_28 : decode cX12_isOrdered 28 = .ok (.if_icmp .ne 19, 3) := by decide +kernel
theorem dX12_isOrdered_31 : decode cX12_isOrdered 31 = .ok (.aload_n 0, 1) := by decide +kernel
theorem dX12_isOrdered_32 : decode cX12_isOrdered 32 = .ok (.iload 4, 2) := by decide +kernel
theorem dX12_isOrdered_34 : decode cX12_isOrdered 34 = .ok (.aload_n 0, 1) := by decide +kernel
theorem dX12_isOrdered_35 : decode cX12_isOrdered 35 = .ok (.iload_n 1, 1) := by decide +kernel
theorem dX12_isOrdered_36 : decode cX12_isOrdered 36 = .ok (.iload 4, 2) := by decide +kernel
theorem dX12_isOrdered_38 : decode cX12_isOrdered 38 = .ok (.invokevirtual 310, 3) := by decide +kernel
theorem dX12_isOrdered_41 : decode cX12_isOrdered 41 = .ok (.invokevirtual 297, 3) := by decide +kernel
theorem dX12_isOrdered_44 : decode cX12_isOrdered 44 = .ok (.goto 4, 3) := by decide +kernel
theorem dX12_isOrdered_47 : decode cX12_isOrdered 47 = .ok (.iconst 0, 1) := by decide +kernel
theorem dX12_isOrdered_48 : decode cX12_isOrdered 48 = .ok (.iadd, 1) := by decide +kernel
theorem dX12_isOrdered_49 : decode cX12_isOrdered 49 = .ok (.istore_n 3, 1) := by decide +kernel
theorem dX12_isOrdered_50 : decode cX12_isOrdered 50 = .ok (.iinc 4 1, 3) := by decide +kernel
theorem dX12_isOrdered_53 : decode cX12_isOrdered 53 = .ok (.goto (-42), 3) := by decide +kernel
theorem dX12_isOrdered_56 : decode cX12_isOrdered 56 = .ok (.aload_n 0, 1) := by decide +kernel
theorem dX12_isOrdered_57 : decode cX12_isOrdered 57 = .ok (.iload_n 1, 1) := by decide +kernel
theorem dX12_isOrdered_58 : decode cX12_isOrdered 58 = .ok (.invokevirtual 444, 3) := by decide +kernel
theorem dX12_isOrdered_61 : decode cX12_isOrdered 61 = .ok (.iconst 1, 1) := by decide +kernel
theorem dX12_isOrdered_62 : decode cX12_isOrdered 62 = .ok (.if_icmp .ne 15, 3) := by decide +kernel
theorem dX12_isOrdered_65 : decode cX12_isOrdered 65 = .ok (.iload_n 3, 1) := by decide +kernel
theorem dX12_isOrdered_66 : decode cX12_isOrdered 66 = .ok (.aload_n 0, 1) := by decide +kernel
theorem dX12_isOrdered_67 : decode cX12_isOrdered 67 = .ok (.invokevirtual 257, 3) := by decide +kernel
theorem dX12_isOrdered_70 : decode cX12_isOrdered 70 = .ok (.if_icmp .ne 7, 3) := by decide +kernel
theorem dX12_isOrdered_73 : decode cX12_isOrdered 73 = .ok (.iconst 1, 1) := by decide +kernel
theorem dX12_isOrdered_74 : decode cX12_isOrdered 74 = .ok (.goto 4, 3) := by decide +kernel
theorem dX12_isOrdered_77 : decode cX12_isOrdered 77 = .ok (.iconst 0, 1) := by decide +kernel
theorem dX12_isOrdered_78 : decode cX12_isOrdered 78 = .ok (.ireturn, 1) := by decide +kernel
def fX12_isOrdered (a0 : Nat) (a1 : Int) (G : Hp) : RT := bp (fX12_cycleSet a0 a1 G) fun v1 => bd v1 fun v2 => bd 0 fun v3 => bd 0 fun v4 => (lp (fun (_ : Int) (_ : Int) => (none : RT)) 5000 (fun (rc7 : Int → Int → RT) (v5 : Int) (v6 : Int) => bp (fX12_nodes a0 G) fun v8 => if v6 < v8 then (jn (fun (v11 : Int) => bd (iadd v5 v11) fun v13 => bd (iadd v6 1) fun v14 => rc7 v13 v14) fun (K12 : Int → RT) => if (iand (ishr v2 v6) 1) = 1 then (bp (fX12_firstOf a0 a1 v6 G) fun v15 => bp (fX12_wayTo a0 v6 v15 G) fun v16 => K12 v16) else K12 0) else (bp (fX12_cyclesMany a0 a1 G) fun v9 => if v9 = 1 then (bp (fX12_circle a0 G) fun v10 => if v5 = v10 then rz 1 G else rz 0 G) else rz 0 G))) v3 v4
theorem pX12_isOrdered {G : Hp} {a0 : Nat} {a1 : Int} : PU G (fX12_isOrdered a0 a1 G) := by
  unfold fX12_isOrdered
  refine PU_bp (fun v1 => ?_)
  refine PU_bd (fun v2 => ?_)
  refine PU_bd (fun v3 => ?_)
  refine PU_bd (fun v4 => ?_)
  refine x_lp (fun (rc7 : Int → Int → RT) => ∀ (v5 : Int) (v6 : Int), PU G (rc7 v5 v6)) (fun _ _ => PU_none) (fun rc7 phrc7 v5 v6 => ?_) 5000 v3 v4
  refine PU_bp (fun v8 => ?_)
  refine PU_ite ?_ ?_
  · refine PU_jn (fun (K12 : Int → RT) => ∀ (v11 : Int), PU G (K12 v11)) ?_ (fun K12 phK12 => ?_)
    · intro v11
      refine PU_bd (fun v13 => ?_)
      refine PU_bd (fun v14 => ?_)
      exact phrc7 v13 v14
    · refine PU_ite ?_ ?_
      · refine PU_bp (fun v15 => ?_)
        refine PU_bp (fun v16 => ?_)
        exact phK12 v16
      · exact phK12 0
  · refine PU_bp (fun v9 => ?_)
    refine PU_ite ?_ ?_
    · refine PU_bp (fun v10 => ?_)
      refine PU_ite ?_ ?_
      · exact PU_rz
      · exact PU_rz
    · exact PU_rz
set_option maxRecDepth 20000 in
set_option maxHeartbeats 4000000 in
theorem tX12_isOrdered (l : Launch) (x : WX) (hi : Inj x.2.2) (G : Hp) (a0 : Nat) (a1 : Int) (ha0 : kd a0 = 12) : Ct l x yX12_isOrdered cX12_isOrdered 5 (some .boolean) 6 129 129 [vR a0, vI a1] G (fX12_isOrdered a0 a1 G) := by
  refine ct_of (plainFor_of_name (by decide)) hi (Nat.le_refl _) (Nat.le_refl _) (Nat.le_of_ble_eq_true rfl) (fun cx F hd hn0 hnE hl hQ => ?_)
  subst hl
  have F : Fx cx x RX12 cX12_isOrdered 5 (some .boolean) := F
  show Y cx x 5 (some .boolean) 129 0 [(0, vR a0), (1, vI a1)] [] G _
  unfold fX12_isOrdered
  refine x_aload_n F dX12_isOrdered_0 rfl rfl rfl ?_
  refine x_iload_n F dX12_isOrdered_1 rfl rfl rfl ?_
  refine s_callVP F [vI a1] [] lkX12_435 mX12_cycleSet rfl ha0 rfl hnE hn0 hd pX12_cycleSet (tX12_cycleSet cx.l x hi G a0 a1 ha0) rfl rfl dX12_isOrdered_2 rfl rfl (fun v1 => ?_)
  refine x_istore_n F dX12_isOrdered_5 rfl (by decide) rfl rfl (fun v2 => ?_)
  show Y cx x _ _ _ _ [(0, vR a0), (1, vI a1), (2, vI v2)] _ _ _
  refine x_iconst F dX12_isOrdered_6 ⟨by decide, by decide⟩ rfl ?_
  refine x_istore_n F dX12_isOrdered_7 rfl (by decide) rfl rfl (fun v3 => ?_)
  show Y cx x _ _ _ _ [(0, vR a0), (1, vI a1), (2, vI v2), (3, vI v3)] _ _ _
  refine x_iconst F dX12_isOrdered_8 ⟨by decide, by decide⟩ rfl ?_
  refine x_istore F dX12_isOrdered_9 (by decide) rfl rfl (fun v4 => ?_)
  show Y cx x _ _ _ _ [(0, vR a0), (1, vI a1), (2, vI v2), (3, vI v3), (4, vI v4)] _ _ _
  refine x_lp (fun (rc7 : Int → Int → RT) => ∀ (v5 : Int) (v6 : Int), Y cx x 5 (some .boolean) 129 11 [(0, vR a0), (1, vI a1), (2, vI v2), (3, vI v5), (4, vI v6)] [] G (rc7 v5 v6)) (fun _ _ => Y_none) (fun rc7 hrc7 v5 v6 => ?_) 5000 v3 v4
  refine x_iload F dX12_isOrdered_11 rfl rfl ?_
  refine x_aload_n F dX12_isOrdered_13 rfl rfl rfl ?_
  refine s_callVP F [] [vI v6] lkX12_236 mX12_nodes rfl ha0 rfl hnE hn0 hd pX12_nodes (tX12_nodes cx.l x hi G a0 ha0) rfl rfl dX12_isOrdered_14 rfl rfl (fun v8 => ?_)
  refine x_icmpge (pt := 56) F dX12_isOrdered_17 rfl rfl ?_ ?_
  · refine x_iload_n F dX12_isOrdered_20 rfl rfl rfl ?_
    refine x_iload_n F dX12_isOrdered_21 rfl rfl rfl ?_
    refine x_iload F dX12_isOrdered_22 rfl rfl ?_
    refine x_ishr F dX12_isOrdered_24 rfl ?_
    refine x_iconst F dX12_isOrdered_25 ⟨by decide, by decide⟩ rfl ?_
    refine x_iand F dX12_isOrdered_26 rfl ?_
    refine x_iconst F dX12_isOrdered_27 ⟨by decide, by decide⟩ rfl ?_
    refine x_jn (fun (K12 : Int → RT) => ∀ (v11 : Int), Y cx x 5 (some .boolean) 129 48 [(0, vR a0), (1, vI a1), (2, vI v2), (4, vI v6)] [vI v11, vI v5] G (K12 v11)) ?_ (fun K12 hK12 => ?_)
    · intro v11
      refine x_iadd F dX12_isOrdered_48 rfl ?_
      refine x_istore_n F dX12_isOrdered_49 rfl (by decide) rfl rfl (fun v13 => ?_)
      show Y cx x _ _ _ _ [(0, vR a0), (1, vI a1), (2, vI v2), (4, vI v6), (3, vI v13)] _ _ _
      refine x_iinc F dX12_isOrdered_50 rfl (by decide) rfl rfl (fun v14 => ?_)
      show Y cx x _ _ _ _ [(0, vR a0), (1, vI a1), (2, vI v2), (4, vI v14), (3, vI v13)] _ _ _
      refine x_goto (pc' := 11) F dX12_isOrdered_53 rfl ?_
      refine x_dp (L' := [(0, vR a0), (1, vI a1), (2, vI v2), (3, vI v13), (4, vI v14)]) [0, 1, 2, 4, 3] rfl ?_
      exact hrc7 v13 v14
    · refine x_icmpne (pt := 47) F dX12_isOrdered_28 rfl rfl ?_ ?_
      · refine x_aload_n F dX12_isOrdered_31 rfl rfl rfl ?_
        refine x_iload F dX12_isOrdered_32 rfl rfl ?_
        refine x_aload_n F dX12_isOrdered_34 rfl rfl rfl ?_
        refine x_iload_n F dX12_isOrdered_35 rfl rfl rfl ?_
        refine x_iload F dX12_isOrdered_36 rfl rfl ?_
        refine s_callVP F [vI a1, vI v6] [vI v6, vR a0, vI v5] lkX12_310 mX12_firstOf rfl ha0 rfl hnE hn0 hd pX12_firstOf (tX12_firstOf cx.l x hi G a0 a1 v6 ha0) rfl rfl dX12_isOrdered_38 rfl rfl (fun v15 => ?_)
        refine s_callVP F [vI v6, vI v15] [vI v5] lkX12_297 mX12_wayTo rfl ha0 rfl hnE hn0 hd pX12_wayTo (tX12_wayTo cx.l x hi G a0 v6 v15 ha0) rfl rfl dX12_isOrdered_41 rfl rfl (fun v16 => ?_)
        refine x_goto (pc' := 48) F dX12_isOrdered_44 rfl ?_
        refine x_dp (L' := [(0, vR a0), (1, vI a1), (2, vI v2), (4, vI v6)]) [0, 1, 2, 4] rfl ?_
        exact hK12 v16
      · refine x_iconst F dX12_isOrdered_47 ⟨by decide, by decide⟩ rfl ?_
        refine x_dp (L' := [(0, vR a0), (1, vI a1), (2, vI v2), (4, vI v6)]) [0, 1, 2, 4] rfl ?_
        exact hK12 0
  · refine x_aload_n F dX12_isOrdered_56 rfl rfl rfl ?_
    refine x_iload_n F dX12_isOrdered_57 rfl rfl rfl ?_
    refine s_callVP F [vI a1] [] lkX12_444 mX12_cyclesMany rfl ha0 rfl hnE hn0 hd pX12_cyclesMany (tX12_cyclesMany cx.l x hi G a0 a1 ha0) rfl rfl dX12_isOrdered_58 rfl rfl (fun v9 => ?_)
    refine x_iconst F dX12_isOrdered_61 ⟨by decide, by decide⟩ rfl ?_
    refine x_icmpne (pt := 77) F dX12_isOrdered_62 rfl rfl ?_ ?_
    · refine x_iload_n F dX12_isOrdered_65 rfl rfl rfl ?_
      refine x_aload_n F dX12_isOrdered_66 rfl rfl rfl ?_
      refine s_callVP F [] [vI v5] lkX12_257 mX12_circle rfl ha0 rfl hnE hn0 hd pX12_circle (tX12_circle cx.l x hi G a0 ha0) rfl rfl dX12_isOrdered_67 rfl rfl (fun v10 => ?_)
      refine x_icmpne (pt := 77) F dX12_isOrdered_70 rfl rfl ?_ ?_
      · refine x_iconst F dX12_isOrdered_73 ⟨by decide, by decide⟩ rfl ?_
        refine x_goto (pc' := 78) F dX12_isOrdered_74 rfl ?_
        exact x_zret F hnE hQ dX12_isOrdered_78
      · refine x_iconst F dX12_isOrdered_77 ⟨by decide, by decide⟩ rfl ?_
        exact x_zret F hnE hQ dX12_isOrdered_78
    · refine x_iconst F dX12_isOrdered_77 ⟨by decide, by decide⟩ rfl ?_
      exact x_zret F hnE hQ dX12_isOrdered_78
theorem dX12_rests_0 : decode cX12_rests 0 = .ok (.aload_n 0, 1) := by decide +kernel
theorem dX12_rests_1 : decode cX12_rests 1 = .ok (.iconst 0, 1) := by decide +kernel
theorem dX12_rests_2 : decode cX12_rests 2 = .ok (.putfield 1, 3) := by decide +kernel
theorem dX12_rests_5 : decode cX12_rests 5 = .ok (.aload_n 0, 1) := by decide +kernel
theorem dX12_rests_6 : decode cX12_rests 6 = .ok (.iconst 0, 1) := by decide +kernel
theorem dX12_rests_7 : decode cX12_rests 7 = .ok (.sipush 3255, 3) := by decide +kernel
theorem dX12_rests_10 : decode cX12_rests 10 = .ok (.sipush 130, 3) := by decide +kernel
theorem dX12_rests_13 : decode cX12_rests 13 = .ok (.invokevirtual 275, 3) := by decide +kernel
theorem dX12_rests_16 : decode cX12_rests 16 = .ok (.iconst 0, 1) := by decide +kernel
theorem dX12_rests_17 : decode cX12_rests 17 = .ok (.istore_n 1, 1) := by decide +kernel
theorem dX12_rests_18 : decode cX12_rests 18 = .ok (.iload_n 1, 1) := by decide +kernel
theorem dX12_rests_19 : decode cX12_rests 19 = .ok (.bipush 30, 2) := by decide +kernel
theorem dX12_rests_21 : decode cX12_rests 21 = .ok (.if_icmp .gt 44, 3) := by decide +kernel
theorem dX12_rests_24 : decode cX12_rests 24 = .ok (.aload_n 0, 1) := by decide +kernel
theorem dX12_rests_25 : decode cX12_rests 25 = .ok (.sipush 3255, 3) := by decide +kernel
theorem dX12_rests_28 : decode cX12_rests 28 = .ok (.sipush 3410, 3) := by decide +kernel
theorem dX12_rests_31 : decode cX12_rests 31 = .ok (.sipush 130, 3) := by decide +kernel
theorem dX12_rests_34 : decode cX12_rests 34 = .ok (.invokevirtual 275, 3) := by decide +kernel
theorem dX12_rests_37 : decode cX12_rests 37 = .ok (.aload_n 0, 1) := by decide +kernel
theorem dX12_rests_38 : decode cX12_rests 38 = .ok (.sipush 3255, 3) := by decide +kernel
theorem dX12_rests_41 : decode cX12_rests 41 = .ok (.invokevirtual 459, 3) := by decide +kernel
theorem dX12_rests_44 : decode cX12_rests 44 = .ok (.aload_n 0, 1) := by decide +kernel
theorem dX12_rests_45 : decode cX12_rests 45 = .ok (.sipush 3255, 3) := by decide +kernel
theorem dX12_rests_48 : decode cX12_rests 48 = .ok (.sipush 3410, 3) := by decide +kernel
theorem dX12_rests_51 : decode cX12_rests 51 = .ok (.invokevirtual 462, 3) := by decide +kernel
theorem dX12_rests_54 : decode cX12_rests 54 = .ok (.ifCond .eq 5, 3) := by decide +kernel
theorem dX12_rests_57 : decode cX12_rests 57 = .ok (.iload_n 1, 1) := by decide +kernel
theorem dX12_rests_58 : decode cX12_rests 58 = .ok (.ireturn, 1) := by decide +kernel
theorem dX12_rests_59 : decode cX12_rests 59 = .ok (.iinc 1 1, 3) := by decide +kernel
theorem dX12_rests_62 : decode cX12_rests 62 = .ok (.goto (-44), 3) := by decide +kernel
theorem dX12_rests_65 : decode cX12_rests 65 = .ok (.iconst (-1), 1) := by decide +kernel
theorem dX12_rests_66 : decode cX12_rests 66 = .ok (.ireturn, 1) := by decide +kernel
def fX12_rests (a0 : Nat) (G : Hp) : RT := bh (up G a0 0 0) fun G1 => bn (fX12_copies a0 0 3255 130 G1) fun _ G2 => bd 0 fun v3 => (lp (fun (_ : Int) (_ : Hp) => (none : RT)) 5000 (fun (rc6 : Int → Hp → RT) (v4 : Int) (G5 : Hp) => if 30 < v4 then (rt ((-1)) G5) else (bn (fX12_copies a0 3255 3410 130 G5) fun _ G7 => bn (fX12_rounds a0 3255 G7) fun _ G8 => bp (fX12_areAlike a0 3255 3410 G8) fun v9 => if v9 = 0 then (bd (iadd v4 1) fun v10 => rc6 v10 G8) else rt v4 G8))) v3 G2
set_option maxRecDepth 20000 in
set_option maxHeartbeats 4000000 in
theorem tX12_rests (l : Launch) (x : WX) (hi : Inj x.2.2) (G : Hp) (a0 : Nat) (ha0 : kd a0 = 12) : Ct l x yX12_rests cX12_rests 2 (some .int) 6 129 129 [vR a0] G (fX12_rests a0 G) := by
  refine ct_of (plainFor_of_name (by decide)) hi (Nat.le_refl _) (Nat.le_refl _) (Nat.le_of_ble_eq_true rfl) (fun cx F hd hn0 hnE hl hQ => ?_)
  subst hl
  have F : Fx cx x RX12 cX12_rests 2 (some .int) := F
  show Y cx x 2 (some .int) 129 0 [(0, vR a0)] [] G _
  unfold fX12_rests
  refine x_aload_n F dX12_rests_0 rfl rfl rfl ?_
  refine x_iconst F dX12_rests_1 ⟨by decide, by decide⟩ rfl ?_
  refine s_putI F fpX12_1 ha0 rfl dX12_rests_2 rfl (fun G1 => ?_)
  refine x_aload_n F dX12_rests_5 rfl rfl rfl ?_
  refine x_iconst F dX12_rests_6 ⟨by decide, by decide⟩ rfl ?_
  refine x_sipush F dX12_rests_7 ⟨by decide, by decide⟩ (by decide) rfl ?_
  refine x_sipush F dX12_rests_10 ⟨by decide, by decide⟩ (by decide) rfl ?_
  refine s_callVv F [vI 0, vI 3255, vI 130] [] lkX12_275 mX12_copies rfl ha0 rfl hnE hn0 hd (tX12_copies cx.l x hi G1 a0 0 3255 130 ha0) rfl rfl dX12_rests_13 rfl rfl (fun _ G2 => ?_)
  refine x_iconst F dX12_rests_16 ⟨by decide, by decide⟩ rfl ?_
  refine x_istore_n F dX12_rests_17 rfl (by decide) rfl rfl (fun v3 => ?_)
  show Y cx x _ _ _ _ [(0, vR a0), (1, vI v3)] _ _ _
  refine x_lp (fun (rc6 : Int → Hp → RT) => ∀ (v4 : Int) (G5 : Hp), Y cx x 2 (some .int) 129 18 [(0, vR a0), (1, vI v4)] [] G5 (rc6 v4 G5)) (fun _ _ => Y_none) (fun rc6 hrc6 v4 G5 => ?_) 5000 v3 G2
  refine x_iload_n F dX12_rests_18 rfl rfl rfl ?_
  refine x_bipush F dX12_rests_19 ⟨by decide, by decide⟩ (by decide) rfl ?_
  refine x_icmpgt (pt := 65) F dX12_rests_21 rfl rfl ?_ ?_
  · refine x_iconst F dX12_rests_65 ⟨by decide, by decide⟩ rfl ?_
    exact x_iret F hnE hQ dX12_rests_66
  · refine x_aload_n F dX12_rests_24 rfl rfl rfl ?_
    refine x_sipush F dX12_rests_25 ⟨by decide, by decide⟩ (by decide) rfl ?_
    refine x_sipush F dX12_rests_28 ⟨by decide, by decide⟩ (by decide) rfl ?_
    refine x_sipush F dX12_rests_31 ⟨by decide, by decide⟩ (by decide) rfl ?_
    refine s_callVv F [vI 3255, vI 3410, vI 130] [] lkX12_275 mX12_copies rfl ha0 rfl hnE hn0 hd (tX12_copies cx.l x hi G5 a0 3255 3410 130 ha0) rfl rfl dX12_rests_34 rfl rfl (fun _ G7 => ?_)
    refine x_aload_n F dX12_rests_37 rfl rfl rfl ?_
    refine x_sipush F dX12_rests_38 ⟨by decide, by decide⟩ (by decide) rfl ?_
    refine s_callVv F [vI 3255] [] lkX12_459 mX12_rounds rfl ha0 rfl hnE hn0 hd (tX12_rounds cx.l x hi G7 a0 3255 ha0) rfl rfl dX12_rests_41 rfl rfl (fun _ G8 => ?_)
    refine x_aload_n F dX12_rests_44 rfl rfl rfl ?_
    refine x_sipush F dX12_rests_45 ⟨by decide, by decide⟩ (by decide) rfl ?_
    refine x_sipush F dX12_rests_48 ⟨by decide, by decide⟩ (by decide) rfl ?_
    refine s_callVP F [vI 3255, vI 3410] [] lkX12_462 mX12_areAlike rfl ha0 rfl hnE hn0 hd pX12_areAlike (tX12_areAlike cx.l x hi G8 a0 3255 3410 ha0) rfl rfl dX12_rests_51 rfl rfl (fun v9 => ?_)
    refine x_ifeq (pt := 59) F dX12_rests_54 rfl rfl ?_ ?_
    · refine x_iinc F dX12_rests_59 rfl (by decide) rfl rfl (fun v10 => ?_)
      show Y cx x _ _ _ _ [(0, vR a0), (1, vI v10)] _ _ _
      refine x_goto (pc' := 18) F dX12_rests_62 rfl ?_
      exact hrc6 v10 G8
    · refine x_iload_n F dX12_rests_57 rfl rfl rfl ?_
      exact x_iret F hnE hQ dX12_rests_58
theorem dX12_mended_0 : decode cX12_mended 0 = .ok (.aload_n 0, 1) := by decide +kernel
theorem dX12_mended_1 : decode cX12_mended 1 = .ok (.iload_n 1, 1) := by decide +kernel
theorem dX12_mended_2 : decode cX12_mended 2 = .ok (.iload_n 2, 1) := by decide +kernel
theorem dX12_mended_3 : decode cX12_mended 3 = .ok (.invokevirtual 278, 3) := by decide +kernel
theorem dX12_mended_6 : decode cX12_mended 6 = .ok (.ifCond .eq 12, 3) := by decide +kernel
theorem dX12_mended_9 : decode cX12_mended 9 = .ok (.aload_n 0, 1) := by decide +kernel
theorem dX12_mended_10 : decode cX12_mended 10 = .ok (.iload_n 2, 1) := by decide +kernel
theorem dX12_mended_11 : decode cX12_mended 11 = .ok (.invokevirtual 319, 3) := by decide +kernel
theorem dX12_mended_14 : decode cX12_mended 14 = .ok (.iconst 3, 1) := by decide +kernel
theorem dX12_mended_15 : decode cX12_mended 15 = .ok (.if_icmp .ne 5, 3) := by decide +kernel
theorem dX12_mended_18 : decode cX12_mended 18 = .ok (.iconst (-1), 1) := by decide +kernel
theorem dX12_mended_19 : decode cX12_mended 19 = .ok (.ireturn, 1) := by decide +kernel
theorem dX12_mended_20 : decode cX12_mended 20 = .ok (.iconst 0, 1) := by decide +kernel
theorem dX12_mended_21 : decode cX12_mended 21 = .ok (.istore_n 3, 1) := by decide +kernel
theorem dX12_mended_22 : decode cX12_mended 22 = .ok (.iconst 0, 1) := by decide +kernel
theorem dX12_mended_23 : decode cX12_mended 23 = .ok (.istore 4, 2) := by decide +kernel
theorem dX12_mended_25 : decode cX12_mended 25 = .ok (.iload 4, 2) := by decide +kernel
theorem dX12_mended_27 : decode cX12_mended 27 = .ok (.bipush 8, 2) := by decide +kernel
theorem dX12_mended_29 : decode cX12_mended 29 = .ok (.if_icmp .ge 55, 3) := by decide +kernel
theorem dX12_mended_32 : decode cX12_mended 32 = .ok (.aload_n 0, 1) := by decide +kernel
theorem dX12_mended_33 : decode cX12_mended 33 = .ok (.iload_n 1, 1) := by decide +kernel
theorem dX12_mended_34 : decode cX12_mended 34 = .ok (.iload_n 2, 1) := by decide +kernel
theorem dX12_mended_35 : decode cX12_mended 35 = .ok (.iload 4, 2) := by decide +kernel
theorem dX12_mended_37 : decode cX12_mended 37 = .ok (.invokevirtual 304, 3) := by decide +kernel
theorem dX12_mended_40 : decode cX12_mended 40 = .ok (.istore 5, 2) := by decide +kernel
theorem dX12_mended_42 : decode cX12_mended 42 = .ok (.aload_n 0, 1) := by decide +kernel
theorem dX12_mended_43 : decode cX12_mended 43 = .ok (.iload_n 1, 1) := by decide +kernel
theorem dX12_mended_44 : decode cX12_mended 44 = .ok (.iload_n 2, 1) := by decide +kernel
theorem dX12_mended_45 : decode cX12_mended 45 = .ok (.iload 4, 2) := by decide +kernel
theorem dX12_mended_47 : decode cX12_mended 47 = .ok (.invokevirtual 355, 3) := by decide +kernel
theorem dX12_mended_50 : decode cX12_mended 50 = .ok (.istore 6, 2) := by decide +kernel
theorem dX12_mended_52 : decode cX12_mended 52 = .ok (.iload_n 3, 1) := by decide +kernel
theorem dX12_mended_53 : decode cX12_mended 53 = .ok (.iload 6, 2) := by decide +kernel
theorem dX12_mended_55 : decode cX12_mended 55 = .ok (.ifCond .eq 20, 3) := by decide +kernel
theorem dX12_mended_58 : decode cX12_mended 58 = .ok (.aload_n 0, 1) := by decide +kernel
theorem dX12_mended_59 : decode cX12_mended 59 = .ok (.iload_n 1, 1) := by decide +kernel
theorem dX12_mended_60 : decode cX12_mended 60 = .ok (.iload_n 2, 1) := by decide +kernel
theorem dX12_mended_61 : decode cX12_mended 61 = .ok (.iload 4, 2) := by decide +kernel
theorem dX12_mended_63 : decode cX12_mended 63 = .ok (.invokevirtual 304, 3) := by decide +kernel
theorem dX12_mended_66 : decode cX12_mended 66 = .ok (.iload 5, 2) := by decide +kernel
theorem dX12_mended_68 : decode cX12_mended 68 = .ok (.if_icmp .eq 7, 3) := by decide +kernel
theorem dX12_mended_71 : decode cX12_mended 71 = .ok (.iconst 1, 1) := by decide +kernel
theorem dX12_mended_72 : decode cX12_mended 72 = .ok (.goto 4, 3) := by decide +kernel
theorem dX12_mended_75 : decode cX12_mended 75 = .ok (.iconst 0, 1) := by decide +kernel
theorem dX12_mended_76 : decode cX12_mended 76 = .ok (.iadd, 1) := by decide +kernel
theorem dX12_mended_77 : decode cX12_mended 77 = .ok (.istore_n 3, 1) := by decide +kernel
theorem dX12_mended_78 : decode cX12_mended 78 = .ok (.iinc 4 1, 3) := by decide +kernel
theorem dX12_mended_81 : decode cX12_mended 81 = .ok (.goto (-56), 3) := by decide +kernel
theorem dX12_mended_84 : decode cX12_mended 84 = .ok (.iload_n 3, 1) := by decide +kernel
theorem dX12_mended_85 : decode cX12_mended 85 = .ok (.ireturn, 1) := by decide +kernel
def fX12_mended (a0 : Nat) (a1 : Int) (a2 : Int) (G : Hp) : RT := bp (fX12_isIn a0 a1 a2 G) fun v1 => if v1 = 0 then (rt ((-1)) G) else (bp (fX12_kindOf a0 a2 G) fun v2 => if v2 = 3 then (rt ((-1)) G) else (bd 0 fun v3 => bd 0 fun v4 => (lp (fun (_ : Int) (_ : Int) (_ : Hp) => (none : RT)) 5000 (fun (rc8 : Int → Int → Hp → RT) (v5 : Int) (v6 : Int) (G7 : Hp) => if v6 < 8 then (bp (fX12_fingerOf a0 a1 a2 v6 G7) fun v9 => bd v9 fun v10 => bn (fX12_fixed a0 a1 a2 v6 G7) fun v11 G12 => bd v11 fun v13 => jn (fun (v14 : Int) => bd (iadd v5 v14) fun v16 => bd (iadd v6 1) fun v17 => rc8 v16 v17 G12) fun (K15 : Int → RT) => jn (K15 0) fun (K18 : RT) => if v13 = 0 then K18 else (bp (fX12_fingerOf a0 a1 a2 v6 G12) fun v19 => if v19 = v10 then K18 else K15 1)) else rt v5 G7)) v3 v4 G))
set_option maxRecDepth 20000 in
set_option maxHeartbeats 4000000 in
theorem tX12_mended (l : Launch) (x : WX) (hi : Inj x.2.2) (G : Hp) (a0 : Nat) (a1 : Int) (a2 : Int) (ha0 : kd a0 = 12) : Ct l x yX12_mended cX12_mended 7 (some .int) 7 129 129 [vR a0, vI a1, vI a2] G (fX12_mended a0 a1 a2 G) := by
  refine ct_of (plainFor_of_name (by decide)) hi (Nat.le_refl _) (Nat.le_refl _) (Nat.le_of_ble_eq_true rfl) (fun cx F hd hn0 hnE hl hQ => ?_)
  subst hl
  have F : Fx cx x RX12 cX12_mended 7 (some .int) := F
  show Y cx x 7 (some .int) 129 0 [(0, vR a0), (1, vI a1), (2, vI a2)] [] G _
  unfold fX12_mended
  refine x_aload_n F dX12_mended_0 rfl rfl rfl ?_
  refine x_iload_n F dX12_mended_1 rfl rfl rfl ?_
  refine x_iload_n F dX12_mended_2 rfl rfl rfl ?_
  refine s_callVP F [vI a1, vI a2] [] lkX12_278 mX12_isIn rfl ha0 rfl hnE hn0 hd pX12_isIn (tX12_isIn cx.l x hi G a0 a1 a2 ha0) rfl rfl dX12_mended_3 rfl rfl (fun v1 => ?_)
  refine x_ifeq (pt := 18) F dX12_mended_6 rfl rfl ?_ ?_
  · refine x_iconst F dX12_mended_18 ⟨by decide, by decide⟩ rfl ?_
    exact x_iret F hnE hQ dX12_mended_19
  · refine x_aload_n F dX12_mended_9 rfl rfl rfl ?_
    refine x_iload_n F dX12_mended_10 rfl rfl rfl ?_
    refine s_callVP F [vI a2] [] lkX12_319 mX12_kindOf rfl ha0 rfl hnE hn0 hd pX12_kindOf (tX12_kindOf cx.l x hi G a0 a2 ha0) rfl rfl dX12_mended_11 rfl rfl (fun v2 => ?_)
    refine x_iconst F dX12_mended_14 ⟨by decide, by decide⟩ rfl ?_
    refine x_icmpne (pt := 20) F dX12_mended_15 rfl rfl ?_ ?_
    · refine x_iconst F dX12_mended_18 ⟨by decide, by decide⟩ rfl ?_
      exact x_iret F hnE hQ dX12_mended_19
    · refine x_iconst F dX12_mended_20 ⟨by decide, by decide⟩ rfl ?_
      refine x_istore_n F dX12_mended_21 rfl (by decide) rfl rfl (fun v3 => ?_)
      show Y cx x _ _ _ _ [(0, vR a0), (1, vI a1), (2, vI a2), (3, vI v3)] _ _ _
      refine x_iconst F dX12_mended_22 ⟨by decide, by decide⟩ rfl ?_
      refine x_istore F dX12_mended_23 (by decide) rfl rfl (fun v4 => ?_)
      show Y cx x _ _ _ _ [(0, vR a0), (1, vI a1), (2, vI a2), (3, vI v3), (4, vI v4)] _ _ _
      refine x_lp (fun (rc8 : Int → Int → Hp → RT) => ∀ (v5 : Int) (v6 : Int) (G7 : Hp), Y cx x 7 (some .int) 129 25 [(0, vR a0), (1, vI a1), (2, vI a2), (3, vI v5), (4, vI v6)] [] G7 (rc8 v5 v6 G7)) (fun _ _ _ => Y_none) (fun rc8 hrc8 v5 v6 G7 => ?_) 5000 v3 v4 G
      refine x_iload F dX12_mended_25 rfl rfl ?_
      refine x_bipush F dX12_mended_27 ⟨by decide, by decide⟩ (by decide) rfl ?_
      refine x_icmpge (pt := 84) F dX12_mended_29 rfl rfl ?_ ?_
      · refine x_aload_n F dX12_mended_32 rfl rfl rfl ?_
        refine x_iload_n F dX12_mended_33 rfl rfl rfl ?_
        refine x_iload_n F dX12_mended_34 rfl rfl rfl ?_
        refine x_iload F dX12_mended_35 rfl rfl ?_
        refine s_callVP F [vI a1, vI a2, vI v6] [] lkX12_304 mX12_fingerOf rfl ha0 rfl hnE hn0 hd pX12_fingerOf (tX12_fingerOf cx.l x hi G7 a0 a1 a2 v6 ha0) rfl rfl dX12_mended_37 rfl rfl (fun v9 => ?_)
        refine x_istore F dX12_mended_40 (by decide) rfl rfl (fun v10 => ?_)
        show Y cx x _ _ _ _ [(0, vR a0), (1, vI a1), (2, vI a2), (3, vI v5), (4, vI v6), (5, vI v10)] _ _ _
        refine x_aload_n F dX12_mended_42 rfl rfl rfl ?_
        refine x_iload_n F dX12_mended_43 rfl rfl rfl ?_
        refine x_iload_n F dX12_mended_44 rfl rfl rfl ?_
        refine x_iload F dX12_mended_45 rfl rfl ?_
        refine s_callV F [vI a1, vI a2, vI v6] [] lkX12_355 mX12_fixed rfl ha0 rfl hnE hn0 hd (tX12_fixed cx.l x hi G7 a0 a1 a2 v6 ha0) rfl rfl dX12_mended_47 rfl rfl (fun v11 G12 => ?_)
        refine x_istore F dX12_mended_50 (by decide) rfl rfl (fun v13 => ?_)
        show Y cx x _ _ _ _ [(0, vR a0), (1, vI a1), (2, vI a2), (3, vI v5), (4, vI v6), (5, vI v10), (6, vI v13)] _ _ _
        refine x_iload_n F dX12_mended_52 rfl rfl rfl ?_
        refine x_iload F dX12_mended_53 rfl rfl ?_
        refine x_jn (fun (K15 : Int → RT) => ∀ (v14 : Int), Y cx x 7 (some .int) 129 76 [(0, vR a0), (1, vI a1), (2, vI a2), (4, vI v6)] [vI v14, vI v5] G12 (K15 v14)) ?_ (fun K15 hK15 => ?_)
        · intro v14
          refine x_iadd F dX12_mended_76 rfl ?_
          refine x_istore_n F dX12_mended_77 rfl (by decide) rfl rfl (fun v16 => ?_)
          show Y cx x _ _ _ _ [(0, vR a0), (1, vI a1), (2, vI a2), (4, vI v6), (3, vI v16)] _ _ _
          refine x_iinc F dX12_mended_78 rfl (by decide) rfl rfl (fun v17 => ?_)
          show Y cx x _ _ _ _ [(0, vR a0), (1, vI a1), (2, vI a2), (4, vI v17), (3, vI v16)] _ _ _
          refine x_goto (pc' := 25) F dX12_mended_81 rfl ?_
          refine x_dp (L' := [(0, vR a0), (1, vI a1), (2, vI a2), (3, vI v16), (4, vI v17)]) [0, 1, 2, 4, 3] rfl ?_
          exact hrc8 v16 v17 G12
        · refine x_jn (fun (K18 : RT) => Y cx x 7 (some .int) 129 75 [(0, vR a0), (1, vI a1), (2, vI a2), (4, vI v6)] [vI v5] G12 K18) ?_ (fun K18 hK18 => ?_)
          · refine x_iconst F dX12_mended_75 ⟨by decide, by decide⟩ rfl ?_
            exact hK15 0
          · refine x_ifeq (pt := 75) F dX12_mended_55 rfl rfl ?_ ?_
            · refine x_dp (L' := [(0, vR a0), (1, vI a1), (2, vI a2), (4, vI v6)]) [0, 1, 2, 4] rfl ?_
              exact hK18
            · refine x_aload_n F dX12_mended_58 rfl rfl rfl ?_
              refine x_iload_n F dX12_mended_59 rfl rfl rfl ?_
              refine x_iload_n F dX12_mended_60 rfl rfl rfl ?_
              refine x_iload F dX12_mended_61 rfl rfl ?_
              refine s_callVP F [vI a1, vI a2, vI v6] [vI v5] lkX12_304 mX12_fingerOf rfl ha0 rfl hnE hn0 hd pX12_fingerOf (tX12_fingerOf cx.l x hi G12 a0 a1 a2 v6 ha0) rfl rfl dX12_mended_63 rfl rfl (fun v19 => ?_)
              refine x_iload F dX12_mended_66 rfl rfl ?_
              refine x_icmpeq (pt := 75) F dX12_mended_68 rfl rfl ?_ ?_
              · refine x_dp (L' := [(0, vR a0), (1, vI a1), (2, vI a2), (4, vI v6)]) [0, 1, 2, 4] rfl ?_
                exact hK18
              · refine x_iconst F dX12_mended_71 ⟨by decide, by decide⟩ rfl ?_
                refine x_goto (pc' := 76) F dX12_mended_72 rfl ?_
                refine x_dp (L' := [(0, vR a0), (1, vI a1), (2, vI a2), (4, vI v6)]) [0, 1, 2, 4] rfl ?_
                exact hK15 1
      · refine x_iload_n F dX12_mended_84 rfl rfl rfl ?_
        exact x_iret F hnE hQ dX12_mended_85
theorem dX12_acts_0 : decode cX12_acts 0 = .ok (.iload_n 2, 1) := by decide +kernel
theorem dX12_acts_1 : decode cX12_acts 1 = .ok (.tableswitch 149 0 7 #[47, 54, 71, 78, 93, 108, 123, 132], 47) := by decide +kernel
theorem dX12_acts_48 : decode cX12_acts 48 = .ok (.aload_n 0, 1) := by decide +kernel
theorem dX12_acts_49 : decode cX12_acts 49 = .ok (.iload_n 1, 1) := by decide +kernel
theorem dX12_acts_50 : decode cX12_acts 50 = .ok (.iload_n 3, 1) := by decide +kernel
theorem dX12_acts_51 : decode cX12_acts 51 = .ok (.invokevirtual 359, 3) := by decide +kernel
theorem dX12_acts_54 : decode cX12_acts 54 = .ok (.ireturn, 1) := by decide +kernel
theorem dX12_acts_55 : decode cX12_acts 55 = .ok (.aload_n 0, 1) := by decide +kernel
theorem dX12_acts_56 : decode cX12_acts 56 = .ok (.iload_n 1, 1) := by decide +kernel
theorem dX12_acts_57 : decode cX12_acts 57 = .ok (.iload_n 3, 1) := by decide +kernel
theorem dX12_acts_58 : decode cX12_acts 58 = .ok (.iload 4, 2) := by decide +kernel
theorem dX12_acts_60 : decode cX12_acts 60 = .ok (.invokevirtual 362, 3) := by decide +kernel
theorem dX12_acts_63 : decode cX12_acts 63 = .ok (.ifCond .lt 7, 3) := by decide +kernel
theorem dX12_acts_66 : decode cX12_acts 66 = .ok (.iconst 1, 1) := by decide +kernel
theorem dX12_acts_67 : decode cX12_acts 67 = .ok (.goto 4, 3) := by decide +kernel
theorem dX12_acts_70 : decode cX12_acts 70 = .ok (.iconst 0, 1) := by decide +kernel
theorem dX12_acts_71 : decode cX12_acts 71 = .ok (.ireturn, 1) := by decide +kernel
theorem dX12_acts_72 : decode cX12_acts 72 = .ok (.aload_n 0, 1) := by decide +kernel
theorem dX12_acts_73 : decode cX12_acts 73 = .ok (.iload_n 1, 1) := by decide +kernel
theorem dX12_acts_74 : decode cX12_acts 74 = .ok (.iload_n 3, 1) := by decide +kernel
theorem dX12_acts_75 : decode cX12_acts 75 = .ok (.invokevirtual 365, 3) := by decide +kernel
theorem dX12_acts_78 : decode cX12_acts 78 = .ok (.ireturn, 1) := by decide +kernel
theorem dX12_acts_79 : decode cX12_acts 79 = .ok (.aload_n 0, 1) := by decide +kernel
theorem dX12_acts_80 : decode cX12_acts 80 = .ok (.iload_n 1, 1) := by decide +kernel
theorem dX12_acts_81 : decode cX12_acts 81 = .ok (.iload_n 3, 1) := by decide +kernel
theorem dX12_acts_82 : decode cX12_acts 82 = .ok (.invokevirtual 368, 3) := by decide +kernel
theorem dX12_acts_85 : decode cX12_acts 85 = .ok (.ifCond .lt 7, 3) := by decide +kernel
theorem dX12_acts_88 : decode cX12_acts 88 = .ok (.iconst 1, 1) := by decide +kernel
theorem dX12_acts_89 : decode cX12_acts 89 = .ok (.goto 4, 3) := by decide +kernel
theorem dX12_acts_92 : decode cX12_acts 92 = .ok (.iconst 0, 1) := by decide +kernel
theorem dX12_acts_93 : decode cX12_acts 93 = .ok (.ireturn, 1) := by decide +kernel
theorem dX12_acts_94 : decode cX12_acts 94 = .ok (.aload_n 0, 1) := by decide +kernel
theorem dX12_acts_95 : decode cX12_acts 95 = .ok (.iload_n 1, 1) := by decide +kernel
theorem dX12_acts_96 : decode cX12_acts 96 = .ok (.iload_n 3, 1) := by decide +kernel
theorem dX12_acts_97 : decode cX12_acts 97 = .ok (.invokevirtual 371, 3) := by decide +kernel
theorem dX12_acts_100 : decode cX12_acts 100 = .ok (.ifCond .lt 7, 3) := by decide +kernel
theorem dX12_acts_103 : decode cX12_acts 103 = .ok (.iconst 1, 1) := by decide +kernel
theorem dX12_acts_104 : decode cX12_acts 104 = .ok (.goto 4, 3) := by decide +kernel
theorem dX12_acts_107 : decode cX12_acts 107 = .ok (.iconst 0, 1) := by decide +kernel
theorem dX12_acts_108 : decode cX12_acts 108 = .ok (.ireturn, 1) := by decide +kernel
theorem dX12_acts_109 : decode cX12_acts 109 = .ok (.aload_n 0, 1) := by decide +kernel
theorem dX12_acts_110 : decode cX12_acts 110 = .ok (.iload_n 1, 1) := by decide +kernel
theorem dX12_acts_111 : decode cX12_acts 111 = .ok (.iload_n 3, 1) := by decide +kernel
theorem dX12_acts_112 : decode cX12_acts 112 = .ok (.invokevirtual 374, 3) := by decide +kernel
theorem dX12_acts_115 : decode cX12_acts 115 = .ok (.ifCond .lt 7, 3) := by decide +kernel
theorem dX12_acts_118 : decode cX12_acts 118 = .ok (.iconst 1, 1) := by decide +kernel
theorem dX12_acts_119 : decode cX12_acts 119 = .ok (.goto 4, 3) := by decide +kernel
theorem dX12_acts_122 : decode cX12_acts 122 = .ok (.iconst 0, 1) := by decide +kernel
theorem dX12_acts_123 : decode cX12_acts 123 = .ok (.ireturn, 1) := by decide +kernel
theorem dX12_acts_124 : decode cX12_acts 124 = .ok (.aload_n 0, 1) := by decide +kernel
theorem dX12_acts_125 : decode cX12_acts 125 = .ok (.iload_n 1, 1) := by decide +kernel
theorem dX12_acts_126 : decode cX12_acts 126 = .ok (.iload_n 3, 1) := by decide +kernel
theorem dX12_acts_127 : decode cX12_acts 127 = .ok (.iload 4, 2) := by decide +kernel
theorem dX12_acts_129 : decode cX12_acts 129 = .ok (.invokevirtual 355, 3) := by decide +kernel
theorem dX12_acts_132 : decode cX12_acts 132 = .ok (.ireturn, 1) := by decide +kernel
theorem dX12_acts_133 : decode cX12_acts 133 = .ok (.aload_n 0, 1) := by decide +kernel
theorem dX12_acts_134 : decode cX12_acts 134 = .ok (.iload_n 1, 1) := by decide +kernel
theorem dX12_acts_135 : decode cX12_acts 135 = .ok (.iload_n 3, 1) := by decide +kernel
theorem dX12_acts_136 : decode cX12_acts 136 = .ok (.iload 4, 2) := by decide +kernel
theorem dX12_acts_138 : decode cX12_acts 138 = .ok (.invokevirtual 377, 3) := by decide +kernel
theorem dX12_acts_141 : decode cX12_acts 141 = .ok (.ifCond .lt 7, 3) := by decide +kernel
theorem dX12_acts_144 : decode cX12_acts 144 = .ok (.iconst 1, 1) := by decide +kernel
theorem dX12_acts_145 : decode cX12_acts 145 = .ok (.goto 4, 3) := by decide +kernel
theorem dX12_acts_148 : decode cX12_acts 148 = .ok (.iconst 0, 1) := by decide +kernel
theorem dX12_acts_149 : decode cX12_acts 149 = .ok (.ireturn, 1) := by decide +kernel
theorem dX12_acts_150 : decode cX12_acts 150 = .ok (.aload_n 0, 1) := by decide +kernel
theorem dX12_acts_151 : decode cX12_acts 151 = .ok (.iload_n 1, 1) := by decide +kernel
theorem dX12_acts_152 : decode cX12_acts 152 = .ok (.iload_n 3, 1) := by decide +kernel
theorem dX12_acts_153 : decode cX12_acts 153 = .ok (.invokevirtual 380, 3) := by decide +kernel
theorem dX12_acts_156 : decode cX12_acts 156 = .ok (.ifCond .lt 7, 3) := by decide +kernel
theorem dX12_acts_159 : decode cX12_acts 159 = .ok (.iconst 1, 1) := by decide +kernel
theorem dX12_acts_160 : decode cX12_acts 160 = .ok (.goto 4, 3) := by decide +kernel
theorem dX12_acts_163 : decode cX12_acts 163 = .ok (.iconst 0, 1) := by decide +kernel
theorem dX12_acts_164 : decode cX12_acts 164 = .ok (.ireturn, 1) := by decide +kernel
def fX12_acts (a0 : Nat) (a1 : Int) (a2 : Int) (a3 : Int) (a4 : Int) (G : Hp) : RT := if a2 = 0 then (bn (fX12_begun a0 a1 a3 G) fun v2 G3 => rz v2 G3) else (if a2 = 1 then (bn (fX12_joined a0 a1 a3 a4 G) fun v5 G6 => if v5 < 0 then rz 0 G6 else rz 1 G6) else (if a2 = 2 then (bn (fX12_left a0 a1 a3 G) fun v8 G9 => rz v8 G9) else (if a2 = 3 then (bn (fX12_failed a0 a1 a3 G) fun v11 G12 => if v11 < 0 then rz 0 G12 else rz 1 G12) else (if a2 = 4 then (bn (fX12_tidied a0 a1 a3 G) fun v14 G15 => if v14 < 0 then rz 0 G15 else rz 1 G15) else (if a2 = 5 then (bn (fX12_flushed a0 a1 a3 G) fun v17 G18 => if v17 < 0 then rz 0 G18 else rz 1 G18) else (if a2 = 6 then (bn (fX12_fixed a0 a1 a3 a4 G) fun v20 G21 => rz v20 G21) else (if a2 = 7 then (bn (fX12_putBy a0 a1 a3 a4 G) fun v23 G24 => if v23 < 0 then rz 0 G24 else rz 1 G24) else (bn (fX12_handed a0 a1 a3 G) fun v25 G26 => if v25 < 0 then rz 0 G26 else rz 1 G26))))))))
set_option maxRecDepth 20000 in
set_option maxHeartbeats 4000000 in
theorem tX12_acts (l : Launch) (x : WX) (hi : Inj x.2.2) (G : Hp) (a0 : Nat) (a1 : Int) (a2 : Int) (a3 : Int) (a4 : Int) (ha0 : kd a0 = 12) : Ct l x yX12_acts cX12_acts 5 (some .boolean) 7 129 129 [vR a0, vI a1, vI a2, vI a3, vI a4] G (fX12_acts a0 a1 a2 a3 a4 G) := by
  refine ct_of (plainFor_of_name (by decide)) hi (Nat.le_refl _) (Nat.le_refl _) (Nat.le_of_ble_eq_true rfl) (fun cx F hd hn0 hnE hl hQ => ?_)
  subst hl
  have F : Fx cx x RX12 cX12_acts 5 (some .boolean) := F
  show Y cx x 5 (some .boolean) 129 0 [(0, vR a0), (1, vI a1), (2, vI a2), (3, vI a3), (4, vI a4)] [] G _
  unfold fX12_acts
  refine x_iload_n F dX12_acts_0 rfl rfl rfl ?_
  refine x_ite (fun h1 => ?_) (fun h1 => ?_)
  · refine x_tabIn (off := 47) (pc' := 48) F dX12_acts_1 (by omega) (by omega) (by rw [h1]; rfl) rfl ?_
    refine x_aload_n F dX12_acts_48 rfl rfl rfl ?_
    refine x_iload_n F dX12_acts_49 rfl rfl rfl ?_
    refine x_iload_n F dX12_acts_50 rfl rfl rfl ?_
    refine s_callV F [vI a1, vI a3] [] lkX12_359 mX12_begun rfl ha0 rfl hnE hn0 hd (tX12_begun cx.l x hi G a0 a1 a3 ha0) rfl rfl dX12_acts_51 rfl rfl (fun v2 G3 => ?_)
    exact x_zret F hnE hQ dX12_acts_54
  · refine x_ite (fun h4 => ?_) (fun h4 => ?_)
    · refine x_tabIn (off := 54) (pc' := 55) F dX12_acts_1 (by omega) (by omega) (by rw [h4]; rfl) rfl ?_
      refine x_aload_n F dX12_acts_55 rfl rfl rfl ?_
      refine x_iload_n F dX12_acts_56 rfl rfl rfl ?_
      refine x_iload_n F dX12_acts_57 rfl rfl rfl ?_
      refine x_iload F dX12_acts_58 rfl rfl ?_
      refine s_callV F [vI a1, vI a3, vI a4] [] lkX12_362 mX12_joined rfl ha0 rfl hnE hn0 hd (tX12_joined cx.l x hi G a0 a1 a3 a4 ha0) rfl rfl dX12_acts_60 rfl rfl (fun v5 G6 => ?_)
      refine x_iflt (pt := 70) F dX12_acts_63 rfl rfl ?_ ?_
      · refine x_iconst F dX12_acts_70 ⟨by decide, by decide⟩ rfl ?_
        exact x_zret F hnE hQ dX12_acts_71
      · refine x_iconst F dX12_acts_66 ⟨by decide, by decide⟩ rfl ?_
        refine x_goto (pc' := 71) F dX12_acts_67 rfl ?_
        exact x_zret F hnE hQ dX12_acts_71
    · refine x_ite (fun h7 => ?_) (fun h7 => ?_)
      · refine x_tabIn (off := 71) (pc' := 72) F dX12_acts_1 (by omega) (by omega) (by rw [h7]; rfl) rfl ?_
        refine x_aload_n F dX12_acts_72 rfl rfl rfl ?_
        refine x_iload_n F dX12_acts_73 rfl rfl rfl ?_
        refine x_iload_n F dX12_acts_74 rfl rfl rfl ?_
        refine s_callV F [vI a1, vI a3] [] lkX12_365 mX12_left rfl ha0 rfl hnE hn0 hd (tX12_left cx.l x hi G a0 a1 a3 ha0) rfl rfl dX12_acts_75 rfl rfl (fun v8 G9 => ?_)
        exact x_zret F hnE hQ dX12_acts_78
      · refine x_ite (fun h10 => ?_) (fun h10 => ?_)
        · refine x_tabIn (off := 78) (pc' := 79) F dX12_acts_1 (by omega) (by omega) (by rw [h10]; rfl) rfl ?_
          refine x_aload_n F dX12_acts_79 rfl rfl rfl ?_
          refine x_iload_n F dX12_acts_80 rfl rfl rfl ?_
          refine x_iload_n F dX12_acts_81 rfl rfl rfl ?_
          refine s_callV F [vI a1, vI a3] [] lkX12_368 mX12_failed rfl ha0 rfl hnE hn0 hd (tX12_failed cx.l x hi G a0 a1 a3 ha0) rfl rfl dX12_acts_82 rfl rfl (fun v11 G12 => ?_)
          refine x_iflt (pt := 92) F dX12_acts_85 rfl rfl ?_ ?_
          · refine x_iconst F dX12_acts_92 ⟨by decide, by decide⟩ rfl ?_
            exact x_zret F hnE hQ dX12_acts_93
          · refine x_iconst F dX12_acts_88 ⟨by decide, by decide⟩ rfl ?_
            refine x_goto (pc' := 93) F dX12_acts_89 rfl ?_
            exact x_zret F hnE hQ dX12_acts_93
        · refine x_ite (fun h13 => ?_) (fun h13 => ?_)
          · refine x_tabIn (off := 93) (pc' := 94) F dX12_acts_1 (by omega) (by omega) (by rw [h13]; rfl) rfl ?_
            refine x_aload_n F dX12_acts_94 rfl rfl rfl ?_
            refine x_iload_n F dX12_acts_95 rfl rfl rfl ?_
            refine x_iload_n F dX12_acts_96 rfl rfl rfl ?_
            refine s_callV F [vI a1, vI a3] [] lkX12_371 mX12_tidied rfl ha0 rfl hnE hn0 hd (tX12_tidied cx.l x hi G a0 a1 a3 ha0) rfl rfl dX12_acts_97 rfl rfl (fun v14 G15 => ?_)
            refine x_iflt (pt := 107) F dX12_acts_100 rfl rfl ?_ ?_
            · refine x_iconst F dX12_acts_107 ⟨by decide, by decide⟩ rfl ?_
              exact x_zret F hnE hQ dX12_acts_108
            · refine x_iconst F dX12_acts_103 ⟨by decide, by decide⟩ rfl ?_
              refine x_goto (pc' := 108) F dX12_acts_104 rfl ?_
              exact x_zret F hnE hQ dX12_acts_108
          · refine x_ite (fun h16 => ?_) (fun h16 => ?_)
            · refine x_tabIn (off := 108) (pc' := 109) F dX12_acts_1 (by omega) (by omega) (by rw [h16]; rfl) rfl ?_
              refine x_aload_n F dX12_acts_109 rfl rfl rfl ?_
              refine x_iload_n F dX12_acts_110 rfl rfl rfl ?_
              refine x_iload_n F dX12_acts_111 rfl rfl rfl ?_
              refine s_callV F [vI a1, vI a3] [] lkX12_374 mX12_flushed rfl ha0 rfl hnE hn0 hd (tX12_flushed cx.l x hi G a0 a1 a3 ha0) rfl rfl dX12_acts_112 rfl rfl (fun v17 G18 => ?_)
              refine x_iflt (pt := 122) F dX12_acts_115 rfl rfl ?_ ?_
              · refine x_iconst F dX12_acts_122 ⟨by decide, by decide⟩ rfl ?_
                exact x_zret F hnE hQ dX12_acts_123
              · refine x_iconst F dX12_acts_118 ⟨by decide, by decide⟩ rfl ?_
                refine x_goto (pc' := 123) F dX12_acts_119 rfl ?_
                exact x_zret F hnE hQ dX12_acts_123
            · refine x_ite (fun h19 => ?_) (fun h19 => ?_)
              · refine x_tabIn (off := 123) (pc' := 124) F dX12_acts_1 (by omega) (by omega) (by rw [h19]; rfl) rfl ?_
                refine x_aload_n F dX12_acts_124 rfl rfl rfl ?_
                refine x_iload_n F dX12_acts_125 rfl rfl rfl ?_
                refine x_iload_n F dX12_acts_126 rfl rfl rfl ?_
                refine x_iload F dX12_acts_127 rfl rfl ?_
                refine s_callV F [vI a1, vI a3, vI a4] [] lkX12_355 mX12_fixed rfl ha0 rfl hnE hn0 hd (tX12_fixed cx.l x hi G a0 a1 a3 a4 ha0) rfl rfl dX12_acts_129 rfl rfl (fun v20 G21 => ?_)
                exact x_zret F hnE hQ dX12_acts_132
              · refine x_ite (fun h22 => ?_) (fun h22 => ?_)
                · refine x_tabIn (off := 132) (pc' := 133) F dX12_acts_1 (by omega) (by omega) (by rw [h22]; rfl) rfl ?_
                  refine x_aload_n F dX12_acts_133 rfl rfl rfl ?_
                  refine x_iload_n F dX12_acts_134 rfl rfl rfl ?_
                  refine x_iload_n F dX12_acts_135 rfl rfl rfl ?_
                  refine x_iload F dX12_acts_136 rfl rfl ?_
                  refine s_callV F [vI a1, vI a3, vI a4] [] lkX12_377 mX12_putBy rfl ha0 rfl hnE hn0 hd (tX12_putBy cx.l x hi G a0 a1 a3 a4 ha0) rfl rfl dX12_acts_138 rfl rfl (fun v23 G24 => ?_)
                  refine x_iflt (pt := 148) F dX12_acts_141 rfl rfl ?_ ?_
                  · refine x_iconst F dX12_acts_148 ⟨by decide, by decide⟩ rfl ?_
                    exact x_zret F hnE hQ dX12_acts_149
                  · refine x_iconst F dX12_acts_144 ⟨by decide, by decide⟩ rfl ?_
                    refine x_goto (pc' := 149) F dX12_acts_145 rfl ?_
                    exact x_zret F hnE hQ dX12_acts_149
                · refine x_tabOut (pc' := 150) F dX12_acts_1 (by omega) rfl ?_
                  refine x_aload_n F dX12_acts_150 rfl rfl rfl ?_
                  refine x_iload_n F dX12_acts_151 rfl rfl rfl ?_
                  refine x_iload_n F dX12_acts_152 rfl rfl rfl ?_
                  refine s_callV F [vI a1, vI a3] [] lkX12_380 mX12_handed rfl ha0 rfl hnE hn0 hd (tX12_handed cx.l x hi G a0 a1 a3 ha0) rfl rfl dX12_acts_153 rfl rfl (fun v25 G26 => ?_)
                  refine x_iflt (pt := 163) F dX12_acts_156 rfl rfl ?_ ?_
                  · refine x_iconst F dX12_acts_163 ⟨by decide, by decide⟩ rfl ?_
                    exact x_zret F hnE hQ dX12_acts_164
                  · refine x_iconst F dX12_acts_159 ⟨by decide, by decide⟩ rfl ?_
                    refine x_goto (pc' := 164) F dX12_acts_160 rfl ?_
                    exact x_zret F hnE hQ dX12_acts_164
theorem dX12_join_0 : decode cX12_join 0 = .ok (.aload_n 0, 1) := by decide +kernel
theorem dX12_join_1 : decode cX12_join 1 = .ok (.iconst 0, 1) := by decide +kernel
theorem dX12_join_2 : decode cX12_join 2 = .ok (.putfield 1, 3) := by decide +kernel
theorem dX12_join_5 : decode cX12_join 5 = .ok (.aload_n 0, 1) := by decide +kernel
theorem dX12_join_6 : decode cX12_join 6 = .ok (.invokevirtual 383, 3) := by decide +kernel
theorem dX12_join_9 : decode cX12_join 9 = .ok (.aload_n 0, 1) := by decide +kernel
theorem dX12_join_10 : decode cX12_join 10 = .ok (.iload_n 1, 1) := by decide +kernel
theorem dX12_join_11 : decode cX12_join 11 = .ok (.invokevirtual 386, 3) := by decide +kernel
theorem dX12_join_14 : decode cX12_join 14 = .ok (.ifCond .eq 21, 3) := by decide +kernel
theorem dX12_join_17 : decode cX12_join 17 = .ok (.aload_n 0, 1) := by decide +kernel
theorem dX12_join_18 : decode cX12_join 18 = .ok (.iload_n 2, 1) := by decide +kernel
theorem dX12_join_19 : decode cX12_join 19 = .ok (.invokevirtual 386, 3) := by decide +kernel
theorem dX12_join_22 : decode cX12_join 22 = .ok (.ifCond .eq 13, 3) := by decide +kernel
theorem dX12_join_25 : decode cX12_join 25 = .ok (.aload_n 0, 1) := by decide +kernel
theorem dX12_join_26 : decode cX12_join 26 = .ok (.iconst 0, 1) := by decide +kernel
theorem dX12_join_27 : decode cX12_join 27 = .ok (.iload_n 1, 1) := by decide +kernel
theorem dX12_join_28 : decode cX12_join 28 = .ok (.iload_n 2, 1) := by decide +kernel
theorem dX12_join_29 : decode cX12_join 29 = .ok (.invokevirtual 362, 3) := by decide +kernel
theorem dX12_join_32 : decode cX12_join 32 = .ok (.goto 4, 3) := by decide +kernel
theorem dX12_join_35 : decode cX12_join 35 = .ok (.iconst (-1), 1) := by decide +kernel
theorem dX12_join_36 : decode cX12_join 36 = .ok (.istore_n 3, 1) := by decide +kernel
theorem dX12_join_37 : decode cX12_join 37 = .ok (.aload_n 0, 1) := by decide +kernel
theorem dX12_join_38 : decode cX12_join 38 = .ok (.iload_n 3, 1) := by decide +kernel
theorem dX12_join_39 : decode cX12_join 39 = .ok (.invokevirtual 392, 3) := by decide +kernel
theorem dX12_join_42 : decode cX12_join 42 = .ok (.ireturn, 1) := by decide +kernel
def fX12_join (a0 : Nat) (a1 : Int) (a2 : Int) (G : Hp) : RT := bh (up G a0 0 0) fun G1 => bn (fX12_aside a0 G1) fun _ G2 => bp (fX12_isNode a0 a1 G2) fun v3 => jn (fun (v4 : Int) (G5 : Hp) => bd v4 fun v7 => bn (fX12_done a0 v7 G5) fun v8 G9 => rt v8 G9) fun (K6 : Int → Hp → RT) => jn (K6 ((-1)) G2) fun (K10 : RT) => if v3 = 0 then K10 else (bp (fX12_isNode a0 a2 G2) fun v11 => if v11 = 0 then K10 else (bn (fX12_joined a0 0 a1 a2 G2) fun v12 G13 => K6 v12 G13))
set_option maxRecDepth 20000 in
set_option maxHeartbeats 4000000 in
theorem tX12_join (l : Launch) (x : WX) (hi : Inj x.2.2) (G : Hp) (a0 : Nat) (a1 : Int) (a2 : Int) (ha0 : kd a0 = 12) : Ct l x yX12_join cX12_join 4 (some .int) 7 129 129 [vR a0, vI a1, vI a2] G (fX12_join a0 a1 a2 G) := by
  refine ct_of (plainFor_of_name (by decide)) hi (Nat.le_refl _) (Nat.le_refl _) (Nat.le_of_ble_eq_true rfl) (fun cx F hd hn0 hnE hl hQ => ?_)
  subst hl
  have F : Fx cx x RX12 cX12_join 4 (some .int) := F
  show Y cx x 4 (some .int) 129 0 [(0, vR a0), (1, vI a1), (2, vI a2)] [] G _
  unfold fX12_join
  refine x_aload_n F dX12_join_0 rfl rfl rfl ?_
  refine x_iconst F dX12_join_1 ⟨by decide, by decide⟩ rfl ?_
  refine s_putI F fpX12_1 ha0 rfl dX12_join_2 rfl (fun G1 => ?_)
  refine x_aload_n F dX12_join_5 rfl rfl rfl ?_
  refine s_callVv F [] [] lkX12_383 mX12_aside rfl ha0 rfl hnE hn0 hd (tX12_aside cx.l x hi G1 a0 ha0) rfl rfl dX12_join_6 rfl rfl (fun _ G2 => ?_)
  refine x_aload_n F dX12_join_9 rfl rfl rfl ?_
  refine x_iload_n F dX12_join_10 rfl rfl rfl ?_
  refine s_callVP F [vI a1] [] lkX12_386 mX12_isNode rfl ha0 rfl hnE hn0 hd pX12_isNode (tX12_isNode cx.l x hi G2 a0 a1 ha0) rfl rfl dX12_join_11 rfl rfl (fun v3 => ?_)
  refine x_jn (fun (K6 : Int → Hp → RT) => ∀ (v4 : Int) (G5 : Hp), Y cx x 4 (some .int) 129 36 [(0, vR a0)] [vI v4] G5 (K6 v4 G5)) ?_ (fun K6 hK6 => ?_)
  · intro v4 G5
    refine x_istore_n F dX12_join_36 rfl (by decide) rfl rfl (fun v7 => ?_)
    show Y cx x _ _ _ _ [(0, vR a0), (3, vI v7)] _ _ _
    refine x_aload_n F dX12_join_37 rfl rfl rfl ?_
    refine x_iload_n F dX12_join_38 rfl rfl rfl ?_
    refine s_callV F [vI v7] [] lkX12_392 mX12_done rfl ha0 rfl hnE hn0 hd (tX12_done cx.l x hi G5 a0 v7 ha0) rfl rfl dX12_join_39 rfl rfl (fun v8 G9 => ?_)
    exact x_iret F hnE hQ dX12_join_42
  · refine x_jn (fun (K10 : RT) => Y cx x 4 (some .int) 129 35 [(0, vR a0)] [] G2 K10) ?_ (fun K10 hK10 => ?_)
    · refine x_iconst F dX12_join_35 ⟨by decide, by decide⟩ rfl ?_
      exact hK6 ((-1)) G2
    · refine x_ifeq (pt := 35) F dX12_join_14 rfl rfl ?_ ?_
      · refine x_dp (L' := [(0, vR a0)]) [0] rfl ?_
        exact hK10
      · refine x_aload_n F dX12_join_17 rfl rfl rfl ?_
        refine x_iload_n F dX12_join_18 rfl rfl rfl ?_
        refine s_callVP F [vI a2] [] lkX12_386 mX12_isNode rfl ha0 rfl hnE hn0 hd pX12_isNode (tX12_isNode cx.l x hi G2 a0 a2 ha0) rfl rfl dX12_join_19 rfl rfl (fun v11 => ?_)
        refine x_ifeq (pt := 35) F dX12_join_22 rfl rfl ?_ ?_
        · refine x_dp (L' := [(0, vR a0)]) [0] rfl ?_
          exact hK10
        · refine x_aload_n F dX12_join_25 rfl rfl rfl ?_
          refine x_iconst F dX12_join_26 ⟨by decide, by decide⟩ rfl ?_
          refine x_iload_n F dX12_join_27 rfl rfl rfl ?_
          refine x_iload_n F dX12_join_28 rfl rfl rfl ?_
          refine s_callV F [vI 0, vI a1, vI a2] [] lkX12_362 mX12_joined rfl ha0 rfl hnE hn0 hd (tX12_joined cx.l x hi G2 a0 0 a1 a2 ha0) rfl rfl dX12_join_29 rfl rfl (fun v12 G13 => ?_)
          refine x_goto (pc' := 36) F dX12_join_32 rfl ?_
          refine x_dp (L' := [(0, vR a0)]) [0] rfl ?_
          exact hK6 v12 G13
theorem dX12_fix_0 : decode cX12_fix 0 = .ok (.aload_n 0, 1) := by decide +kernel
theorem dX12_fix_1 : decode cX12_fix 1 = .ok (.iconst 0, 1) := by decide +kernel
theorem dX12_fix_2 : decode cX12_fix 2 = .ok (.putfield 1, 3) := by decide +kernel
theorem dX12_fix_5 : decode cX12_fix 5 = .ok (.aload_n 0, 1) := by decide +kernel
theorem dX12_fix_6 : decode cX12_fix 6 = .ok (.invokevirtual 383, 3) := by decide +kernel
theorem dX12_fix_9 : decode cX12_fix 9 = .ok (.aload_n 0, 1) := by decide +kernel
theorem dX12_fix_10 : decode cX12_fix 10 = .ok (.iload_n 1, 1) := by decide +kernel
theorem dX12_fix_11 : decode cX12_fix 11 = .ok (.invokevirtual 386, 3) := by decide +kernel
theorem dX12_fix_14 : decode cX12_fix 14 = .ok (.ifCond .eq 13, 3) := by decide +kernel
theorem dX12_fix_17 : decode cX12_fix 17 = .ok (.aload_n 0, 1) := by decide +kernel
theorem dX12_fix_18 : decode cX12_fix 18 = .ok (.iconst 0, 1) := by decide +kernel
theorem dX12_fix_19 : decode cX12_fix 19 = .ok (.iload_n 1, 1) := by decide +kernel
theorem dX12_fix_20 : decode cX12_fix 20 = .ok (.iload_n 2, 1) := by decide +kernel
theorem dX12_fix_21 : decode cX12_fix 21 = .ok (.invokevirtual 355, 3) := by decide +kernel
theorem dX12_fix_24 : decode cX12_fix 24 = .ok (.ifCond .ne 5, 3) := by decide +kernel
theorem dX12_fix_27 : decode cX12_fix 27 = .ok (.iconst 0, 1) := by decide +kernel
theorem dX12_fix_28 : decode cX12_fix 28 = .ok (.ireturn, 1) := by decide +kernel
theorem dX12_fix_29 : decode cX12_fix 29 = .ok (.aload_n 0, 1) := by decide +kernel
theorem dX12_fix_30 : decode cX12_fix 30 = .ok (.invokevirtual 389, 3) := by decide +kernel
theorem dX12_fix_33 : decode cX12_fix 33 = .ok (.iconst 1, 1) := by decide +kernel
theorem dX12_fix_34 : decode cX12_fix 34 = .ok (.ireturn, 1) := by decide +kernel
def fX12_fix (a0 : Nat) (a1 : Int) (a2 : Int) (G : Hp) : RT := bh (up G a0 0 0) fun G1 => bn (fX12_aside a0 G1) fun _ G2 => bp (fX12_isNode a0 a1 G2) fun v3 => if v3 = 0 then rz 0 G2 else (bn (fX12_fixed a0 0 a1 a2 G2) fun v4 G5 => if v4 = 0 then rz 0 G5 else (bn (fX12_keeps a0 G5) fun _ G6 => rz 1 G6))
set_option maxRecDepth 20000 in
set_option maxHeartbeats 4000000 in
theorem tX12_fix (l : Launch) (x : WX) (hi : Inj x.2.2) (G : Hp) (a0 : Nat) (a1 : Int) (a2 : Int) (ha0 : kd a0 = 12) : Ct l x yX12_fix cX12_fix 3 (some .boolean) 7 129 129 [vR a0, vI a1, vI a2] G (fX12_fix a0 a1 a2 G) := by
  refine ct_of (plainFor_of_name (by decide)) hi (Nat.le_refl _) (Nat.le_refl _) (Nat.le_of_ble_eq_true rfl) (fun cx F hd hn0 hnE hl hQ => ?_)
  subst hl
  have F : Fx cx x RX12 cX12_fix 3 (some .boolean) := F
  show Y cx x 3 (some .boolean) 129 0 [(0, vR a0), (1, vI a1), (2, vI a2)] [] G _
  unfold fX12_fix
  refine x_aload_n F dX12_fix_0 rfl rfl rfl ?_
  refine x_iconst F dX12_fix_1 ⟨by decide, by decide⟩ rfl ?_
  refine s_putI F fpX12_1 ha0 rfl dX12_fix_2 rfl (fun G1 => ?_)
  refine x_aload_n F dX12_fix_5 rfl rfl rfl ?_
  refine s_callVv F [] [] lkX12_383 mX12_aside rfl ha0 rfl hnE hn0 hd (tX12_aside cx.l x hi G1 a0 ha0) rfl rfl dX12_fix_6 rfl rfl (fun _ G2 => ?_)
  refine x_aload_n F dX12_fix_9 rfl rfl rfl ?_
  refine x_iload_n F dX12_fix_10 rfl rfl rfl ?_
  refine s_callVP F [vI a1] [] lkX12_386 mX12_isNode rfl ha0 rfl hnE hn0 hd pX12_isNode (tX12_isNode cx.l x hi G2 a0 a1 ha0) rfl rfl dX12_fix_11 rfl rfl (fun v3 => ?_)
  refine x_ifeq (pt := 27) F dX12_fix_14 rfl rfl ?_ ?_
  · refine x_iconst F dX12_fix_27 ⟨by decide, by decide⟩ rfl ?_
    exact x_zret F hnE hQ dX12_fix_28
  · refine x_aload_n F dX12_fix_17 rfl rfl rfl ?_
    refine x_iconst F dX12_fix_18 ⟨by decide, by decide⟩ rfl ?_
    refine x_iload_n F dX12_fix_19 rfl rfl rfl ?_
    refine x_iload_n F dX12_fix_20 rfl rfl rfl ?_
    refine s_callV F [vI 0, vI a1, vI a2] [] lkX12_355 mX12_fixed rfl ha0 rfl hnE hn0 hd (tX12_fixed cx.l x hi G2 a0 0 a1 a2 ha0) rfl rfl dX12_fix_21 rfl rfl (fun v4 G5 => ?_)
    refine x_ifne (pt := 29) F dX12_fix_24 rfl rfl ?_ ?_
    · refine x_iconst F dX12_fix_27 ⟨by decide, by decide⟩ rfl ?_
      exact x_zret F hnE hQ dX12_fix_28
    · refine x_aload_n F dX12_fix_29 rfl rfl rfl ?_
      refine s_callVv F [] [] lkX12_389 mX12_keeps rfl ha0 rfl hnE hn0 hd (tX12_keeps cx.l x hi G5 a0 ha0) rfl rfl dX12_fix_30 rfl rfl (fun _ G6 => ?_)
      refine x_iconst F dX12_fix_33 ⟨by decide, by decide⟩ rfl ?_
      exact x_zret F hnE hQ dX12_fix_34
theorem dX12_put_0 : decode cX12_put 0 = .ok (.aload_n 0, 1) := by decide +kernel
theorem dX12_put_1 : decode cX12_put 1 = .ok (.iconst 0, 1) := by decide +kernel
theorem dX12_put_2 : decode cX12_put 2 = .ok (.putfield 1, 3) := by decide +kernel
theorem dX12_put_5 : decode cX12_put 5 = .ok (.aload_n 0, 1) := by decide +kernel
theorem dX12_put_6 : decode cX12_put 6 = .ok (.invokevirtual 383, 3) := by decide +kernel
theorem dX12_put_9 : decode cX12_put 9 = .ok (.aload_n 0, 1) := by decide +kernel
theorem dX12_put_10 : decode cX12_put 10 = .ok (.iload_n 1, 1) := by decide +kernel
theorem dX12_put_11 : decode cX12_put 11 = .ok (.invokevirtual 398, 3) := by decide +kernel
theorem dX12_put_14 : decode cX12_put 14 = .ok (.ifCond .eq 21, 3) := by decide +kernel
theorem dX12_put_17 : decode cX12_put 17 = .ok (.aload_n 0, 1) := by decide +kernel
theorem dX12_put_18 : decode cX12_put 18 = .ok (.iload_n 2, 1) := by decide +kernel
theorem dX12_put_19 : decode cX12_put 19 = .ok (.invokevirtual 386, 3) := by decide +kernel
theorem dX12_put_22 : decode cX12_put 22 = .ok (.ifCond .eq 13, 3) := by decide +kernel
theorem dX12_put_25 : decode cX12_put 25 = .ok (.aload_n 0, 1) := by decide +kernel
theorem dX12_put_26 : decode cX12_put 26 = .ok (.iconst 0, 1) := by decide +kernel
theorem dX12_put_27 : decode cX12_put 27 = .ok (.iload_n 1, 1) := by decide +kernel
theorem dX12_put_28 : decode cX12_put 28 = .ok (.iload_n 2, 1) := by decide +kernel
theorem dX12_put_29 : decode cX12_put 29 = .ok (.invokevirtual 377, 3) := by decide +kernel
theorem dX12_put_32 : decode cX12_put 32 = .ok (.goto 4, 3) := by decide +kernel
theorem dX12_put_35 : decode cX12_put 35 = .ok (.iconst (-1), 1) := by decide +kernel
theorem dX12_put_36 : decode cX12_put 36 = .ok (.istore_n 3, 1) := by decide +kernel
theorem dX12_put_37 : decode cX12_put 37 = .ok (.aload_n 0, 1) := by decide +kernel
theorem dX12_put_38 : decode cX12_put 38 = .ok (.iload_n 3, 1) := by decide +kernel
theorem dX12_put_39 : decode cX12_put 39 = .ok (.invokevirtual 392, 3) := by decide +kernel
theorem dX12_put_42 : decode cX12_put 42 = .ok (.ireturn, 1) := by decide +kernel
def fX12_put (a0 : Nat) (a1 : Int) (a2 : Int) (G : Hp) : RT := bh (up G a0 0 0) fun G1 => bn (fX12_aside a0 G1) fun _ G2 => bp (fX12_isKey a0 a1 G2) fun v3 => jn (fun (v4 : Int) (G5 : Hp) => bd v4 fun v7 => bn (fX12_done a0 v7 G5) fun v8 G9 => rt v8 G9) fun (K6 : Int → Hp → RT) => jn (K6 ((-1)) G2) fun (K10 : RT) => if v3 = 0 then K10 else (bp (fX12_isNode a0 a2 G2) fun v11 => if v11 = 0 then K10 else (bn (fX12_putBy a0 0 a1 a2 G2) fun v12 G13 => K6 v12 G13))
set_option maxRecDepth 20000 in
set_option maxHeartbeats 4000000 in
theorem tX12_put (l : Launch) (x : WX) (hi : Inj x.2.2) (G : Hp) (a0 : Nat) (a1 : Int) (a2 : Int) (ha0 : kd a0 = 12) : Ct l x yX12_put cX12_put 4 (some .int) 7 129 129 [vR a0, vI a1, vI a2] G (fX12_put a0 a1 a2 G) := by
  refine ct_of (plainFor_of_name (by decide)) hi (Nat.le_refl _) (Nat.le_refl _) (Nat.le_of_ble_eq_true rfl) (fun cx F hd hn0 hnE hl hQ => ?_)
  subst hl
  have F : Fx cx x RX12 cX12_put 4 (some .int) := F
  show Y cx x 4 (some .int) 129 0 [(0, vR a0), (1, vI a1), (2, vI a2)] [] G _
  unfold fX12_put
  refine x_aload_n F dX12_put_0 rfl rfl rfl ?_
  refine x_iconst F dX12_put_1 ⟨by decide, by decide⟩ rfl ?_
  refine s_putI F fpX12_1 ha0 rfl dX12_put_2 rfl (fun G1 => ?_)
  refine x_aload_n F dX12_put_5 rfl rfl rfl ?_
  refine s_callVv F [] [] lkX12_383 mX12_aside rfl ha0 rfl hnE hn0 hd (tX12_aside cx.l x hi G1 a0 ha0) rfl rfl dX12_put_6 rfl rfl (fun _ G2 => ?_)
  refine x_aload_n F dX12_put_9 rfl rfl rfl ?_
  refine x_iload_n F dX12_put_10 rfl rfl rfl ?_
  refine s_callVP F [vI a1] [] lkX12_398 mX12_isKey rfl ha0 rfl hnE hn0 hd pX12_isKey (tX12_isKey cx.l x hi G2 a0 a1 ha0) rfl rfl dX12_put_11 rfl rfl (fun v3 => ?_)
  refine x_jn (fun (K6 : Int → Hp → RT) => ∀ (v4 : Int) (G5 : Hp), Y cx x 4 (some .int) 129 36 [(0, vR a0)] [vI v4] G5 (K6 v4 G5)) ?_ (fun K6 hK6 => ?_)
  · intro v4 G5
    refine x_istore_n F dX12_put_36 rfl (by decide) rfl rfl (fun v7 => ?_)
    show Y cx x _ _ _ _ [(0, vR a0), (3, vI v7)] _ _ _
    refine x_aload_n F dX12_put_37 rfl rfl rfl ?_
    refine x_iload_n F dX12_put_38 rfl rfl rfl ?_
    refine s_callV F [vI v7] [] lkX12_392 mX12_done rfl ha0 rfl hnE hn0 hd (tX12_done cx.l x hi G5 a0 v7 ha0) rfl rfl dX12_put_39 rfl rfl (fun v8 G9 => ?_)
    exact x_iret F hnE hQ dX12_put_42
  · refine x_jn (fun (K10 : RT) => Y cx x 4 (some .int) 129 35 [(0, vR a0)] [] G2 K10) ?_ (fun K10 hK10 => ?_)
    · refine x_iconst F dX12_put_35 ⟨by decide, by decide⟩ rfl ?_
      exact hK6 ((-1)) G2
    · refine x_ifeq (pt := 35) F dX12_put_14 rfl rfl ?_ ?_
      · refine x_dp (L' := [(0, vR a0)]) [0] rfl ?_
        exact hK10
      · refine x_aload_n F dX12_put_17 rfl rfl rfl ?_
        refine x_iload_n F dX12_put_18 rfl rfl rfl ?_
        refine s_callVP F [vI a2] [] lkX12_386 mX12_isNode rfl ha0 rfl hnE hn0 hd pX12_isNode (tX12_isNode cx.l x hi G2 a0 a2 ha0) rfl rfl dX12_put_19 rfl rfl (fun v11 => ?_)
        refine x_ifeq (pt := 35) F dX12_put_22 rfl rfl ?_ ?_
        · refine x_dp (L' := [(0, vR a0)]) [0] rfl ?_
          exact hK10
        · refine x_aload_n F dX12_put_25 rfl rfl rfl ?_
          refine x_iconst F dX12_put_26 ⟨by decide, by decide⟩ rfl ?_
          refine x_iload_n F dX12_put_27 rfl rfl rfl ?_
          refine x_iload_n F dX12_put_28 rfl rfl rfl ?_
          refine s_callV F [vI 0, vI a1, vI a2] [] lkX12_377 mX12_putBy rfl ha0 rfl hnE hn0 hd (tX12_putBy cx.l x hi G2 a0 0 a1 a2 ha0) rfl rfl dX12_put_29 rfl rfl (fun v12 G13 => ?_)
          refine x_goto (pc' := 36) F dX12_put_32 rfl ?_
          refine x_dp (L' := [(0, vR a0)]) [0] rfl ?_
          exact hK6 v12 G13
theorem dX12_hand_0 : decode cX12_hand 0 = .ok (.aload_n 0, 1) := by decide +kernel
theorem dX12_hand_1 : decode cX12_hand 1 = .ok (.iconst 0, 1) := by decide +kernel
theorem dX12_hand_2 : decode cX12_hand 2 = .ok (.putfield 1, 3) := by decide +kernel
theorem dX12_hand_5 : decode cX12_hand 5 = .ok (.aload_n 0, 1) := by decide +kernel
theorem dX12_hand_6 : decode cX12_hand 6 = .ok (.invokevirtual 383, 3) := by decide +kernel
theorem dX12_hand_9 : decode cX12_hand 9 = .ok (.aload_n 0, 1) := by decide +kernel
theorem dX12_hand_10 : decode cX12_hand 10 = .ok (.iload_n 1, 1) := by decide +kernel
theorem dX12_hand_11 : decode cX12_hand 11 = .ok (.invokevirtual 386, 3) := by decide +kernel
theorem dX12_hand_14 : decode cX12_hand 14 = .ok (.ifCond .eq 12, 3) := by decide +kernel
theorem dX12_hand_17 : decode cX12_hand 17 = .ok (.aload_n 0, 1) := by decide +kernel
theorem dX12_hand_18 : decode cX12_hand 18 = .ok (.iconst 0, 1) := by decide +kernel
theorem dX12_hand_19 : decode cX12_hand 19 = .ok (.iload_n 1, 1) := by decide +kernel
theorem dX12_hand_20 : decode cX12_hand 20 = .ok (.invokevirtual 380, 3) := by decide +kernel
theorem dX12_hand_23 : decode cX12_hand 23 = .ok (.goto 4, 3) := by decide +kernel
theorem dX12_hand_26 : decode cX12_hand 26 = .ok (.iconst (-1), 1) := by decide +kernel
theorem dX12_hand_27 : decode cX12_hand 27 = .ok (.istore_n 2, 1) := by decide +kernel
theorem dX12_hand_28 : decode cX12_hand 28 = .ok (.aload_n 0, 1) := by decide +kernel
theorem dX12_hand_29 : decode cX12_hand 29 = .ok (.iload_n 2, 1) := by decide +kernel
theorem dX12_hand_30 : decode cX12_hand 30 = .ok (.invokevirtual 392, 3) := by decide +kernel
theorem dX12_hand_33 : decode cX12_hand 33 = .ok (.ireturn, 1) := by decide +kernel
def fX12_hand (a0 : Nat) (a1 : Int) (G : Hp) : RT := bh (up G a0 0 0) fun G1 => bn (fX12_aside a0 G1) fun _ G2 => bp (fX12_isNode a0 a1 G2) fun v3 => jn (fun (v4 : Int) (G5 : Hp) => bd v4 fun v7 => bn (fX12_done a0 v7 G5) fun v8 G9 => rt v8 G9) fun (K6 : Int → Hp → RT) => if v3 = 0 then (K6 ((-1)) G2) else (bn (fX12_handed a0 0 a1 G2) fun v10 G11 => K6 v10 G11)
set_option maxRecDepth 20000 in
set_option maxHeartbeats 4000000 in
theorem tX12_hand (l : Launch) (x : WX) (hi : Inj x.2.2) (G : Hp) (a0 : Nat) (a1 : Int) (ha0 : kd a0 = 12) : Ct l x yX12_hand cX12_hand 3 (some .int) 7 129 129 [vR a0, vI a1] G (fX12_hand a0 a1 G) := by
  refine ct_of (plainFor_of_name (by decide)) hi (Nat.le_refl _) (Nat.le_refl _) (Nat.le_of_ble_eq_true rfl) (fun cx F hd hn0 hnE hl hQ => ?_)
  subst hl
  have F : Fx cx x RX12 cX12_hand 3 (some .int) := F
  show Y cx x 3 (some .int) 129 0 [(0, vR a0), (1, vI a1)] [] G _
  unfold fX12_hand
  refine x_aload_n F dX12_hand_0 rfl rfl rfl ?_
  refine x_iconst F dX12_hand_1 ⟨by decide, by decide⟩ rfl ?_
  refine s_putI F fpX12_1 ha0 rfl dX12_hand_2 rfl (fun G1 => ?_)
  refine x_aload_n F dX12_hand_5 rfl rfl rfl ?_
  refine s_callVv F [] [] lkX12_383 mX12_aside rfl ha0 rfl hnE hn0 hd (tX12_aside cx.l x hi G1 a0 ha0) rfl rfl dX12_hand_6 rfl rfl (fun _ G2 => ?_)
  refine x_aload_n F dX12_hand_9 rfl rfl rfl ?_
  refine x_iload_n F dX12_hand_10 rfl rfl rfl ?_
  refine s_callVP F [vI a1] [] lkX12_386 mX12_isNode rfl ha0 rfl hnE hn0 hd pX12_isNode (tX12_isNode cx.l x hi G2 a0 a1 ha0) rfl rfl dX12_hand_11 rfl rfl (fun v3 => ?_)
  refine x_jn (fun (K6 : Int → Hp → RT) => ∀ (v4 : Int) (G5 : Hp), Y cx x 3 (some .int) 129 27 [(0, vR a0)] [vI v4] G5 (K6 v4 G5)) ?_ (fun K6 hK6 => ?_)
  · intro v4 G5
    refine x_istore_n F dX12_hand_27 rfl (by decide) rfl rfl (fun v7 => ?_)
    show Y cx x _ _ _ _ [(0, vR a0), (2, vI v7)] _ _ _
    refine x_aload_n F dX12_hand_28 rfl rfl rfl ?_
    refine x_iload_n F dX12_hand_29 rfl rfl rfl ?_
    refine s_callV F [vI v7] [] lkX12_392 mX12_done rfl ha0 rfl hnE hn0 hd (tX12_done cx.l x hi G5 a0 v7 ha0) rfl rfl dX12_hand_30 rfl rfl (fun v8 G9 => ?_)
    exact x_iret F hnE hQ dX12_hand_33
  · refine x_ifeq (pt := 26) F dX12_hand_14 rfl rfl ?_ ?_
    · refine x_iconst F dX12_hand_26 ⟨by decide, by decide⟩ rfl ?_
      refine x_dp (L' := [(0, vR a0)]) [0] rfl ?_
      exact hK6 ((-1)) G2
    · refine x_aload_n F dX12_hand_17 rfl rfl rfl ?_
      refine x_iconst F dX12_hand_18 ⟨by decide, by decide⟩ rfl ?_
      refine x_iload_n F dX12_hand_19 rfl rfl rfl ?_
      refine s_callV F [vI 0, vI a1] [] lkX12_380 mX12_handed rfl ha0 rfl hnE hn0 hd (tX12_handed cx.l x hi G2 a0 0 a1 ha0) rfl rfl dX12_hand_20 rfl rfl (fun v10 G11 => ?_)
      refine x_goto (pc' := 27) F dX12_hand_23 rfl ?_
      refine x_dp (L' := [(0, vR a0)]) [0] rfl ?_
      exact hK6 v10 G11
theorem dX12_steps_0 : decode cX12_steps 0 = .ok (.aload_n 0, 1) := by decide +kernel
theorem dX12_steps_1 : decode cX12_steps 1 = .ok (.iconst 0, 1) := by decide +kernel
theorem dX12_steps_2 : decode cX12_steps 2 = .ok (.putfield 1, 3) := by decide +kernel
theorem dX12_steps_5 : decode cX12_steps 5 = .ok (.aload_n 0, 1) := by decide +kernel
theorem dX12_steps_6 : decode cX12_steps 6 = .ok (.iload_n 1, 1) := by decide +kernel
theorem dX12_steps_7 : decode cX12_steps 7 = .ok (.iload_n 2, 1) := by decide +kernel
theorem dX12_steps_8 : decode cX12_steps 8 = .ok (.invokevirtual 420, 3) := by decide +kernel
theorem dX12_steps_11 : decode cX12_steps 11 = .ok (.ifCond .eq 13, 3) := by decide +kernel
theorem dX12_steps_14 : decode cX12_steps 14 = .ok (.aload_n 0, 1) := by decide +kernel
theorem dX12_steps_15 : decode cX12_steps 15 = .ok (.iconst 0, 1) := by decide +kernel
theorem dX12_steps_16 : decode cX12_steps 16 = .ok (.iload_n 1, 1) := by decide +kernel
theorem dX12_steps_17 : decode cX12_steps 17 = .ok (.iload_n 2, 1) := by decide +kernel
theorem dX12_steps_18 : decode cX12_steps 18 = .ok (.invokevirtual 423, 3) := by decide +kernel
theorem dX12_steps_21 : decode cX12_steps 21 = .ok (.goto 4, 3) := by decide +kernel
theorem dX12_steps_24 : decode cX12_steps 24 = .ok (.iconst (-1), 1) := by decide +kernel
theorem dX12_steps_25 : decode cX12_steps 25 = .ok (.ireturn, 1) := by decide +kernel
def fX12_steps (a0 : Nat) (a1 : Int) (a2 : Int) (G : Hp) : RT := bh (up G a0 0 0) fun G1 => bp (fX12_canFind a0 a1 a2 G1) fun v2 => if v2 = 0 then (rt ((-1)) G1) else (bn (fX12_stepsTo a0 0 a1 a2 G1) fun v3 G4 => rt v3 G4)
set_option maxRecDepth 20000 in
set_option maxHeartbeats 4000000 in
theorem tX12_steps (l : Launch) (x : WX) (hi : Inj x.2.2) (G : Hp) (a0 : Nat) (a1 : Int) (a2 : Int) (ha0 : kd a0 = 12) : Ct l x yX12_steps cX12_steps 3 (some .int) 7 129 129 [vR a0, vI a1, vI a2] G (fX12_steps a0 a1 a2 G) := by
  refine ct_of (plainFor_of_name (by decide)) hi (Nat.le_refl _) (Nat.le_refl _) (Nat.le_of_ble_eq_true rfl) (fun cx F hd hn0 hnE hl hQ => ?_)
  subst hl
  have F : Fx cx x RX12 cX12_steps 3 (some .int) := F
  show Y cx x 3 (some .int) 129 0 [(0, vR a0), (1, vI a1), (2, vI a2)] [] G _
  unfold fX12_steps
  refine x_aload_n F dX12_steps_0 rfl rfl rfl ?_
  refine x_iconst F dX12_steps_1 ⟨by decide, by decide⟩ rfl ?_
  refine s_putI F fpX12_1 ha0 rfl dX12_steps_2 rfl (fun G1 => ?_)
  refine x_aload_n F dX12_steps_5 rfl rfl rfl ?_
  refine x_iload_n F dX12_steps_6 rfl rfl rfl ?_
  refine x_iload_n F dX12_steps_7 rfl rfl rfl ?_
  refine s_callVP F [vI a1, vI a2] [] lkX12_420 mX12_canFind rfl ha0 rfl hnE hn0 hd pX12_canFind (tX12_canFind cx.l x hi G1 a0 a1 a2 ha0) rfl rfl dX12_steps_8 rfl rfl (fun v2 => ?_)
  refine x_ifeq (pt := 24) F dX12_steps_11 rfl rfl ?_ ?_
  · refine x_iconst F dX12_steps_24 ⟨by decide, by decide⟩ rfl ?_
    exact x_iret F hnE hQ dX12_steps_25
  · refine x_aload_n F dX12_steps_14 rfl rfl rfl ?_
    refine x_iconst F dX12_steps_15 ⟨by decide, by decide⟩ rfl ?_
    refine x_iload_n F dX12_steps_16 rfl rfl rfl ?_
    refine x_iload_n F dX12_steps_17 rfl rfl rfl ?_
    refine s_callV F [vI 0, vI a1, vI a2] [] lkX12_423 mX12_stepsTo rfl ha0 rfl hnE hn0 hd (tX12_stepsTo cx.l x hi G1 a0 0 a1 a2 ha0) rfl rfl dX12_steps_18 rfl rfl (fun v3 G4 => ?_)
    refine x_goto (pc' := 25) F dX12_steps_21 rfl ?_
    exact x_iret F hnE hQ dX12_steps_25
theorem dX12_route_0 : decode cX12_route 0 = .ok (.aload_n 0, 1) := by decide +kernel
theorem dX12_route_1 : decode cX12_route 1 = .ok (.iconst 0, 1) := by decide +kernel
theorem dX12_route_2 : decode cX12_route 2 = .ok (.putfield 1, 3) := by decide +kernel
theorem dX12_route_5 : decode cX12_route 5 = .ok (.aload_n 0, 1) := by decide +kernel
theorem dX12_route_6 : decode cX12_route 6 = .ok (.iload_n 1, 1) := by decide +kernel
theorem dX12_route_7 : decode cX12_route 7 = .ok (.iload_n 2, 1) := by decide +kernel
theorem dX12_route_8 : decode cX12_route 8 = .ok (.invokevirtual 420, 3) := by decide +kernel
theorem dX12_route_11 : decode cX12_route 11 = .ok (.ifCond .eq 13, 3) := by decide +kernel
theorem dX12_route_14 : decode cX12_route 14 = .ok (.aload_n 0, 1) := by decide +kernel
theorem dX12_route_15 : decode cX12_route 15 = .ok (.iconst 0, 1) := by decide +kernel
theorem dX12_route_16 : decode cX12_route 16 = .ok (.iload_n 1, 1) := by decide +kernel
theorem dX12_route_17 : decode cX12_route 17 = .ok (.iload_n 2, 1) := by decide +kernel
theorem dX12_route_18 : decode cX12_route 18 = .ok (.invokevirtual 423, 3) := by decide +kernel
theorem dX12_route_21 : decode cX12_route 21 = .ok (.goto 4, 3) := by decide +kernel
theorem dX12_route_24 : decode cX12_route 24 = .ok (.iconst 0, 1) := by decide +kernel
theorem dX12_route_25 : decode cX12_route 25 = .ok (.istore 4, 2) := by decide +kernel
theorem dX12_route_27 : decode cX12_route 27 = .ok (.iload_n 3, 1) := by decide +kernel
theorem dX12_route_28 : decode cX12_route 28 = .ok (.ifCond .lt 9, 3) := by decide +kernel
theorem dX12_route_31 : decode cX12_route 31 = .ok (.iload_n 3, 1) := by decide +kernel
theorem dX12_route_32 : decode cX12_route 32 = .ok (.iload 4, 2) := by decide +kernel
theorem dX12_route_34 : decode cX12_route 34 = .ok (.if_icmp .lt 10, 3) := by decide +kernel
theorem dX12_route_37 : decode cX12_route 37 = .ok (.aload_n 0, 1) := by decide +kernel
theorem dX12_route_38 : decode cX12_route 38 = .ok (.iconst 1, 1) := by decide +kernel
theorem dX12_route_39 : decode cX12_route 39 = .ok (.putfield 1, 3) := by decide +kernel
theorem dX12_route_42 : decode cX12_route 42 = .ok (.iconst 0, 1) := by decide +kernel
theorem dX12_route_43 : decode cX12_route 43 = .ok (.ireturn, 1) := by decide +kernel
theorem dX12_route_44 : decode cX12_route 44 = .ok (.aload_n 0, 1) := by decide +kernel
theorem dX12_route_45 : decode cX12_route 45 = .ok (.getfield 115, 3) := by decide +kernel
theorem dX12_route_48 : decode cX12_route 48 = .ok (.iload_n 3, 1) := by decide +kernel
theorem dX12_route_49 : decode cX12_route 49 = .ok (.iaload, 1) := by decide +kernel
theorem dX12_route_50 : decode cX12_route 50 = .ok (.ireturn, 1) := by decide +kernel
def fX12_route (a0 : Nat) (a1 : Int) (a2 : Int) (a3 : Int) (G : Hp) : RT := bh (up G a0 0 0) fun G1 => bp (fX12_canFind a0 a1 a2 G1) fun v2 => jn (fun (v3 : Int) (G4 : Hp) => bd v3 fun v6 => jn (bh (up G4 a0 0 1) fun G8 => rt 0 G8) fun (K7 : RT) => if a3 < 0 then K7 else (if a3 < v6 then (br (rd G4 ((rf a0 22)) 20 a3) fun v9 => rt v9 G4) else K7)) fun (K5 : Int → Hp → RT) => if v2 = 0 then K5 0 G1 else (bn (fX12_stepsTo a0 0 a1 a2 G1) fun v10 G11 => K5 v10 G11)
set_option maxRecDepth 20000 in
set_option maxHeartbeats 4000000 in
theorem tX12_route (l : Launch) (x : WX) (hi : Inj x.2.2) (G : Hp) (a0 : Nat) (a1 : Int) (a2 : Int) (a3 : Int) (ha0 : kd a0 = 12) : Ct l x yX12_route cX12_route 5 (some .int) 7 129 129 [vR a0, vI a1, vI a2, vI a3] G (fX12_route a0 a1 a2 a3 G) := by
  refine ct_of (plainFor_of_name (by decide)) hi (Nat.le_refl _) (Nat.le_refl _) (Nat.le_of_ble_eq_true rfl) (fun cx F hd hn0 hnE hl hQ => ?_)
  subst hl
  have F : Fx cx x RX12 cX12_route 5 (some .int) := F
  show Y cx x 5 (some .int) 129 0 [(0, vR a0), (1, vI a1), (2, vI a2), (3, vI a3)] [] G _
  unfold fX12_route
  refine x_aload_n F dX12_route_0 rfl rfl rfl ?_
  refine x_iconst F dX12_route_1 ⟨by decide, by decide⟩ rfl ?_
  refine s_putI F fpX12_1 ha0 rfl dX12_route_2 rfl (fun G1 => ?_)
  refine x_aload_n F dX12_route_5 rfl rfl rfl ?_
  refine x_iload_n F dX12_route_6 rfl rfl rfl ?_
  refine x_iload_n F dX12_route_7 rfl rfl rfl ?_
  refine s_callVP F [vI a1, vI a2] [] lkX12_420 mX12_canFind rfl ha0 rfl hnE hn0 hd pX12_canFind (tX12_canFind cx.l x hi G1 a0 a1 a2 ha0) rfl rfl dX12_route_8 rfl rfl (fun v2 => ?_)
  refine x_jn (fun (K5 : Int → Hp → RT) => ∀ (v3 : Int) (G4 : Hp), Y cx x 5 (some .int) 129 25 [(0, vR a0), (3, vI a3)] [vI v3] G4 (K5 v3 G4)) ?_ (fun K5 hK5 => ?_)
  · intro v3 G4
    refine x_istore F dX12_route_25 (by decide) rfl rfl (fun v6 => ?_)
    show Y cx x _ _ _ _ [(0, vR a0), (3, vI a3), (4, vI v6)] _ _ _
    refine x_iload_n F dX12_route_27 rfl rfl rfl ?_
    refine x_jn (fun (K7 : RT) => Y cx x 5 (some .int) 129 37 [(0, vR a0)] [] G4 K7) ?_ (fun K7 hK7 => ?_)
    · refine x_aload_n F dX12_route_37 rfl rfl rfl ?_
      refine x_iconst F dX12_route_38 ⟨by decide, by decide⟩ rfl ?_
      refine s_putI F fpX12_1 ha0 rfl dX12_route_39 rfl (fun G8 => ?_)
      refine x_iconst F dX12_route_42 ⟨by decide, by decide⟩ rfl ?_
      exact x_iret F hnE hQ dX12_route_43
    · refine x_iflt (pt := 37) F dX12_route_28 rfl rfl ?_ ?_
      · refine x_dp (L' := [(0, vR a0)]) [0] rfl ?_
        exact hK7
      · refine x_iload_n F dX12_route_31 rfl rfl rfl ?_
        refine x_iload F dX12_route_32 rfl rfl ?_
        refine x_icmplt (pt := 44) F dX12_route_34 rfl rfl ?_ ?_
        · refine x_aload_n F dX12_route_44 rfl rfl rfl ?_
          refine x_getR F flX12_115 ha0 rfl dX12_route_45 rfl ?_
          refine x_iload_n F dX12_route_48 rfl rfl rfl ?_
          refine s_iald F (tf12_22 ha0).1 (tf12_22 ha0).2 dX12_route_49 rfl (fun v9 => ?_)
          exact x_iret F hnE hQ dX12_route_50
        · refine x_dp (L' := [(0, vR a0)]) [0] rfl ?_
          exact hK7
  · refine x_ifeq (pt := 24) F dX12_route_11 rfl rfl ?_ ?_
    · refine x_iconst F dX12_route_24 ⟨by decide, by decide⟩ rfl ?_
      refine x_dp (L' := [(0, vR a0), (3, vI a3)]) [0, 3] rfl ?_
      exact hK5 0 G1
    · refine x_aload_n F dX12_route_14 rfl rfl rfl ?_
      refine x_iconst F dX12_route_15 ⟨by decide, by decide⟩ rfl ?_
      refine x_iload_n F dX12_route_16 rfl rfl rfl ?_
      refine x_iload_n F dX12_route_17 rfl rfl rfl ?_
      refine s_callV F [vI 0, vI a1, vI a2] [] lkX12_423 mX12_stepsTo rfl ha0 rfl hnE hn0 hd (tX12_stepsTo cx.l x hi G1 a0 0 a1 a2 ha0) rfl rfl dX12_route_18 rfl rfl (fun v10 G11 => ?_)
      refine x_goto (pc' := 25) F dX12_route_21 rfl ?_
      refine x_dp (L' := [(0, vR a0), (3, vI a3)]) [0, 3] rfl ?_
      exact hK5 v10 G11
theorem dX12_ordered_0 : decode cX12_ordered 0 = .ok (.aload_n 0, 1) := by decide +kernel
theorem dX12_ordered_1 : decode cX12_ordered 1 = .ok (.iconst 0, 1) := by decide +kernel
theorem dX12_ordered_2 : decode cX12_ordered 2 = .ok (.putfield 1, 3) := by decide +kernel
theorem dX12_ordered_5 : decode cX12_ordered 5 = .ok (.aload_n 0, 1) := by decide +kernel
theorem dX12_ordered_6 : decode cX12_ordered 6 = .ok (.iconst 0, 1) := by decide +kernel
theorem dX12_ordered_7 : decode cX12_ordered 7 = .ok (.invokevirtual 447, 3) := by decide +kernel
theorem dX12_ordered_10 : decode cX12_ordered 10 = .ok (.ireturn, 1) := by decide +kernel
def fX12_ordered (a0 : Nat) (G : Hp) : RT := bh (up G a0 0 0) fun G1 => bp (fX12_isOrdered a0 0 G1) fun v2 => rz v2 G1
set_option maxRecDepth 20000 in
set_option maxHeartbeats 4000000 in
theorem tX12_ordered (l : Launch) (x : WX) (hi : Inj x.2.2) (G : Hp) (a0 : Nat) (ha0 : kd a0 = 12) : Ct l x yX12_ordered cX12_ordered 1 (some .boolean) 7 129 129 [vR a0] G (fX12_ordered a0 G) := by
  refine ct_of (plainFor_of_name (by decide)) hi (Nat.le_refl _) (Nat.le_refl _) (Nat.le_of_ble_eq_true rfl) (fun cx F hd hn0 hnE hl hQ => ?_)
  subst hl
  have F : Fx cx x RX12 cX12_ordered 1 (some .boolean) := F
  show Y cx x 1 (some .boolean) 129 0 [(0, vR a0)] [] G _
  unfold fX12_ordered
  refine x_aload_n F dX12_ordered_0 rfl rfl rfl ?_
  refine x_iconst F dX12_ordered_1 ⟨by decide, by decide⟩ rfl ?_
  refine s_putI F fpX12_1 ha0 rfl dX12_ordered_2 rfl (fun G1 => ?_)
  refine x_aload_n F dX12_ordered_5 rfl rfl rfl ?_
  refine x_iconst F dX12_ordered_6 ⟨by decide, by decide⟩ rfl ?_
  refine s_callVP F [vI 0] [] lkX12_447 mX12_isOrdered rfl ha0 rfl hnE hn0 hd pX12_isOrdered (tX12_isOrdered cx.l x hi G1 a0 0 ha0) rfl rfl dX12_ordered_7 rfl rfl (fun v2 => ?_)
  exact x_zret F hnE hQ dX12_ordered_10
theorem dX12_after_0 : decode cX12_after 0 = .ok (.aload_n 0, 1) := by decide +kernel
theorem dX12_after_1 : decode cX12_after 1 = .ok (.iconst 0, 1) := by decide +kernel
theorem dX12_after_2 : decode cX12_after 2 = .ok (.putfield 1, 3) := by decide +kernel
theorem dX12_after_5 : decode cX12_after 5 = .ok (.iload_n 1, 1) := by decide +kernel
theorem dX12_after_6 : decode cX12_after 6 = .ok (.iconst 0, 1) := by decide +kernel
theorem dX12_after_7 : decode cX12_after 7 = .ok (.bipush 30, 2) := by decide +kernel
theorem dX12_after_9 : decode cX12_after 9 = .ok (.invokestatic 401, 3) := by decide +kernel
theorem dX12_after_12 : decode cX12_after 12 = .ok (.ifCond .eq 12, 3) := by decide +kernel
theorem dX12_after_15 : decode cX12_after 15 = .ok (.iload_n 2, 1) := by decide +kernel
theorem dX12_after_16 : decode cX12_after 16 = .ok (.iconst 0, 1) := by decide +kernel
theorem dX12_after_17 : decode cX12_after 17 = .ok (.iconst 3, 1) := by decide +kernel
theorem dX12_after_18 : decode cX12_after 18 = .ok (.invokestatic 401, 3) := by decide +kernel
theorem dX12_after_21 : decode cX12_after 21 = .ok (.ifCond .ne 5, 3) := by decide +kernel
theorem dX12_after_24 : decode cX12_after 24 = .ok (.iconst (-1), 1) := by decide +kernel
theorem dX12_after_25 : decode cX12_after 25 = .ok (.ireturn, 1) := by decide +kernel
theorem dX12_after_26 : decode cX12_after 26 = .ok (.aload_n 0, 1) := by decide +kernel
theorem dX12_after_27 : decode cX12_after 27 = .ok (.iconst 0, 1) := by decide +kernel
theorem dX12_after_28 : decode cX12_after 28 = .ok (.sipush 3255, 3) := by decide +kernel
theorem dX12_after_31 : decode cX12_after 31 = .ok (.sipush 130, 3) := by decide +kernel
theorem dX12_after_34 : decode cX12_after 34 = .ok (.invokevirtual 275, 3) := by decide +kernel
theorem dX12_after_37 : decode cX12_after 37 = .ok (.iconst 0, 1) := by decide +kernel
theorem dX12_after_38 : decode cX12_after 38 = .ok (.istore_n 3, 1) := by decide +kernel
theorem dX12_after_39 : decode cX12_after 39 = .ok (.iload_n 3, 1) := by decide +kernel
theorem dX12_after_40 : decode cX12_after 40 = .ok (.iload_n 1, 1) := by decide +kernel
theorem dX12_after_41 : decode cX12_after 41 = .ok (.if_icmp .ge 16, 3) := by decide +kernel
theorem dX12_after_44 : decode cX12_after 44 = .ok (.aload_n 0, 1) := by decide +kernel
theorem dX12_after_45 : decode cX12_after 45 = .ok (.sipush 3255, 3) := by decide +kernel
theorem dX12_after_48 : decode cX12_after 48 = .ok (.invokevirtual 459, 3) := by decide +kernel
theorem dX12_after_51 : decode cX12_after 51 = .ok (.iinc 3 1, 3) := by decide +kernel
theorem dX12_after_54 : decode cX12_after 54 = .ok (.goto (-15), 3) := by decide +kernel
theorem dX12_after_57 : decode cX12_after 57 = .ok (.iload_n 2, 1) := by decide +kernel
theorem dX12_after_58 : decode cX12_after 58 = .ok (.ifCond .ne 21, 3) := by decide +kernel
theorem dX12_after_61 : decode cX12_after 61 = .ok (.aload_n 0, 1) := by decide +kernel
theorem dX12_after_62 : decode cX12_after 62 = .ok (.sipush 3255, 3) := by decide +kernel
theorem dX12_after_65 : decode cX12_after 65 = .ok (.invokevirtual 447, 3) := by decide +kernel
theorem dX12_after_68 : decode cX12_after 68 = .ok (.ifCond .eq 7, 3) := by decide +kernel
theorem dX12_after_71 : decode cX12_after 71 = .ok (.iconst 1, 1) := by decide +kernel
theorem dX12_after_72 : decode cX12_after 72 = .ok (.goto 44, 3) := by decide +kernel
theorem dX12_after_75 : decode cX12_after 75 = .ok (.iconst 0, 1) := by decide +kernel
theorem dX12_after_76 : decode cX12_after 76 = .ok (.goto 40, 3) := by decide +kernel
theorem dX12_after_79 : decode cX12_after 79 = .ok (.iload_n 2, 1) := by decide +kernel
theorem dX12_after_80 : decode cX12_after 80 = .ok (.iconst 1, 1) := by decide +kernel
theorem dX12_after_81 : decode cX12_after 81 = .ok (.if_icmp .ne 13, 3) := by decide +kernel
theorem dX12_after_84 : decode cX12_after 84 = .ok (.aload_n 0, 1) := by decide +kernel
theorem dX12_after_85 : decode cX12_after 85 = .ok (.sipush 3255, 3) := by decide +kernel
theorem dX12_after_88 : decode cX12_after 88 = .ok (.invokevirtual 450, 3) := by decide +kernel
theorem dX12_after_91 : decode cX12_after 91 = .ok (.goto 25, 3) := by decide +kernel
theorem dX12_after_94 : decode cX12_after 94 = .ok (.iload_n 2, 1) := by decide +kernel
theorem dX12_after_95 : decode cX12_after 95 = .ok (.iconst 2, 1) := by decide +kernel
theorem dX12_after_96 : decode cX12_after 96 = .ok (.if_icmp .ne 13, 3) := by decide +kernel
theorem dX12_after_99 : decode cX12_after 99 = .ok (.aload_n 0, 1) := by decide +kernel
theorem dX12_after_100 : decode cX12_after 100 = .ok (.sipush 3255, 3) := by decide +kernel
theorem dX12_after_103 : decode cX12_after 103 = .ok (.invokevirtual 456, 3) := by decide +kernel
theorem dX12_after_106 : decode cX12_after 106 = .ok (.goto 10, 3) := by decide +kernel
theorem dX12_after_109 : decode cX12_after 109 = .ok (.aload_n 0, 1) := by decide +kernel
theorem dX12_after_110 : decode cX12_after 110 = .ok (.sipush 3255, 3) := by decide +kernel
theorem dX12_after_113 : decode cX12_after 113 = .ok (.invokevirtual 426, 3) := by decide +kernel
theorem dX12_after_116 : decode cX12_after 116 = .ok (.ireturn, 1) := by decide +kernel
def fX12_after (a0 : Nat) (a1 : Int) (a2 : Int) (G : Hp) : RT := bh (up G a0 0 0) fun G1 => bp (fX12_within a1 0 30 G1) fun v2 => if v2 = 0 then (rt ((-1)) G1) else (bp (fX12_within a2 0 3 G1) fun v3 => if v3 = 0 then (rt ((-1)) G1) else (bn (fX12_copies a0 0 3255 130 G1) fun _ G4 => bd 0 fun v5 => (lp (fun (_ : Int) (_ : Hp) => (none : RT)) 5000 (fun (rc8 : Int → Hp → RT) (v6 : Int) (G7 : Hp) => if v6 < a1 then (bn (fX12_rounds a0 3255 G7) fun _ G13 => bd (iadd v6 1) fun v14 => rc8 v14 G13) else (if a2 = 0 then (bp (fX12_isOrdered a0 3255 G7) fun v12 => if v12 = 0 then rt 0 G7 else rt 1 G7) else (if a2 = 1 then (bp (fX12_amissBy a0 3255 G7) fun v11 => rt v11 G7) else (if a2 = 2 then (bp (fX12_behindBy a0 3255 G7) fun v10 => rt v10 G7) else (bp (fX12_astrayBy a0 3255 G7) fun v9 => rt v9 G7)))))) v5 G4))
set_option maxRecDepth 20000 in
set_option maxHeartbeats 4000000 in
theorem tX12_after (l : Launch) (x : WX) (hi : Inj x.2.2) (G : Hp) (a0 : Nat) (a1 : Int) (a2 : Int) (ha0 : kd a0 = 12) : Ct l x yX12_after cX12_after 4 (some .int) 7 129 129 [vR a0, vI a1, vI a2] G (fX12_after a0 a1 a2 G) := by
  refine ct_of (plainFor_of_name (by decide)) hi (Nat.le_refl _) (Nat.le_refl _) (Nat.le_of_ble_eq_true rfl) (fun cx F hd hn0 hnE hl hQ => ?_)
  subst hl
  have F : Fx cx x RX12 cX12_after 4 (some .int) := F
  show Y cx x 4 (some .int) 129 0 [(0, vR a0), (1, vI a1), (2, vI a2)] [] G _
  unfold fX12_after
  refine x_aload_n F dX12_after_0 rfl rfl rfl ?_
  refine x_iconst F dX12_after_1 ⟨by decide, by decide⟩ rfl ?_
  refine s_putI F fpX12_1 ha0 rfl dX12_after_2 rfl (fun G1 => ?_)
  refine x_iload_n F dX12_after_5 rfl rfl rfl ?_
  refine x_iconst F dX12_after_6 ⟨by decide, by decide⟩ rfl ?_
  refine x_bipush F dX12_after_7 ⟨by decide, by decide⟩ (by decide) rfl ?_
  refine s_callSP F [vI a1, vI 0, vI 30] [] lkX12_401 mX12_within hnE hn0 hd pX12_within (tX12_within cx.l x hi G1 a1 0 30) rfl rfl dX12_after_9 rfl rfl (fun v2 => ?_)
  refine x_ifeq (pt := 24) F dX12_after_12 rfl rfl ?_ ?_
  · refine x_iconst F dX12_after_24 ⟨by decide, by decide⟩ rfl ?_
    exact x_iret F hnE hQ dX12_after_25
  · refine x_iload_n F dX12_after_15 rfl rfl rfl ?_
    refine x_iconst F dX12_after_16 ⟨by decide, by decide⟩ rfl ?_
    refine x_iconst F dX12_after_17 ⟨by decide, by decide⟩ rfl ?_
    refine s_callSP F [vI a2, vI 0, vI 3] [] lkX12_401 mX12_within hnE hn0 hd pX12_within (tX12_within cx.l x hi G1 a2 0 3) rfl rfl dX12_after_18 rfl rfl (fun v3 => ?_)
    refine x_ifne (pt := 26) F dX12_after_21 rfl rfl ?_ ?_
    · refine x_iconst F dX12_after_24 ⟨by decide, by decide⟩ rfl ?_
      exact x_iret F hnE hQ dX12_after_25
    · refine x_aload_n F dX12_after_26 rfl rfl rfl ?_
      refine x_iconst F dX12_after_27 ⟨by decide, by decide⟩ rfl ?_
      refine x_sipush F dX12_after_28 ⟨by decide, by decide⟩ (by decide) rfl ?_
      refine x_sipush F dX12_after_31 ⟨by decide, by decide⟩ (by decide) rfl ?_
      refine s_callVv F [vI 0, vI 3255, vI 130] [] lkX12_275 mX12_copies rfl ha0 rfl hnE hn0 hd (tX12_copies cx.l x hi G1 a0 0 3255 130 ha0) rfl rfl dX12_after_34 rfl rfl (fun _ G4 => ?_)
      refine x_iconst F dX12_after_37 ⟨by decide, by decide⟩ rfl ?_
      refine x_istore_n F dX12_after_38 rfl (by decide) rfl rfl (fun v5 => ?_)
      show Y cx x _ _ _ _ [(0, vR a0), (1, vI a1), (2, vI a2), (3, vI v5)] _ _ _
      refine x_lp (fun (rc8 : Int → Hp → RT) => ∀ (v6 : Int) (G7 : Hp), Y cx x 4 (some .int) 129 39 [(0, vR a0), (1, vI a1), (2, vI a2), (3, vI v6)] [] G7 (rc8 v6 G7)) (fun _ _ => Y_none) (fun rc8 hrc8 v6 G7 => ?_) 5000 v5 G4
      refine x_iload_n F dX12_after_39 rfl rfl rfl ?_
      refine x_iload_n F dX12_after_40 rfl rfl rfl ?_
      refine x_icmpge (pt := 57) F dX12_after_41 rfl rfl ?_ ?_
      · refine x_aload_n F dX12_after_44 rfl rfl rfl ?_
        refine x_sipush F dX12_after_45 ⟨by decide, by decide⟩ (by decide) rfl ?_
        refine s_callVv F [vI 3255] [] lkX12_459 mX12_rounds rfl ha0 rfl hnE hn0 hd (tX12_rounds cx.l x hi G7 a0 3255 ha0) rfl rfl dX12_after_48 rfl rfl (fun _ G13 => ?_)
        refine x_iinc F dX12_after_51 rfl (by decide) rfl rfl (fun v14 => ?_)
        show Y cx x _ _ _ _ [(0, vR a0), (1, vI a1), (2, vI a2), (3, vI v14)] _ _ _
        refine x_goto (pc' := 39) F dX12_after_54 rfl ?_
        exact hrc8 v14 G13
      · refine x_iload_n F dX12_after_57 rfl rfl rfl ?_
        refine x_ifne (pt := 79) F dX12_after_58 rfl rfl ?_ ?_
        · refine x_aload_n F dX12_after_61 rfl rfl rfl ?_
          refine x_sipush F dX12_after_62 ⟨by decide, by decide⟩ (by decide) rfl ?_
          refine s_callVP F [vI 3255] [] lkX12_447 mX12_isOrdered rfl ha0 rfl hnE hn0 hd pX12_isOrdered (tX12_isOrdered cx.l x hi G7 a0 3255 ha0) rfl rfl dX12_after_65 rfl rfl (fun v12 => ?_)
          refine x_ifeq (pt := 75) F dX12_after_68 rfl rfl ?_ ?_
          · refine x_iconst F dX12_after_75 ⟨by decide, by decide⟩ rfl ?_
            refine x_goto (pc' := 116) F dX12_after_76 rfl ?_
            exact x_iret F hnE hQ dX12_after_116
          · refine x_iconst F dX12_after_71 ⟨by decide, by decide⟩ rfl ?_
            refine x_goto (pc' := 116) F dX12_after_72 rfl ?_
            exact x_iret F hnE hQ dX12_after_116
        · refine x_iload_n F dX12_after_79 rfl rfl rfl ?_
          refine x_iconst F dX12_after_80 ⟨by decide, by decide⟩ rfl ?_
          refine x_icmpne (pt := 94) F dX12_after_81 rfl rfl ?_ ?_
          · refine x_aload_n F dX12_after_84 rfl rfl rfl ?_
            refine x_sipush F dX12_after_85 ⟨by decide, by decide⟩ (by decide) rfl ?_
            refine s_callVP F [vI 3255] [] lkX12_450 mX12_amissBy rfl ha0 rfl hnE hn0 hd pX12_amissBy (tX12_amissBy cx.l x hi G7 a0 3255 ha0) rfl rfl dX12_after_88 rfl rfl (fun v11 => ?_)
            refine x_goto (pc' := 116) F dX12_after_91 rfl ?_
            exact x_iret F hnE hQ dX12_after_116
          · refine x_iload_n F dX12_after_94 rfl rfl rfl ?_
            refine x_iconst F dX12_after_95 ⟨by decide, by decide⟩ rfl ?_
            refine x_icmpne (pt := 109) F dX12_after_96 rfl rfl ?_ ?_
            · refine x_aload_n F dX12_after_99 rfl rfl rfl ?_
              refine x_sipush F dX12_after_100 ⟨by decide, by decide⟩ (by decide) rfl ?_
              refine s_callVP F [vI 3255] [] lkX12_456 mX12_behindBy rfl ha0 rfl hnE hn0 hd pX12_behindBy (tX12_behindBy cx.l x hi G7 a0 3255 ha0) rfl rfl dX12_after_103 rfl rfl (fun v10 => ?_)
              refine x_goto (pc' := 116) F dX12_after_106 rfl ?_
              exact x_iret F hnE hQ dX12_after_116
            · refine x_aload_n F dX12_after_109 rfl rfl rfl ?_
              refine x_sipush F dX12_after_110 ⟨by decide, by decide⟩ (by decide) rfl ?_
              refine s_callVP F [vI 3255] [] lkX12_426 mX12_astrayBy rfl ha0 rfl hnE hn0 hd pX12_astrayBy (tX12_astrayBy cx.l x hi G7 a0 3255 ha0) rfl rfl dX12_after_113 rfl rfl (fun v9 => ?_)
              exact x_iret F hnE hQ dX12_after_116
theorem dX12_far_0 : decode cX12_far 0 = .ok (.aload_n 0, 1) := by decide +kernel
theorem dX12_far_1 : decode cX12_far 1 = .ok (.iconst 0, 1) := by decide +kernel
theorem dX12_far_2 : decode cX12_far 2 = .ok (.putfield 1, 3) := by decide +kernel
theorem dX12_far_5 : decode cX12_far 5 = .ok (.aload_n 0, 1) := by decide +kernel
theorem dX12_far_6 : decode cX12_far 6 = .ok (.iload_n 1, 1) := by decide +kernel
theorem dX12_far_7 : decode cX12_far 7 = .ok (.invokevirtual 465, 3) := by decide +kernel
theorem dX12_far_10 : decode cX12_far 10 = .ok (.ifCond .ne 5, 3) := by decide +kernel
theorem dX12_far_13 : decode cX12_far 13 = .ok (.iconst (-1), 1) := by decide +kernel
theorem dX12_far_14 : decode cX12_far 14 = .ok (.ireturn, 1) := by decide +kernel
theorem dX12_far_15 : decode cX12_far 15 = .ok (.iconst 0, 1) := by decide +kernel
theorem dX12_far_16 : decode cX12_far 16 = .ok (.istore_n 2, 1) := by decide +kernel
theorem dX12_far_17 : decode cX12_far 17 = .ok (.iconst 0, 1) := by decide +kernel
theorem dX12_far_18 : decode cX12_far 18 = .ok (.istore_n 3, 1) := by decide +kernel
theorem dX12_far_19 : decode cX12_far 19 = .ok (.iload_n 3, 1) := by decide +kernel
theorem dX12_far_20 : decode cX12_far 20 = .ok (.aload_n 0, 1) := by decide +kernel
theorem dX12_far_21 : decode cX12_far 21 = .ok (.invokevirtual 229, 3) := by decide +kernel
theorem dX12_far_24 : decode cX12_far 24 = .ok (.if_icmp .ge 36, 3) := by decide +kernel
theorem dX12_far_27 : decode cX12_far 27 = .ok (.aload_n 0, 1) := by decide +kernel
theorem dX12_far_28 : decode cX12_far 28 = .ok (.iconst 0, 1) := by decide +kernel
theorem dX12_far_29 : decode cX12_far 29 = .ok (.iload_n 1, 1) := by decide +kernel
theorem dX12_far_30 : decode cX12_far 30 = .ok (.aload_n 0, 1) := by decide +kernel
theorem dX12_far_31 : decode cX12_far 31 = .ok (.getfield 112, 3) := by decide +kernel
theorem dX12_far_34 : decode cX12_far 34 = .ok (.iload_n 3, 1) := by decide +kernel
theorem dX12_far_35 : decode cX12_far 35 = .ok (.iaload, 1) := by decide +kernel
theorem dX12_far_36 : decode cX12_far 36 = .ok (.invokevirtual 423, 3) := by decide +kernel
theorem dX12_far_39 : decode cX12_far 39 = .ok (.istore 4, 2) := by decide +kernel
theorem dX12_far_41 : decode cX12_far 41 = .ok (.iload 4, 2) := by decide +kernel
theorem dX12_far_43 : decode cX12_far 43 = .ok (.iload_n 2, 1) := by decide +kernel
theorem dX12_far_44 : decode cX12_far 44 = .ok (.if_icmp .le 8, 3) := by decide +kernel
theorem dX12_far_47 : decode cX12_far 47 = .ok (.iload 4, 2) := by decide +kernel
theorem dX12_far_49 : decode cX12_far 49 = .ok (.goto 4, 3) := by decide +kernel
theorem dX12_far_52 : decode cX12_far 52 = .ok (.iload_n 2, 1) := by decide +kernel
theorem dX12_far_53 : decode cX12_far 53 = .ok (.istore_n 2, 1) := by decide +kernel
theorem dX12_far_54 : decode cX12_far 54 = .ok (.iinc 3 1, 3) := by decide +kernel
theorem dX12_far_57 : decode cX12_far 57 = .ok (.goto (-38), 3) := by decide +kernel
theorem dX12_far_60 : decode cX12_far 60 = .ok (.iload_n 2, 1) := by decide +kernel
theorem dX12_far_61 : decode cX12_far 61 = .ok (.ireturn, 1) := by decide +kernel
def fX12_far (a0 : Nat) (a1 : Int) (G : Hp) : RT := bh (up G a0 0 0) fun G1 => bp (fX12_isThere a0 a1 G1) fun v2 => if v2 = 0 then (rt ((-1)) G1) else (bd 0 fun v3 => bd 0 fun v4 => (lp (fun (_ : Int) (_ : Int) (_ : Hp) => (none : RT)) 5000 (fun (rc8 : Int → Int → Hp → RT) (v5 : Int) (v6 : Int) (G7 : Hp) => bp (fX12_keys a0 G7) fun v9 => if v6 < v9 then (br (rd G7 ((rf a0 20)) 10 v6) fun v10 => bn (fX12_stepsTo a0 0 a1 v10 G7) fun v11 G12 => bd v11 fun v13 => jn (fun (v14 : Int) => bd v14 fun v16 => bd (iadd v6 1) fun v17 => rc8 v16 v17 G12) fun (K15 : Int → RT) => if v5 < v13 then K15 v13 else K15 v5) else rt v5 G7)) v3 v4 G1)
set_option maxRecDepth 20000 in
set_option maxHeartbeats 4000000 in
theorem tX12_far (l : Launch) (x : WX) (hi : Inj x.2.2) (G : Hp) (a0 : Nat) (a1 : Int) (ha0 : kd a0 = 12) : Ct l x yX12_far cX12_far 5 (some .int) 7 129 129 [vR a0, vI a1] G (fX12_far a0 a1 G) := by
  refine ct_of (plainFor_of_name (by decide)) hi (Nat.le_refl _) (Nat.le_refl _) (Nat.le_of_ble_eq_true rfl) (fun cx F hd hn0 hnE hl hQ => ?_)
  subst hl
  have F : Fx cx x RX12 cX12_far 5 (some .int) := F
  show Y cx x 5 (some .int) 129 0 [(0, vR a0), (1, vI a1)] [] G _
  unfold fX12_far
  refine x_aload_n F dX12_far_0 rfl rfl rfl ?_
  refine x_iconst F dX12_far_1 ⟨by decide, by decide⟩ rfl ?_
  refine s_putI F fpX12_1 ha0 rfl dX12_far_2 rfl (fun G1 => ?_)
  refine x_aload_n F dX12_far_5 rfl rfl rfl ?_
  refine x_iload_n F dX12_far_6 rfl rfl rfl ?_
  refine s_callVP F [vI a1] [] lkX12_465 mX12_isThere rfl ha0 rfl hnE hn0 hd pX12_isThere (tX12_isThere cx.l x hi G1 a0 a1 ha0) rfl rfl dX12_far_7 rfl rfl (fun v2 => ?_)
  refine x_ifne (pt := 15) F dX12_far_10 rfl rfl ?_ ?_
  · refine x_iconst F dX12_far_13 ⟨by decide, by decide⟩ rfl ?_
    exact x_iret F hnE hQ dX12_far_14
  · refine x_iconst F dX12_far_15 ⟨by decide, by decide⟩ rfl ?_
    refine x_istore_n F dX12_far_16 rfl (by decide) rfl rfl (fun v3 => ?_)
    show Y cx x _ _ _ _ [(0, vR a0), (1, vI a1), (2, vI v3)] _ _ _
    refine x_iconst F dX12_far_17 ⟨by decide, by decide⟩ rfl ?_
    refine x_istore_n F dX12_far_18 rfl (by decide) rfl rfl (fun v4 => ?_)
    show Y cx x _ _ _ _ [(0, vR a0), (1, vI a1), (2, vI v3), (3, vI v4)] _ _ _
    refine x_lp (fun (rc8 : Int → Int → Hp → RT) => ∀ (v5 : Int) (v6 : Int) (G7 : Hp), Y cx x 5 (some .int) 129 19 [(0, vR a0), (1, vI a1), (2, vI v5), (3, vI v6)] [] G7 (rc8 v5 v6 G7)) (fun _ _ _ => Y_none) (fun rc8 hrc8 v5 v6 G7 => ?_) 5000 v3 v4 G1
    refine x_iload_n F dX12_far_19 rfl rfl rfl ?_
    refine x_aload_n F dX12_far_20 rfl rfl rfl ?_
    refine s_callVP F [] [vI v6] lkX12_229 mX12_keys rfl ha0 rfl hnE hn0 hd pX12_keys (tX12_keys cx.l x hi G7 a0 ha0) rfl rfl dX12_far_21 rfl rfl (fun v9 => ?_)
    refine x_icmpge (pt := 60) F dX12_far_24 rfl rfl ?_ ?_
    · refine x_aload_n F dX12_far_27 rfl rfl rfl ?_
      refine x_iconst F dX12_far_28 ⟨by decide, by decide⟩ rfl ?_
      refine x_iload_n F dX12_far_29 rfl rfl rfl ?_
      refine x_aload_n F dX12_far_30 rfl rfl rfl ?_
      refine x_getR F flX12_112 ha0 rfl dX12_far_31 rfl ?_
      refine x_iload_n F dX12_far_34 rfl rfl rfl ?_
      refine s_iald F (tf12_20 ha0).1 (tf12_20 ha0).2 dX12_far_35 rfl (fun v10 => ?_)
      refine s_callV F [vI 0, vI a1, vI v10] [] lkX12_423 mX12_stepsTo rfl ha0 rfl hnE hn0 hd (tX12_stepsTo cx.l x hi G7 a0 0 a1 v10 ha0) rfl rfl dX12_far_36 rfl rfl (fun v11 G12 => ?_)
      refine x_istore F dX12_far_39 (by decide) rfl rfl (fun v13 => ?_)
      show Y cx x _ _ _ _ [(0, vR a0), (1, vI a1), (2, vI v5), (3, vI v6), (4, vI v13)] _ _ _
      refine x_iload F dX12_far_41 rfl rfl ?_
      refine x_iload_n F dX12_far_43 rfl rfl rfl ?_
      refine x_jn (fun (K15 : Int → RT) => ∀ (v14 : Int), Y cx x 5 (some .int) 129 53 [(0, vR a0), (1, vI a1), (3, vI v6)] [vI v14] G12 (K15 v14)) ?_ (fun K15 hK15 => ?_)
      · intro v14
        refine x_istore_n F dX12_far_53 rfl (by decide) rfl rfl (fun v16 => ?_)
        show Y cx x _ _ _ _ [(0, vR a0), (1, vI a1), (3, vI v6), (2, vI v16)] _ _ _
        refine x_iinc F dX12_far_54 rfl (by decide) rfl rfl (fun v17 => ?_)
        show Y cx x _ _ _ _ [(0, vR a0), (1, vI a1), (3, vI v17), (2, vI v16)] _ _ _
        refine x_goto (pc' := 19) F dX12_far_57 rfl ?_
        refine x_dp (L' := [(0, vR a0), (1, vI a1), (2, vI v16), (3, vI v17)]) [0, 1, 3, 2] rfl ?_
        exact hrc8 v16 v17 G12
      · refine x_icmple (pt := 52) F dX12_far_44 rfl rfl ?_ ?_
        · refine x_iload F dX12_far_47 rfl rfl ?_
          refine x_goto (pc' := 53) F dX12_far_49 rfl ?_
          refine x_dp (L' := [(0, vR a0), (1, vI a1), (3, vI v6)]) [0, 1, 3] rfl ?_
          exact hK15 v13
        · refine x_iload_n F dX12_far_52 rfl rfl rfl ?_
          refine x_dp (L' := [(0, vR a0), (1, vI a1), (3, vI v6)]) [0, 1, 3] rfl ?_
          exact hK15 v5
    · refine x_iload_n F dX12_far_60 rfl rfl rfl ?_
      exact x_iret F hnE hQ dX12_far_61
theorem dX12_toil_0 : decode cX12_toil 0 = .ok (.aload_n 0, 1) := by decide +kernel
theorem dX12_toil_1 : decode cX12_toil 1 = .ok (.iconst 0, 1) := by decide +kernel
theorem dX12_toil_2 : decode cX12_toil 2 = .ok (.putfield 1, 3) := by decide +kernel
theorem dX12_toil_5 : decode cX12_toil 5 = .ok (.aload_n 0, 1) := by decide +kernel
theorem dX12_toil_6 : decode cX12_toil 6 = .ok (.iload_n 1, 1) := by decide +kernel
theorem dX12_toil_7 : decode cX12_toil 7 = .ok (.invokevirtual 465, 3) := by decide +kernel
theorem dX12_toil_10 : decode cX12_toil 10 = .ok (.ifCond .ne 5, 3) := by decide +kernel
theorem dX12_toil_13 : decode cX12_toil 13 = .ok (.iconst (-1), 1) := by decide +kernel
theorem dX12_toil_14 : decode cX12_toil 14 = .ok (.ireturn, 1) := by decide +kernel
theorem dX12_toil_15 : decode cX12_toil 15 = .ok (.iconst 0, 1) := by decide +kernel
theorem dX12_toil_16 : decode cX12_toil 16 = .ok (.istore_n 2, 1) := by decide +kernel
theorem dX12_toil_17 : decode cX12_toil 17 = .ok (.iconst 0, 1) := by decide +kernel
theorem dX12_toil_18 : decode cX12_toil 18 = .ok (.istore_n 3, 1) := by decide +kernel
theorem dX12_toil_19 : decode cX12_toil 19 = .ok (.iload_n 3, 1) := by decide +kernel
theorem dX12_toil_20 : decode cX12_toil 20 = .ok (.aload_n 0, 1) := by decide +kernel
theorem dX12_toil_21 : decode cX12_toil 21 = .ok (.invokevirtual 229, 3) := by decide +kernel
theorem dX12_toil_24 : decode cX12_toil 24 = .ok (.if_icmp .ge 37, 3) := by decide +kernel
theorem dX12_toil_27 : decode cX12_toil 27 = .ok (.aload_n 0, 1) := by decide +kernel
theorem dX12_toil_28 : decode cX12_toil 28 = .ok (.iconst 0, 1) := by decide +kernel
theorem dX12_toil_29 : decode cX12_toil 29 = .ok (.iload_n 1, 1) := by decide +kernel
theorem dX12_toil_30 : decode cX12_toil 30 = .ok (.aload_n 0, 1) := by decide +kernel
theorem dX12_toil_31 : decode cX12_toil 31 = .ok (.getfield 112, 3) := by decide +kernel
theorem dX12_toil_34 : decode cX12_toil 34 = .ok (.iload_n 3, 1) := by decide +kernel
theorem dX12_toil_35 : decode cX12_toil 35 = .ok (.iaload, 1) := by decide +kernel
theorem dX12_toil_36 : decode cX12_toil 36 = .ok (.invokevirtual 423, 3) := by decide +kernel
theorem dX12_toil_39 : decode cX12_toil 39 = .ok (.istore 4, 2) := by decide +kernel
theorem dX12_toil_41 : decode cX12_toil 41 = .ok (.iload_n 2, 1) := by decide +kernel
theorem dX12_toil_42 : decode cX12_toil 42 = .ok (.iload 4, 2) := by decide +kernel
theorem dX12_toil_44 : decode cX12_toil 44 = .ok (.ifCond .le 8, 3) := by decide +kernel
theorem dX12_toil_47 : decode cX12_toil 47 = .ok (.iload 4, 2) := by decide +kernel
theorem dX12_toil_49 : decode cX12_toil 49 = .ok (.goto 4, 3) := by decide +kernel
theorem dX12_toil_52 : decode cX12_toil 52 = .ok (.iconst 0, 1) := by decide +kernel
theorem dX12_toil_53 : decode cX12_toil 53 = .ok (.iadd, 1) := by decide +kernel
theorem dX12_toil_54 : decode cX12_toil 54 = .ok (.istore_n 2, 1) := by decide +kernel
theorem dX12_toil_55 : decode cX12_toil 55 = .ok (.iinc 3 1, 3) := by decide +kernel
theorem dX12_toil_58 : decode cX12_toil 58 = .ok (.goto (-39), 3) := by decide +kernel
theorem dX12_toil_61 : decode cX12_toil 61 = .ok (.iload_n 2, 1) := by decide +kernel
theorem dX12_toil_62 : decode cX12_toil 62 = .ok (.ireturn, 1) := by decide +kernel
def fX12_toil (a0 : Nat) (a1 : Int) (G : Hp) : RT := bh (up G a0 0 0) fun G1 => bp (fX12_isThere a0 a1 G1) fun v2 => if v2 = 0 then (rt ((-1)) G1) else (bd 0 fun v3 => bd 0 fun v4 => (lp (fun (_ : Int) (_ : Int) (_ : Hp) => (none : RT)) 5000 (fun (rc8 : Int → Int → Hp → RT) (v5 : Int) (v6 : Int) (G7 : Hp) => bp (fX12_keys a0 G7) fun v9 => if v6 < v9 then (br (rd G7 ((rf a0 20)) 10 v6) fun v10 => bn (fX12_stepsTo a0 0 a1 v10 G7) fun v11 G12 => bd v11 fun v13 => jn (fun (v14 : Int) => bd (iadd v5 v14) fun v16 => bd (iadd v6 1) fun v17 => rc8 v16 v17 G12) fun (K15 : Int → RT) => if 0 < v13 then K15 v13 else K15 0) else rt v5 G7)) v3 v4 G1)
set_option maxRecDepth 20000 in
set_option maxHeartbeats 4000000 in
theorem tX12_toil (l : Launch) (x : WX) (hi : Inj x.2.2) (G : Hp) (a0 : Nat) (a1 : Int) (ha0 : kd a0 = 12) : Ct l x yX12_toil cX12_toil 5 (some .int) 7 129 129 [vR a0, vI a1] G (fX12_toil a0 a1 G) := by
  refine ct_of (plainFor_of_name (by decide)) hi (Nat.le_refl _) (Nat.le_refl _) (Nat.le_of_ble_eq_true rfl) (fun cx F hd hn0 hnE hl hQ => ?_)
  subst hl
  have F : Fx cx x RX12 cX12_toil 5 (some .int) := F
  show Y cx x 5 (some .int) 129 0 [(0, vR a0), (1, vI a1)] [] G _
  unfold fX12_toil
  refine x_aload_n F dX12_toil_0 rfl rfl rfl ?_
  refine x_iconst F dX12_toil_1 ⟨by decide, by decide⟩ rfl ?_
  refine s_putI F fpX12_1 ha0 rfl dX12_toil_2 rfl (fun G1 => ?_)
  refine x_aload_n F dX12_toil_5 rfl rfl rfl ?_
  refine x_iload_n F dX12_toil_6 rfl rfl rfl ?_
  refine s_callVP F [vI a1] [] lkX12_465 mX12_isThere rfl ha0 rfl hnE hn0 hd pX12_isThere (tX12_isThere cx.l x hi G1 a0 a1 ha0) rfl rfl dX12_toil_7 rfl rfl (fun v2 => ?_)
  refine x_ifne (pt := 15) F dX12_toil_10 rfl rfl ?_ ?_
  · refine x_iconst F dX12_toil_13 ⟨by decide, by decide⟩ rfl ?_
    exact x_iret F hnE hQ dX12_toil_14
  · refine x_iconst F dX12_toil_15 ⟨by decide, by decide⟩ rfl ?_
    refine x_istore_n F dX12_toil_16 rfl (by decide) rfl rfl (fun v3 => ?_)
    show Y cx x _ _ _ _ [(0, vR a0), (1, vI a1), (2, vI v3)] _ _ _
    refine x_iconst F dX12_toil_17 ⟨by decide, by decide⟩ rfl ?_
    refine x_istore_n F dX12_toil_18 rfl (by decide) rfl rfl (fun v4 => ?_)
    show Y cx x _ _ _ _ [(0, vR a0), (1, vI a1), (2, vI v3), (3, vI v4)] _ _ _
    refine x_lp (fun (rc8 : Int → Int → Hp → RT) => ∀ (v5 : Int) (v6 : Int) (G7 : Hp), Y cx x 5 (some .int) 129 19 [(0, vR a0), (1, vI a1), (2, vI v5), (3, vI v6)] [] G7 (rc8 v5 v6 G7)) (fun _ _ _ => Y_none) (fun rc8 hrc8 v5 v6 G7 => ?_) 5000 v3 v4 G1
    refine x_iload_n F dX12_toil_19 rfl rfl rfl ?_
    refine x_aload_n F dX12_toil_20 rfl rfl rfl ?_
    refine s_callVP F [] [vI v6] lkX12_229 mX12_keys rfl ha0 rfl hnE hn0 hd pX12_keys (tX12_keys cx.l x hi G7 a0 ha0) rfl rfl dX12_toil_21 rfl rfl (fun v9 => ?_)
    refine x_icmpge (pt := 61) F dX12_toil_24 rfl rfl ?_ ?_
    · refine x_aload_n F dX12_toil_27 rfl rfl rfl ?_
      refine x_iconst F dX12_toil_28 ⟨by decide, by decide⟩ rfl ?_
      refine x_iload_n F dX12_toil_29 rfl rfl rfl ?_
      refine x_aload_n F dX12_toil_30 rfl rfl rfl ?_
      refine x_getR F flX12_112 ha0 rfl dX12_toil_31 rfl ?_
      refine x_iload_n F dX12_toil_34 rfl rfl rfl ?_
      refine s_iald F (tf12_20 ha0).1 (tf12_20 ha0).2 dX12_toil_35 rfl (fun v10 => ?_)
      refine s_callV F [vI 0, vI a1, vI v10] [] lkX12_423 mX12_stepsTo rfl ha0 rfl hnE hn0 hd (tX12_stepsTo cx.l x hi G7 a0 0 a1 v10 ha0) rfl rfl dX12_toil_36 rfl rfl (fun v11 G12 => ?_)
      refine x_istore F dX12_toil_39 (by decide) rfl rfl (fun v13 => ?_)
      show Y cx x _ _ _ _ [(0, vR a0), (1, vI a1), (2, vI v5), (3, vI v6), (4, vI v13)] _ _ _
      refine x_iload_n F dX12_toil_41 rfl rfl rfl ?_
      refine x_iload F dX12_toil_42 rfl rfl ?_
      refine x_jn (fun (K15 : Int → RT) => ∀ (v14 : Int), Y cx x 5 (some .int) 129 53 [(0, vR a0), (1, vI a1), (3, vI v6)] [vI v14, vI v5] G12 (K15 v14)) ?_ (fun K15 hK15 => ?_)
      · intro v14
        refine x_iadd F dX12_toil_53 rfl ?_
        refine x_istore_n F dX12_toil_54 rfl (by decide) rfl rfl (fun v16 => ?_)
        show Y cx x _ _ _ _ [(0, vR a0), (1, vI a1), (3, vI v6), (2, vI v16)] _ _ _
        refine x_iinc F dX12_toil_55 rfl (by decide) rfl rfl (fun v17 => ?_)
        show Y cx x _ _ _ _ [(0, vR a0), (1, vI a1), (3, vI v17), (2, vI v16)] _ _ _
        refine x_goto (pc' := 19) F dX12_toil_58 rfl ?_
        refine x_dp (L' := [(0, vR a0), (1, vI a1), (2, vI v16), (3, vI v17)]) [0, 1, 3, 2] rfl ?_
        exact hrc8 v16 v17 G12
      · refine x_ifle (pt := 52) F dX12_toil_44 rfl rfl ?_ ?_
        · refine x_iload F dX12_toil_47 rfl rfl ?_
          refine x_goto (pc' := 53) F dX12_toil_49 rfl ?_
          refine x_dp (L' := [(0, vR a0), (1, vI a1), (3, vI v6)]) [0, 1, 3] rfl ?_
          exact hK15 v13
        · refine x_iconst F dX12_toil_52 ⟨by decide, by decide⟩ rfl ?_
          refine x_dp (L' := [(0, vR a0), (1, vI a1), (3, vI v6)]) [0, 1, 3] rfl ?_
          exact hK15 0
    · refine x_iload_n F dX12_toil_61 rfl rfl rfl ?_
      exact x_iret F hnE hQ dX12_toil_62
theorem dX12_whoNow_0 : decode cX12_whoNow 0 = .ok (.iconst 0, 1) := by decide +kernel
theorem dX12_whoNow_1 : decode cX12_whoNow 1 = .ok (.istore_n 1, 1) := by decide +kernel
theorem dX12_whoNow_2 : decode cX12_whoNow 2 = .ok (.iconst 0, 1) := by decide +kernel
theorem dX12_whoNow_3 : decode cX12_whoNow 3 = .ok (.istore_n 2, 1) := by decide +kernel
theorem dX12_whoNow_4 : decode cX12_whoNow 4 = .ok (.iload_n 2, 1) := by decide +kernel
theorem dX12_whoNow_5 : decode cX12_whoNow 5 = .ok (.aload_n 0, 1) := by decide +kernel
theorem dX12_whoNow_6 : decode cX12_whoNow 6 = .ok (.invokevirtual 236, 3) := by decide +kernel
theorem dX12_whoNow_9 : decode cX12_whoNow 9 = .ok (.if_icmp .ge 136, 3) := by decide +kernel
theorem dX12_whoNow_12 : decode cX12_whoNow 12 = .ok (.aload_n 0, 1) := by decide +kernel
theorem dX12_whoNow_13 : decode cX12_whoNow 13 = .ok (.iconst 0, 1) := by decide +kernel
theorem dX12_whoNow_14 : decode cX12_whoNow 14 = .ok (.iload_n 2, 1) := by decide +kernel
theorem dX12_whoNow_15 : decode cX12_whoNow 15 = .ok (.invokevirtual 278, 3) := by decide +kernel
theorem dX12_whoNow_18 : decode cX12_whoNow 18 = .ok (.istore_n 3, 1) := by decide +kernel
theorem dX12_whoNow_19 : decode cX12_whoNow 19 = .ok (.iconst 0, 1) := by decide +kernel
theorem dX12_whoNow_20 : decode cX12_whoNow 20 = .ok (.istore 4, 2) := by decide +kernel
theorem dX12_whoNow_22 : decode cX12_whoNow 22 = .ok (.iload 4, 2) := by decide +kernel
theorem dX12_whoNow_24 : decode cX12_whoNow 24 = .ok (.aload_n 0, 1) := by decide +kernel
theorem dX12_whoNow_25 : decode cX12_whoNow 25 = .ok (.getfield 105, 3) := by decide +kernel
theorem dX12_whoNow_28 : decode cX12_whoNow 28 = .ok (.sipush 130, 3) := by decide +kernel
theorem dX12_whoNow_31 : decode cX12_whoNow 31 = .ok (.iaload, 1) := by decide +kernel
theorem dX12_whoNow_32 : decode cX12_whoNow 32 = .ok (.if_icmp .ge 93, 3) := by decide +kernel
theorem dX12_whoNow_35 : decode cX12_whoNow 35 = .ok (.sipush 131, 3) := by decide +kernel
theorem dX12_whoNow_38 : decode cX12_whoNow 38 = .ok (.iconst 3, 1) := by decide +kernel
theorem dX12_whoNow_39 : decode cX12_whoNow 39 = .ok (.iload 4, 2) := by decide +kernel
theorem dX12_whoNow_41 : decode cX12_whoNow 41 = .ok (.imul, 1) := by decide +kernel
theorem dX12_whoNow_42 : decode cX12_whoNow 42 = .ok (.iadd, 1) := by decide +kernel
theorem dX12_whoNow_43 : decode cX12_whoNow 43 = .ok (.istore 5, 2) := by decide +kernel
theorem dX12_whoNow_45 : decode cX12_whoNow 45 = .ok (.iload_n 3, 1) := by decide +kernel
theorem dX12_whoNow_46 : decode cX12_whoNow 46 = .ok (.ifCond .eq 19, 3) := by decide +kernel
theorem dX12_whoNow_49 : decode cX12_whoNow 49 = .ok (.aload_n 0, 1) := by decide +kernel
theorem dX12_whoNow_50 : decode cX12_whoNow 50 = .ok (.iconst 0, 1) := by decide +kernel
theorem dX12_whoNow_51 : decode cX12_whoNow 51 = .ok (.iload_n 2, 1) := by decide +kernel
theorem dX12_whoNow_52 : decode cX12_whoNow 52 = .ok (.aload_n 0, 1) := by decide +kernel
theorem dX12_whoNow_53 : decode cX12_whoNow 53 = .ok (.getfield 105, 3) := by decide +kernel
theorem dX12_whoNow_56 : decode cX12_whoNow 56 = .ok (.iload 5, 2) := by decide +kernel
theorem dX12_whoNow_58 : decode cX12_whoNow 58 = .ok (.iaload, 1) := by decide +kernel
theorem dX12_whoNow_59 : decode cX12_whoNow 59 = .ok (.invokevirtual 423, 3) := by decide +kernel
theorem dX12_whoNow_62 : decode cX12_whoNow 62 = .ok (.goto 4, 3) := by decide +kernel
theorem dX12_whoNow_65 : decode cX12_whoNow 65 = .ok (.iconst (-1), 1) := by decide +kernel
theorem dX12_whoNow_66 : decode cX12_whoNow 66 = .ok (.istore 6, 2) := by decide +kernel
theorem dX12_whoNow_68 : decode cX12_whoNow 68 = .ok (.iload 6, 2) := by decide +kernel
theorem dX12_whoNow_70 : decode cX12_whoNow 70 = .ok (.ifCond .lt 47, 3) := by decide +kernel
theorem dX12_whoNow_73 : decode cX12_whoNow 73 = .ok (.iload 6, 2) := by decide +kernel
theorem dX12_whoNow_75 : decode cX12_whoNow 75 = .ok (.aload_n 0, 1) := by decide +kernel
theorem dX12_whoNow_76 : decode cX12_whoNow 76 = .ok (.getfield 105, 3) := by decide +kernel
theorem dX12_whoNow_79 : decode cX12_whoNow 79 = .ok (.iload 5, 2) := by decide +kernel
theorem dX12_whoNow_81 : decode cX12_whoNow 81 = .ok (.iconst 1, 1) := by decide +kernel
theorem dX12_whoNow_82 : decode cX12_whoNow 82 = .ok (.iadd, 1) := by decide +kernel
theorem dX12_whoNow_83 : decode cX12_whoNow 83 = .ok (.iaload, 1) := by decide +kernel
theorem dX12_whoNow_84 : decode cX12_whoNow 84 = .ok (.if_icmp .lt 7, 3) := by decide +kernel
theorem dX12_whoNow_87 : decode cX12_whoNow 87 = .ok (.iconst 1, 1) := by decide +kernel
theorem dX12_whoNow_88 : decode cX12_whoNow 88 = .ok (.goto 4, 3) := by decide +kernel
theorem dX12_whoNow_91 : decode cX12_whoNow 91 = .ok (.iconst 0, 1) := by decide +kernel
theorem dX12_whoNow_92 : decode cX12_whoNow 92 = .ok (.aload_n 0, 1) := by decide +kernel
theorem dX12_whoNow_93 : decode cX12_whoNow 93 = .ok (.getfield 105, 3) := by decide +kernel
theorem dX12_whoNow_96 : decode cX12_whoNow 96 = .ok (.iload 5, 2) := by decide +kernel
theorem dX12_whoNow_98 : decode cX12_whoNow 98 = .ok (.iconst 2, 1) := by decide +kernel
theorem dX12_whoNow_99 : decode cX12_whoNow 99 = .ok (.iadd, 1) := by decide +kernel
theorem dX12_whoNow_100 : decode cX12_whoNow 100 = .ok (.iaload, 1) := by decide +kernel
theorem dX12_whoNow_101 : decode cX12_whoNow 101 = .ok (.iconst 1, 1) := by decide +kernel
theorem dX12_whoNow_102 : decode cX12_whoNow 102 = .ok (.if_icmp .ne 7, 3) := by decide +kernel
theorem dX12_whoNow_105 : decode cX12_whoNow 105 = .ok (.iconst 1, 1) := by decide +kernel
theorem dX12_whoNow_106 : decode cX12_whoNow 106 = .ok (.goto 4, 3) := by decide +kernel
theorem dX12_whoNow_109 : decode cX12_whoNow 109 = .ok (.iconst 0, 1) := by decide +kernel
theorem dX12_whoNow_110 : decode cX12_whoNow 110 = .ok (.if_icmp .ne 7, 3) := by decide +kernel
theorem dX12_whoNow_113 : decode cX12_whoNow 113 = .ok (.iconst 1, 1) := by decide +kernel
theorem dX12_whoNow_114 : decode cX12_whoNow 114 = .ok (.goto 4, 3) := by decide +kernel
theorem dX12_whoNow_117 : decode cX12_whoNow 117 = .ok (.iconst 0, 1) := by decide +kernel
theorem dX12_whoNow_118 : decode cX12_whoNow 118 = .ok (.istore_n 3, 1) := by decide +kernel
theorem dX12_whoNow_119 : decode cX12_whoNow 119 = .ok (.iinc 4 1, 3) := by decide +kernel
theorem dX12_whoNow_122 : decode cX12_whoNow 122 = .ok (.goto (-100), 3) := by decide +kernel
theorem dX12_whoNow_125 : decode cX12_whoNow 125 = .ok (.iload_n 1, 1) := by decide +kernel
theorem dX12_whoNow_126 : decode cX12_whoNow 126 = .ok (.iload_n 3, 1) := by decide +kernel
theorem dX12_whoNow_127 : decode cX12_whoNow 127 = .ok (.ifCond .eq 9, 3) := by decide +kernel
theorem dX12_whoNow_130 : decode cX12_whoNow 130 = .ok (.iconst 1, 1) := by decide +kernel
theorem dX12_whoNow_131 : decode cX12_whoNow 131 = .ok (.iload_n 2, 1) := by decide +kernel
theorem dX12_whoNow_132 : decode cX12_whoNow 132 = .ok (.ishl, 1) := by decide +kernel
theorem dX12_whoNow_133 : decode cX12_whoNow 133 = .ok (.goto 4, 3) := by decide +kernel
theorem dX12_whoNow_136 : decode cX12_whoNow 136 = .ok (.iconst 0, 1) := by decide +kernel
theorem dX12_whoNow_137 : decode cX12_whoNow 137 = .ok (.ior, 1) := by decide +kernel
theorem dX12_whoNow_138 : decode cX12_whoNow 138 = .ok (.istore_n 1, 1) := by decide +kernel
theorem dX12_whoNow_139 : decode cX12_whoNow 139 = .ok (.iinc 2 1, 3) := by decide +kernel
theorem dX12_whoNow_142 : decode cX12_whoNow 142 = .ok (.goto (-138), 3) := by decide +kernel
theorem dX12_whoNow_145 : decode cX12_whoNow 145 = .ok (.iload_n 1, 1) := by decide +kernel
theorem dX12_whoNow_146 : decode cX12_whoNow 146 = .ok (.ireturn, 1) := by decide +kernel
def fX12_whoNow (a0 : Nat) (G : Hp) : RT := bd 0 fun v1 => bd 0 fun v2 => (lp (fun (_ : Int) (_ : Int) (_ : Hp) => (none : RT)) 5000 (fun (rc6 : Int → Int → Hp → RT) (v3 : Int) (v4 : Int) (G5 : Hp) => bp (fX12_nodes a0 G5) fun v7 => if v4 < v7 then (bp (fX12_isIn a0 0 v4 G5) fun v8 => bd v8 fun v9 => bd 0 fun v10 => (lp (fun (_ : Int) (_ : Int) (_ : Hp) => (none : RT)) 5000 (fun (rc14 : Int → Int → Hp → RT) (v11 : Int) (v12 : Int) (G13 : Hp) => br (rd G13 ((rf a0 17)) 3565 130) fun v15 => if v12 < v15 then (bd (iadd 131 (imul 3 v12)) fun v20 => jn (fun (v21 : Int) (G22 : Hp) => bd v21 fun v24 => jn (fun (v25 : Int) => bd v25 fun v27 => bd (iadd v12 1) fun v28 => rc14 v27 v28 G22) fun (K26 : Int → RT) => jn (K26 0) fun (K29 : RT) => if v24 < 0 then K29 else (br (rd G22 ((rf a0 17)) 3565 (iadd v20 1)) fun v30 => jn (fun (v31 : Int) => br (rd G22 ((rf a0 17)) 3565 (iadd v20 2)) fun v33 => jn (fun (v34 : Int) => if v31 = v34 then K26 1 else K29) fun (K35 : Int → RT) => if v33 = 1 then K35 1 else K35 0) fun (K32 : Int → RT) => if v24 < v30 then K32 0 else K32 1)) fun (K23 : Int → Hp → RT) => if v11 = 0 then (K23 ((-1)) G13) else (br (rd G13 ((rf a0 17)) 3565 v20) fun v36 => bn (fX12_stepsTo a0 0 v4 v36 G13) fun v37 G38 => K23 v37 G38)) else (jn (fun (v16 : Int) => bd (ior v3 v16) fun v18 => bd (iadd v4 1) fun v19 => rc6 v18 v19 G13) fun (K17 : Int → RT) => if v11 = 0 then K17 0 else (K17 (ishl 1 v4))))) v9 v10 G5) else rt v3 G5)) v1 v2 G
set_option maxRecDepth 20000 in
set_option maxHeartbeats 4000000 in
theorem tX12_whoNow (l : Launch) (x : WX) (hi : Inj x.2.2) (G : Hp) (a0 : Nat) (ha0 : kd a0 = 12) : Ct l x yX12_whoNow cX12_whoNow 7 (some .int) 7 129 129 [vR a0] G (fX12_whoNow a0 G) := by
  refine ct_of (plainFor_of_name (by decide)) hi (Nat.le_refl _) (Nat.le_refl _) (Nat.le_of_ble_eq_true rfl) (fun cx F hd hn0 hnE hl hQ => ?_)
  subst hl
  have F : Fx cx x RX12 cX12_whoNow 7 (some .int) := F
  show Y cx x 7 (some .int) 129 0 [(0, vR a0)] [] G _
  unfold fX12_whoNow
  refine x_iconst F dX12_whoNow_0 ⟨by decide, by decide⟩ rfl ?_
  refine x_istore_n F dX12_whoNow_1 rfl (by decide) rfl rfl (fun v1 => ?_)
  show Y cx x _ _ _ _ [(0, vR a0), (1, vI v1)] _ _ _
  refine x_iconst F dX12_whoNow_2 ⟨by decide, by decide⟩ rfl ?_
  refine x_istore_n F dX12_whoNow_3 rfl (by decide) rfl rfl (fun v2 => ?_)
  show Y cx x _ _ _ _ [(0, vR a0), (1, vI v1), (2, vI v2)] _ _ _
  refine x_lp (fun (rc6 : Int → Int → Hp → RT) => ∀ (v3 : Int) (v4 : Int) (G5 : Hp), Y cx x 7 (some .int) 129 4 [(0, vR a0), (1, vI v3), (2, vI v4)] [] G5 (rc6 v3 v4 G5)) (fun _ _ _ => Y_none) (fun rc6 hrc6 v3 v4 G5 => ?_) 5000 v1 v2 G
  refine x_iload_n F dX12_whoNow_4 rfl rfl rfl ?_
  refine x_aload_n F dX12_whoNow_5 rfl rfl rfl ?_
  refine s_callVP F [] [vI v4] lkX12_236 mX12_nodes rfl ha0 rfl hnE hn0 hd pX12_nodes (tX12_nodes cx.l x hi G5 a0 ha0) rfl rfl dX12_whoNow_6 rfl rfl (fun v7 => ?_)
  refine x_icmpge (pt := 145) F dX12_whoNow_9 rfl rfl ?_ ?_
  · refine x_aload_n F dX12_whoNow_12 rfl rfl rfl ?_
    refine x_iconst F dX12_whoNow_13 ⟨by decide, by decide⟩ rfl ?_
    refine x_iload_n F dX12_whoNow_14 rfl rfl rfl ?_
    refine s_callVP F [vI 0, vI v4] [] lkX12_278 mX12_isIn rfl ha0 rfl hnE hn0 hd pX12_isIn (tX12_isIn cx.l x hi G5 a0 0 v4 ha0) rfl rfl dX12_whoNow_15 rfl rfl (fun v8 => ?_)
    refine x_istore_n F dX12_whoNow_18 rfl (by decide) rfl rfl (fun v9 => ?_)
    show Y cx x _ _ _ _ [(0, vR a0), (1, vI v3), (2, vI v4), (3, vI v9)] _ _ _
    refine x_iconst F dX12_whoNow_19 ⟨by decide, by decide⟩ rfl ?_
    refine x_istore F dX12_whoNow_20 (by decide) rfl rfl (fun v10 => ?_)
    show Y cx x _ _ _ _ [(0, vR a0), (1, vI v3), (2, vI v4), (3, vI v9), (4, vI v10)] _ _ _
    refine x_lp (fun (rc14 : Int → Int → Hp → RT) => ∀ (v11 : Int) (v12 : Int) (G13 : Hp), Y cx x 7 (some .int) 129 22 [(0, vR a0), (1, vI v3), (2, vI v4), (3, vI v11), (4, vI v12)] [] G13 (rc14 v11 v12 G13)) (fun _ _ _ => Y_none) (fun rc14 hrc14 v11 v12 G13 => ?_) 5000 v9 v10 G5
    refine x_iload F dX12_whoNow_22 rfl rfl ?_
    refine x_aload_n F dX12_whoNow_24 rfl rfl rfl ?_
    refine x_getR F flX12_105 ha0 rfl dX12_whoNow_25 rfl ?_
    refine x_sipush F dX12_whoNow_28 ⟨by decide, by decide⟩ (by decide) rfl ?_
    refine s_iald F (tf12_17 ha0).1 (tf12_17 ha0).2 dX12_whoNow_31 rfl (fun v15 => ?_)
    refine x_icmpge (pt := 125) F dX12_whoNow_32 rfl rfl ?_ ?_
    · refine x_sipush F dX12_whoNow_35 ⟨by decide, by decide⟩ (by decide) rfl ?_
      refine x_iconst F dX12_whoNow_38 ⟨by decide, by decide⟩ rfl ?_
      refine x_iload F dX12_whoNow_39 rfl rfl ?_
      refine x_imul F dX12_whoNow_41 rfl ?_
      refine x_iadd F dX12_whoNow_42 rfl ?_
      refine x_istore F dX12_whoNow_43 (by decide) rfl rfl (fun v20 => ?_)
      show Y cx x _ _ _ _ [(0, vR a0), (1, vI v3), (2, vI v4), (3, vI v11), (4, vI v12), (5, vI v20)] _ _ _
      refine x_iload_n F dX12_whoNow_45 rfl rfl rfl ?_
      refine x_jn (fun (K23 : Int → Hp → RT) => ∀ (v21 : Int) (G22 : Hp), Y cx x 7 (some .int) 129 66 [(0, vR a0), (1, vI v3), (2, vI v4), (4, vI v12), (5, vI v20)] [vI v21] G22 (K23 v21 G22)) ?_ (fun K23 hK23 => ?_)
      · intro v21 G22
        refine x_istore F dX12_whoNow_66 (by decide) rfl rfl (fun v24 => ?_)
        show Y cx x _ _ _ _ [(0, vR a0), (1, vI v3), (2, vI v4), (4, vI v12), (5, vI v20), (6, vI v24)] _ _ _
        refine x_iload F dX12_whoNow_68 rfl rfl ?_
        refine x_jn (fun (K26 : Int → RT) => ∀ (v25 : Int), Y cx x 7 (some .int) 129 118 [(0, vR a0), (1, vI v3), (2, vI v4), (4, vI v12)] [vI v25] G22 (K26 v25)) ?_ (fun K26 hK26 => ?_)
        · intro v25
          refine x_istore_n F dX12_whoNow_118 rfl (by decide) rfl rfl (fun v27 => ?_)
          show Y cx x _ _ _ _ [(0, vR a0), (1, vI v3), (2, vI v4), (4, vI v12), (3, vI v27)] _ _ _
          refine x_iinc F dX12_whoNow_119 rfl (by decide) rfl rfl (fun v28 => ?_)
          show Y cx x _ _ _ _ [(0, vR a0), (1, vI v3), (2, vI v4), (4, vI v28), (3, vI v27)] _ _ _
          refine x_goto (pc' := 22) F dX12_whoNow_122 rfl ?_
          refine x_dp (L' := [(0, vR a0), (1, vI v3), (2, vI v4), (3, vI v27), (4, vI v28)]) [0, 1, 2, 4, 3] rfl ?_
          exact hrc14 v27 v28 G22
        · refine x_jn (fun (K29 : RT) => Y cx x 7 (some .int) 129 117 [(0, vR a0), (1, vI v3), (2, vI v4), (4, vI v12)] [] G22 K29) ?_ (fun K29 hK29 => ?_)
          · refine x_iconst F dX12_whoNow_117 ⟨by decide, by decide⟩ rfl ?_
            exact hK26 0
          · refine x_iflt (pt := 117) F dX12_whoNow_70 rfl rfl ?_ ?_
            · refine x_dp (L' := [(0, vR a0), (1, vI v3), (2, vI v4), (4, vI v12)]) [0, 1, 2, 3] rfl ?_
              exact hK29
            · refine x_iload F dX12_whoNow_73 rfl rfl ?_
              refine x_aload_n F dX12_whoNow_75 rfl rfl rfl ?_
              refine x_getR F flX12_105 ha0 rfl dX12_whoNow_76 rfl ?_
              refine x_iload F dX12_whoNow_79 rfl rfl ?_
              refine x_iconst F dX12_whoNow_81 ⟨by decide, by decide⟩ rfl ?_
              refine x_iadd F dX12_whoNow_82 rfl ?_
              refine s_iald F (tf12_17 ha0).1 (tf12_17 ha0).2 dX12_whoNow_83 rfl (fun v30 => ?_)
              refine x_jn (fun (K32 : Int → RT) => ∀ (v31 : Int), Y cx x 7 (some .int) 129 92 [(0, vR a0), (1, vI v3), (2, vI v4), (4, vI v12), (5, vI v20)] [vI v31] G22 (K32 v31)) ?_ (fun K32 hK32 => ?_)
              · intro v31
                refine x_aload_n F dX12_whoNow_92 rfl rfl rfl ?_
                refine x_getR F flX12_105 ha0 rfl dX12_whoNow_93 rfl ?_
                refine x_iload F dX12_whoNow_96 rfl rfl ?_
                refine x_iconst F dX12_whoNow_98 ⟨by decide, by decide⟩ rfl ?_
                refine x_iadd F dX12_whoNow_99 rfl ?_
                refine s_iald F (tf12_17 ha0).1 (tf12_17 ha0).2 dX12_whoNow_100 rfl (fun v33 => ?_)
                refine x_iconst F dX12_whoNow_101 ⟨by decide, by decide⟩ rfl ?_
                refine x_jn (fun (K35 : Int → RT) => ∀ (v34 : Int), Y cx x 7 (some .int) 129 110 [(0, vR a0), (1, vI v3), (2, vI v4), (4, vI v12)] [vI v34, vI v31] G22 (K35 v34)) ?_ (fun K35 hK35 => ?_)
                · intro v34
                  refine x_icmpne (pt := 117) F dX12_whoNow_110 rfl rfl ?_ ?_
                  · refine x_iconst F dX12_whoNow_113 ⟨by decide, by decide⟩ rfl ?_
                    refine x_goto (pc' := 118) F dX12_whoNow_114 rfl ?_
                    exact hK26 1
                  · exact hK29
                · refine x_icmpne (pt := 109) F dX12_whoNow_102 rfl rfl ?_ ?_
                  · refine x_iconst F dX12_whoNow_105 ⟨by decide, by decide⟩ rfl ?_
                    refine x_goto (pc' := 110) F dX12_whoNow_106 rfl ?_
                    refine x_dp (L' := [(0, vR a0), (1, vI v3), (2, vI v4), (4, vI v12)]) [0, 1, 2, 3] rfl ?_
                    exact hK35 1
                  · refine x_iconst F dX12_whoNow_109 ⟨by decide, by decide⟩ rfl ?_
                    refine x_dp (L' := [(0, vR a0), (1, vI v3), (2, vI v4), (4, vI v12)]) [0, 1, 2, 3] rfl ?_
                    exact hK35 0
              · refine x_icmplt (pt := 91) F dX12_whoNow_84 rfl rfl ?_ ?_
                · refine x_iconst F dX12_whoNow_91 ⟨by decide, by decide⟩ rfl ?_
                  refine x_dp (L' := [(0, vR a0), (1, vI v3), (2, vI v4), (4, vI v12), (5, vI v20)]) [0, 1, 2, 3, 4] rfl ?_
                  exact hK32 0
                · refine x_iconst F dX12_whoNow_87 ⟨by decide, by decide⟩ rfl ?_
                  refine x_goto (pc' := 92) F dX12_whoNow_88 rfl ?_
                  refine x_dp (L' := [(0, vR a0), (1, vI v3), (2, vI v4), (4, vI v12), (5, vI v20)]) [0, 1, 2, 3, 4] rfl ?_
                  exact hK32 1
      · refine x_ifeq (pt := 65) F dX12_whoNow_46 rfl rfl ?_ ?_
        · refine x_iconst F dX12_whoNow_65 ⟨by decide, by decide⟩ rfl ?_
          refine x_dp (L' := [(0, vR a0), (1, vI v3), (2, vI v4), (4, vI v12), (5, vI v20)]) [0, 1, 2, 4, 5] rfl ?_
          exact hK23 ((-1)) G13
        · refine x_aload_n F dX12_whoNow_49 rfl rfl rfl ?_
          refine x_iconst F dX12_whoNow_50 ⟨by decide, by decide⟩ rfl ?_
          refine x_iload_n F dX12_whoNow_51 rfl rfl rfl ?_
          refine x_aload_n F dX12_whoNow_52 rfl rfl rfl ?_
          refine x_getR F flX12_105 ha0 rfl dX12_whoNow_53 rfl ?_
          refine x_iload F dX12_whoNow_56 rfl rfl ?_
          refine s_iald F (tf12_17 ha0).1 (tf12_17 ha0).2 dX12_whoNow_58 rfl (fun v36 => ?_)
          refine s_callV F [vI 0, vI v4, vI v36] [] lkX12_423 mX12_stepsTo rfl ha0 rfl hnE hn0 hd (tX12_stepsTo cx.l x hi G13 a0 0 v4 v36 ha0) rfl rfl dX12_whoNow_59 rfl rfl (fun v37 G38 => ?_)
          refine x_goto (pc' := 66) F dX12_whoNow_62 rfl ?_
          refine x_dp (L' := [(0, vR a0), (1, vI v3), (2, vI v4), (4, vI v12), (5, vI v20)]) [0, 1, 2, 4, 5] rfl ?_
          exact hK23 v37 G38
    · refine x_iload_n F dX12_whoNow_125 rfl rfl rfl ?_
      refine x_iload_n F dX12_whoNow_126 rfl rfl rfl ?_
      refine x_jn (fun (K17 : Int → RT) => ∀ (v16 : Int), Y cx x 7 (some .int) 129 137 [(0, vR a0), (2, vI v4)] [vI v16, vI v3] G13 (K17 v16)) ?_ (fun K17 hK17 => ?_)
      · intro v16
        refine x_ior F dX12_whoNow_137 rfl ?_
        refine x_istore_n F dX12_whoNow_138 rfl (by decide) rfl rfl (fun v18 => ?_)
        show Y cx x _ _ _ _ [(0, vR a0), (2, vI v4), (1, vI v18)] _ _ _
        refine x_iinc F dX12_whoNow_139 rfl (by decide) rfl rfl (fun v19 => ?_)
        show Y cx x _ _ _ _ [(0, vR a0), (2, vI v19), (1, vI v18)] _ _ _
        refine x_goto (pc' := 4) F dX12_whoNow_142 rfl ?_
        refine x_dp (L' := [(0, vR a0), (1, vI v18), (2, vI v19)]) [0, 2, 1] rfl ?_
        exact hrc6 v18 v19 G13
      · refine x_ifeq (pt := 136) F dX12_whoNow_127 rfl rfl ?_ ?_
        · refine x_iconst F dX12_whoNow_136 ⟨by decide, by decide⟩ rfl ?_
          refine x_dp (L' := [(0, vR a0), (2, vI v4)]) [0, 2] rfl ?_
          exact hK17 0
        · refine x_iconst F dX12_whoNow_130 ⟨by decide, by decide⟩ rfl ?_
          refine x_iload_n F dX12_whoNow_131 rfl rfl rfl ?_
          refine x_ishl F dX12_whoNow_132 rfl ?_
          refine x_goto (pc' := 137) F dX12_whoNow_133 rfl ?_
          refine x_dp (L' := [(0, vR a0), (2, vI v4)]) [0, 2] rfl ?_
          exact hK17 (ishl 1 v4)
  · refine x_iload_n F dX12_whoNow_145 rfl rfl rfl ?_
    exact x_iret F hnE hQ dX12_whoNow_146
