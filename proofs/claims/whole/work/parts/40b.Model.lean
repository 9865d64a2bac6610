theorem dX12_giveAll_0 : decode cX12_giveAll 0 = .ok (.iconst 0, 1) := by decide +kernel
theorem dX12_giveAll_1 : decode cX12_giveAll 1 = .ok (.istore 4, 2) := by decide +kernel
theorem dX12_giveAll_3 : decode cX12_giveAll 3 = .ok (.iload 4, 2) := by decide +kernel
theorem dX12_giveAll_5 : decode cX12_giveAll 5 = .ok (.aload_n 0, 1) := by decide +kernel
theorem dX12_giveAll_6 : decode cX12_giveAll 6 = .ok (.invokevirtual 229, 3) := by decide +kernel
theorem dX12_giveAll_9 : decode cX12_giveAll 9 = .ok (.if_icmp .ge 43, 3) := by decide +kernel
theorem dX12_giveAll_12 : decode cX12_giveAll 12 = .ok (.aload_n 0, 1) := by decide +kernel
theorem dX12_giveAll_13 : decode cX12_giveAll 13 = .ok (.getfield 105, 3) := by decide +kernel
theorem dX12_giveAll_16 : decode cX12_giveAll 16 = .ok (.iload_n 1, 1) := by decide +kernel
theorem dX12_giveAll_17 : decode cX12_giveAll 17 = .ok (.bipush 120, 2) := by decide +kernel
theorem dX12_giveAll_19 : decode cX12_giveAll 19 = .ok (.iadd, 1) := by decide +kernel
theorem dX12_giveAll_20 : decode cX12_giveAll 20 = .ok (.iload 4, 2) := by decide +kernel
theorem dX12_giveAll_22 : decode cX12_giveAll 22 = .ok (.iadd, 1) := by decide +kernel
theorem dX12_giveAll_23 : decode cX12_giveAll 23 = .ok (.aload_n 0, 1) := by decide +kernel
theorem dX12_giveAll_24 : decode cX12_giveAll 24 = .ok (.iload_n 1, 1) := by decide +kernel
theorem dX12_giveAll_25 : decode cX12_giveAll 25 = .ok (.iload 4, 2) := by decide +kernel
theorem dX12_giveAll_27 : decode cX12_giveAll 27 = .ok (.invokevirtual 331, 3) := by decide +kernel
theorem dX12_giveAll_30 : decode cX12_giveAll 30 = .ok (.iload_n 2, 1) := by decide +kernel
theorem dX12_giveAll_31 : decode cX12_giveAll 31 = .ok (.if_icmp .ne 7, 3) := by decide +kernel
theorem dX12_giveAll_34 : decode cX12_giveAll 34 = .ok (.iload_n 3, 1) := by decide +kernel
theorem dX12_giveAll_35 : decode cX12_giveAll 35 = .ok (.goto 10, 3) := by decide +kernel
theorem dX12_giveAll_38 : decode cX12_giveAll 38 = .ok (.aload_n 0, 1) := by decide +kernel
theorem dX12_giveAll_39 : decode cX12_giveAll 39 = .ok (.iload_n 1, 1) := by decide +kernel
theorem dX12_giveAll_40 : decode cX12_giveAll 40 = .ok (.iload 4, 2) := by decide +kernel
theorem dX12_giveAll_42 : decode cX12_giveAll 42 = .ok (.invokevirtual 331, 3) := by decide +kernel
theorem dX12_giveAll_45 : decode cX12_giveAll 45 = .ok (.iastore, 1) := by decide +kernel
theorem dX12_giveAll_46 : decode cX12_giveAll 46 = .ok (.iinc 4 1, 3) := by decide +kernel
theorem dX12_giveAll_49 : decode cX12_giveAll 49 = .ok (.goto (-46), 3) := by decide +kernel
theorem dX12_giveAll_52 : decode cX12_giveAll 52 = .ok (.return_, 1) := by decide +kernel
def fX12_giveAll (a0 : Nat) (a1 : Int) (a2 : Int) (a3 : Int) (G : Hp) : RT := bd 0 fun v1 => (lp (fun (_ : Int) (_ : Hp) => (none : RT)) 5000 (fun (rc4 : Int → Hp → RT) (v2 : Int) (G3 : Hp) => bp (fX12_keys a0 G3) fun v5 => if v2 < v5 then (bp (fX12_holderOf a0 a1 v2 G3) fun v6 => jn (fun (v7 : Int) => bs (wr G3 ((rf a0 17)) 3565 (iadd (iadd a1 120) v2) v7) fun G9 => bd (iadd v2 1) fun v10 => rc4 v10 G9) fun (K8 : Int → RT) => if v6 = a2 then K8 a3 else (bp (fX12_holderOf a0 a1 v2 G3) fun v11 => K8 v11)) else rt 0 G3)) v1 G
set_option maxRecDepth 20000 in
set_option maxHeartbeats 4000000 in
theorem tX12_giveAll (l : Launch) (x : WX) (hi : Inj x.2.2) (G : Hp) (a0 : Nat) (a1 : Int) (a2 : Int) (a3 : Int) (ha0 : kd a0 = 12) : Ct l x yX12_giveAll cX12_giveAll 5 none 1 129 129 [vR a0, vI a1, vI a2, vI a3] G (fX12_giveAll a0 a1 a2 a3 G) := by
  refine ct_of (plainFor_of_name (by decide)) hi (Nat.le_refl _) (Nat.le_refl _) (Nat.le_of_ble_eq_true rfl) (fun cx F hd hn0 hnE hl hQ => ?_)
  subst hl
  have F : Fx cx x RX12 cX12_giveAll 5 none := F
  show Y cx x 5 none 129 0 [(0, vR a0), (1, vI a1), (2, vI a2), (3, vI a3)] [] G _
  unfold fX12_giveAll
  refine x_iconst F dX12_giveAll_0 ⟨by decide, by decide⟩ rfl ?_
  refine x_istore F dX12_giveAll_1 (by decide) rfl rfl (fun v1 => ?_)
  show Y cx x _ _ _ _ [(0, vR a0), (1, vI a1), (2, vI a2), (3, vI a3), (4, vI v1)] _ _ _
  refine x_lp (fun (rc4 : Int → Hp → RT) => ∀ (v2 : Int) (G3 : Hp), Y cx x 5 none 129 3 [(0, vR a0), (1, vI a1), (2, vI a2), (3, vI a3), (4, vI v2)] [] G3 (rc4 v2 G3)) (fun _ _ => Y_none) (fun rc4 hrc4 v2 G3 => ?_) 5000 v1 G
  refine x_iload F dX12_giveAll_3 rfl rfl ?_
  refine x_aload_n F dX12_giveAll_5 rfl rfl rfl ?_
  refine s_callVP F [] [vI v2] lkX12_229 mX12_keys rfl ha0 rfl hnE hn0 hd pX12_keys (tX12_keys cx.l x hi G3 a0 ha0) rfl rfl dX12_giveAll_6 rfl rfl (fun v5 => ?_)
  refine x_icmpge (pt := 52) F dX12_giveAll_9 rfl rfl ?_ ?_
  · refine x_aload_n F dX12_giveAll_12 rfl rfl rfl ?_
    refine x_getR F flX12_105 ha0 rfl dX12_giveAll_13 rfl ?_
    refine x_iload_n F dX12_giveAll_16 rfl rfl rfl ?_
    refine x_bipush F dX12_giveAll_17 ⟨by decide, by decide⟩ (by decide) rfl ?_
    refine x_iadd F dX12_giveAll_19 rfl ?_
    refine x_iload F dX12_giveAll_20 rfl rfl ?_
    refine x_iadd F dX12_giveAll_22 rfl ?_
    refine x_aload_n F dX12_giveAll_23 rfl rfl rfl ?_
    refine x_iload_n F dX12_giveAll_24 rfl rfl rfl ?_
    refine x_iload F dX12_giveAll_25 rfl rfl ?_
    refine s_callVP F [vI a1, vI v2] [vI (iadd (iadd a1 120) v2), vR ((rf a0 17))] lkX12_331 mX12_holderOf rfl ha0 rfl hnE hn0 hd pX12_holderOf (tX12_holderOf cx.l x hi G3 a0 a1 v2 ha0) rfl rfl dX12_giveAll_27 rfl rfl (fun v6 => ?_)
    refine x_iload_n F dX12_giveAll_30 rfl rfl rfl ?_
    refine x_jn (fun (K8 : Int → RT) => ∀ (v7 : Int), Y cx x 5 none 129 45 [(0, vR a0), (1, vI a1), (2, vI a2), (3, vI a3), (4, vI v2)] [vI v7, vI (iadd (iadd a1 120) v2), vR ((rf a0 17))] G3 (K8 v7)) ?_ (fun K8 hK8 => ?_)
    · intro v7
      refine s_iast F (tf12_17 ha0).1 (tf12_17 ha0).2 dX12_giveAll_45 rfl (fun G9 => ?_)
      refine x_iinc F dX12_giveAll_46 rfl (by decide) rfl rfl (fun v10 => ?_)
      show Y cx x _ _ _ _ [(0, vR a0), (1, vI a1), (2, vI a2), (3, vI a3), (4, vI v10)] _ _ _
      refine x_goto (pc' := 3) F dX12_giveAll_49 rfl ?_
      exact hrc4 v10 G9
    · refine x_icmpne (pt := 38) F dX12_giveAll_31 rfl rfl ?_ ?_
      · refine x_iload_n F dX12_giveAll_34 rfl rfl rfl ?_
        refine x_goto (pc' := 45) F dX12_giveAll_35 rfl ?_
        exact hK8 a3
      · refine x_aload_n F dX12_giveAll_38 rfl rfl rfl ?_
        refine x_iload_n F dX12_giveAll_39 rfl rfl rfl ?_
        refine x_iload F dX12_giveAll_40 rfl rfl ?_
        refine s_callVP F [vI a1, vI v2] [vI (iadd (iadd a1 120) v2), vR ((rf a0 17))] lkX12_331 mX12_holderOf rfl ha0 rfl hnE hn0 hd pX12_holderOf (tX12_holderOf cx.l x hi G3 a0 a1 v2 ha0) rfl rfl dX12_giveAll_42 rfl rfl (fun v11 => ?_)
        exact hK8 v11
  · exact x_vret F hnE hQ dX12_giveAll_52
theorem dX12_heldSet_0 : decode cX12_heldSet 0 = .ok (.iconst 0, 1) := by decide +kernel
theorem dX12_heldSet_1 : decode cX12_heldSet 1 = .ok (.istore_n 3, 1) := by decide +kernel
theorem dX12_heldSet_2 : decode cX12_heldSet 2 = .ok (.iconst 0, 1) := by decide +kernel
theorem dX12_heldSet_3 : decode cX12_heldSet 3 = .ok (.istore 4, 2) := by decide +kernel
theorem dX12_heldSet_5 : decode cX12_heldSet 5 = .ok (.iload 4, 2) := by decide +kernel
theorem dX12_heldSet_7 : decode cX12_heldSet 7 = .ok (.aload_n 0, 1) := by decide +kernel
theorem dX12_heldSet_8 : decode cX12_heldSet 8 = .ok (.invokevirtual 229, 3) := by decide +kernel
theorem dX12_heldSet_11 : decode cX12_heldSet 11 = .ok (.if_icmp .ge 31, 3) := by decide +kernel
theorem dX12_heldSet_14 : decode cX12_heldSet 14 = .ok (.iload_n 3, 1) := by decide +kernel
theorem dX12_heldSet_15 : decode cX12_heldSet 15 = .ok (.aload_n 0, 1) := by decide +kernel
theorem dX12_heldSet_16 : decode cX12_heldSet 16 = .ok (.iload_n 1, 1) := by decide +kernel
theorem dX12_heldSet_17 : decode cX12_heldSet 17 = .ok (.iload 4, 2) := by decide +kernel
theorem dX12_heldSet_19 : decode cX12_heldSet 19 = .ok (.invokevirtual 331, 3) := by decide +kernel
theorem dX12_heldSet_22 : decode cX12_heldSet 22 = .ok (.iload_n 2, 1) := by decide +kernel
theorem dX12_heldSet_23 : decode cX12_heldSet 23 = .ok (.if_icmp .ne 10, 3) := by decide +kernel
theorem dX12_heldSet_26 : decode cX12_heldSet 26 = .ok (.iconst 1, 1) := by decide +kernel
theorem dX12_heldSet_27 : decode cX12_heldSet 27 = .ok (.iload 4, 2) := by decide +kernel
theorem dX12_heldSet_29 : decode cX12_heldSet 29 = .ok (.ishl, 1) := by decide +kernel
theorem dX12_heldSet_30 : decode cX12_heldSet 30 = .ok (.goto 4, 3) := by decide +kernel
theorem dX12_heldSet_33 : decode cX12_heldSet 33 = .ok (.iconst 0, 1) := by decide +kernel
theorem dX12_heldSet_34 : decode cX12_heldSet 34 = .ok (.ior, 1) := by decide +kernel
theorem dX12_heldSet_35 : decode cX12_heldSet 35 = .ok (.istore_n 3, 1) := by decide +kernel
theorem dX12_heldSet_36 : decode cX12_heldSet 36 = .ok (.iinc 4 1, 3) := by decide +kernel
theorem dX12_heldSet_39 : decode cX12_heldSet 39 = .ok (.goto (-34), 3) := by decide +kernel
theorem dX12_heldSet_42 : decode cX12_heldSet 42 = .ok (.iload_n 3, 1) := by decide +kernel
theorem dX12_heldSet_43 : decode cX12_heldSet 43 = .ok (.ireturn, 1) := by decide +kernel
def fX12_heldSet (a0 : Nat) (a1 : Int) (a2 : Int) (G : Hp) : RT := bd 0 fun v1 => bd 0 fun v2 => (lp (fun (_ : Int) (_ : Int) => (none : RT)) 5000 (fun (rc5 : Int → Int → RT) (v3 : Int) (v4 : Int) => bp (fX12_keys a0 G) fun v6 => if v4 < v6 then (bp (fX12_holderOf a0 a1 v4 G) fun v7 => jn (fun (v8 : Int) => bd (ior v3 v8) fun v10 => bd (iadd v4 1) fun v11 => rc5 v10 v11) fun (K9 : Int → RT) => if v7 = a2 then (K9 (ishl 1 v4)) else K9 0) else rt v3 G)) v1 v2
theorem pX12_heldSet {G : Hp} {a0 : Nat} {a1 : Int} {a2 : Int} : PU G (fX12_heldSet a0 a1 a2 G) := by
  unfold fX12_heldSet
  refine PU_bd (fun v1 => ?_)
  refine PU_bd (fun v2 => ?_)
  refine x_lp (fun (rc5 : Int → Int → RT) => ∀ (v3 : Int) (v4 : Int), PU G (rc5 v3 v4)) (fun _ _ => PU_none) (fun rc5 phrc5 v3 v4 => ?_) 5000 v1 v2
  refine PU_bp (fun v6 => ?_)
  refine PU_ite ?_ ?_
  · refine PU_bp (fun v7 => ?_)
    refine PU_jn (fun (K9 : Int → RT) => ∀ (v8 : Int), PU G (K9 v8)) ?_ (fun K9 phK9 => ?_)
    · intro v8
      refine PU_bd (fun v10 => ?_)
      refine PU_bd (fun v11 => ?_)
      exact phrc5 v10 v11
    · refine PU_ite ?_ ?_
      · exact phK9 (ishl 1 v4)
      · exact phK9 0
  · exact PU_rt
set_option maxRecDepth 20000 in
set_option maxHeartbeats 4000000 in
theorem tX12_heldSet (l : Launch) (x : WX) (hi : Inj x.2.2) (G : Hp) (a0 : Nat) (a1 : Int) (a2 : Int) (ha0 : kd a0 = 12) : Ct l x yX12_heldSet cX12_heldSet 5 (some .int) 1 129 129 [vR a0, vI a1, vI a2] G (fX12_heldSet a0 a1 a2 G) := by
  refine ct_of (plainFor_of_name (by decide)) hi (Nat.le_refl _) (Nat.le_refl _) (Nat.le_of_ble_eq_true rfl) (fun cx F hd hn0 hnE hl hQ => ?_)
  subst hl
  have F : Fx cx x RX12 cX12_heldSet 5 (some .int) := F
  show Y cx x 5 (some .int) 129 0 [(0, vR a0), (1, vI a1), (2, vI a2)] [] G _
  unfold fX12_heldSet
  refine x_iconst F dX12_heldSet_0 ⟨by decide, by decide⟩ rfl ?_
  refine x_istore_n F dX12_heldSet_1 rfl (by decide) rfl rfl (fun v1 => ?_)
  show Y cx x _ _ _ _ [(0, vR a0), (1, vI a1), (2, vI a2), (3, vI v1)] _ _ _
  refine x_iconst F dX12_heldSet_2 ⟨by decide, by decide⟩ rfl ?_
  refine x_istore F dX12_heldSet_3 (by decide) rfl rfl (fun v2 => ?_)
  show Y cx x _ _ _ _ [(0, vR a0), (1, vI a1), (2, vI a2), (3, vI v1), (4, vI v2)] _ _ _
  refine x_lp (fun (rc5 : Int → Int → RT) => ∀ (v3 : Int) (v4 : Int), Y cx x 5 (some .int) 129 5 [(0, vR a0), (1, vI a1), (2, vI a2), (3, vI v3), (4, vI v4)] [] G (rc5 v3 v4)) (fun _ _ => Y_none) (fun rc5 hrc5 v3 v4 => ?_) 5000 v1 v2
  refine x_iload F dX12_heldSet_5 rfl rfl ?_
  refine x_aload_n F dX12_heldSet_7 rfl rfl rfl ?_
  refine s_callVP F [] [vI v4] lkX12_229 mX12_keys rfl ha0 rfl hnE hn0 hd pX12_keys (tX12_keys cx.l x hi G a0 ha0) rfl rfl dX12_heldSet_8 rfl rfl (fun v6 => ?_)
  refine x_icmpge (pt := 42) F dX12_heldSet_11 rfl rfl ?_ ?_
  · refine x_iload_n F dX12_heldSet_14 rfl rfl rfl ?_
    refine x_aload_n F dX12_heldSet_15 rfl rfl rfl ?_
    refine x_iload_n F dX12_heldSet_16 rfl rfl rfl ?_
    refine x_iload F dX12_heldSet_17 rfl rfl ?_
    refine s_callVP F [vI a1, vI v4] [vI v3] lkX12_331 mX12_holderOf rfl ha0 rfl hnE hn0 hd pX12_holderOf (tX12_holderOf cx.l x hi G a0 a1 v4 ha0) rfl rfl dX12_heldSet_19 rfl rfl (fun v7 => ?_)
    refine x_iload_n F dX12_heldSet_22 rfl rfl rfl ?_
    refine x_jn (fun (K9 : Int → RT) => ∀ (v8 : Int), Y cx x 5 (some .int) 129 34 [(0, vR a0), (1, vI a1), (2, vI a2), (4, vI v4)] [vI v8, vI v3] G (K9 v8)) ?_ (fun K9 hK9 => ?_)
    · intro v8
      refine x_ior F dX12_heldSet_34 rfl ?_
      refine x_istore_n F dX12_heldSet_35 rfl (by decide) rfl rfl (fun v10 => ?_)
      show Y cx x _ _ _ _ [(0, vR a0), (1, vI a1), (2, vI a2), (4, vI v4), (3, vI v10)] _ _ _
      refine x_iinc F dX12_heldSet_36 rfl (by decide) rfl rfl (fun v11 => ?_)
      show Y cx x _ _ _ _ [(0, vR a0), (1, vI a1), (2, vI a2), (4, vI v11), (3, vI v10)] _ _ _
      refine x_goto (pc' := 5) F dX12_heldSet_39 rfl ?_
      refine x_dp (L' := [(0, vR a0), (1, vI a1), (2, vI a2), (3, vI v10), (4, vI v11)]) [0, 1, 2, 4, 3] rfl ?_
      exact hrc5 v10 v11
    · refine x_icmpne (pt := 33) F dX12_heldSet_23 rfl rfl ?_ ?_
      · refine x_iconst F dX12_heldSet_26 ⟨by decide, by decide⟩ rfl ?_
        refine x_iload F dX12_heldSet_27 rfl rfl ?_
        refine x_ishl F dX12_heldSet_29 rfl ?_
        refine x_goto (pc' := 34) F dX12_heldSet_30 rfl ?_
        refine x_dp (L' := [(0, vR a0), (1, vI a1), (2, vI a2), (4, vI v4)]) [0, 1, 2, 4] rfl ?_
        exact hK9 (ishl 1 v4)
      · refine x_iconst F dX12_heldSet_33 ⟨by decide, by decide⟩ rfl ?_
        refine x_dp (L' := [(0, vR a0), (1, vI a1), (2, vI a2), (4, vI v4)]) [0, 1, 2, 4] rfl ?_
        exact hK9 0
  · refine x_iload_n F dX12_heldSet_42 rfl rfl rfl ?_
    exact x_iret F hnE hQ dX12_heldSet_43
theorem dX12_flushed_0 : decode cX12_flushed 0 = .ok (.aload_n 0, 1) := by decide +kernel
theorem dX12_flushed_1 : decode cX12_flushed 1 = .ok (.iload_n 1, 1) := by decide +kernel
theorem dX12_flushed_2 : decode cX12_flushed 2 = .ok (.iload_n 2, 1) := by decide +kernel
theorem dX12_flushed_3 : decode cX12_flushed 3 = .ok (.invokevirtual 278, 3) := by decide +kernel
theorem dX12_flushed_6 : decode cX12_flushed 6 = .ok (.ifCond .ne 5, 3) := by decide +kernel
theorem dX12_flushed_9 : decode cX12_flushed 9 = .ok (.iconst (-1), 1) := by decide +kernel
theorem dX12_flushed_10 : decode cX12_flushed 10 = .ok (.ireturn, 1) := by decide +kernel
theorem dX12_flushed_11 : decode cX12_flushed 11 = .ok (.iconst 0, 1) := by decide +kernel
theorem dX12_flushed_12 : decode cX12_flushed 12 = .ok (.istore_n 3, 1) := by decide +kernel
theorem dX12_flushed_13 : decode cX12_flushed 13 = .ok (.iconst 0, 1) := by decide +kernel
theorem dX12_flushed_14 : decode cX12_flushed 14 = .ok (.istore 4, 2) := by decide +kernel
theorem dX12_flushed_16 : decode cX12_flushed 16 = .ok (.iconst 0, 1) := by decide +kernel
theorem dX12_flushed_17 : decode cX12_flushed 17 = .ok (.istore 5, 2) := by decide +kernel
theorem dX12_flushed_19 : decode cX12_flushed 19 = .ok (.iload 5, 2) := by decide +kernel
theorem dX12_flushed_21 : decode cX12_flushed 21 = .ok (.aload_n 0, 1) := by decide +kernel
theorem dX12_flushed_22 : decode cX12_flushed 22 = .ok (.iload_n 1, 1) := by decide +kernel
theorem dX12_flushed_23 : decode cX12_flushed 23 = .ok (.iload_n 2, 1) := by decide +kernel
theorem dX12_flushed_24 : decode cX12_flushed 24 = .ok (.invokevirtual 291, 3) := by decide +kernel
theorem dX12_flushed_27 : decode cX12_flushed 27 = .ok (.if_icmp .ge 47, 3) := by decide +kernel
theorem dX12_flushed_30 : decode cX12_flushed 30 = .ok (.aload_n 0, 1) := by decide +kernel
theorem dX12_flushed_31 : decode cX12_flushed 31 = .ok (.iload_n 1, 1) := by decide +kernel
theorem dX12_flushed_32 : decode cX12_flushed 32 = .ok (.iload_n 2, 1) := by decide +kernel
theorem dX12_flushed_33 : decode cX12_flushed 33 = .ok (.iload 5, 2) := by decide +kernel
theorem dX12_flushed_35 : decode cX12_flushed 35 = .ok (.invokevirtual 294, 3) := by decide +kernel
theorem dX12_flushed_38 : decode cX12_flushed 38 = .ok (.istore 6, 2) := by decide +kernel
theorem dX12_flushed_40 : decode cX12_flushed 40 = .ok (.aload_n 0, 1) := by decide +kernel
theorem dX12_flushed_41 : decode cX12_flushed 41 = .ok (.iload_n 1, 1) := by decide +kernel
theorem dX12_flushed_42 : decode cX12_flushed 42 = .ok (.iload 6, 2) := by decide +kernel
theorem dX12_flushed_44 : decode cX12_flushed 44 = .ok (.invokevirtual 278, 3) := by decide +kernel
theorem dX12_flushed_47 : decode cX12_flushed 47 = .ok (.ifCond .eq 18, 3) := by decide +kernel
theorem dX12_flushed_50 : decode cX12_flushed 50 = .ok (.aload_n 0, 1) := by decide +kernel
theorem dX12_flushed_51 : decode cX12_flushed 51 = .ok (.getfield 118, 3) := by decide +kernel
theorem dX12_flushed_54 : decode cX12_flushed 54 = .ok (.iload 4, 2) := by decide +kernel
theorem dX12_flushed_56 : decode cX12_flushed 56 = .ok (.iload 6, 2) := by decide +kernel
theorem dX12_flushed_58 : decode cX12_flushed 58 = .ok (.iastore, 1) := by decide +kernel
theorem dX12_flushed_59 : decode cX12_flushed 59 = .ok (.iinc 4 1, 3) := by decide +kernel
theorem dX12_flushed_62 : decode cX12_flushed 62 = .ok (.goto 6, 3) := by decide +kernel
theorem dX12_flushed_65 : decode cX12_flushed 65 = .ok (.iinc 3 1, 3) := by decide +kernel
theorem dX12_flushed_68 : decode cX12_flushed 68 = .ok (.iinc 5 1, 3) := by decide +kernel
theorem dX12_flushed_71 : decode cX12_flushed 71 = .ok (.goto (-52), 3) := by decide +kernel
theorem dX12_flushed_74 : decode cX12_flushed 74 = .ok (.aload_n 0, 1) := by decide +kernel
theorem dX12_flushed_75 : decode cX12_flushed 75 = .ok (.iload_n 1, 1) := by decide +kernel
theorem dX12_flushed_76 : decode cX12_flushed 76 = .ok (.iload_n 2, 1) := by decide +kernel
theorem dX12_flushed_77 : decode cX12_flushed 77 = .ok (.iload 4, 2) := by decide +kernel
theorem dX12_flushed_79 : decode cX12_flushed 79 = .ok (.invokevirtual 322, 3) := by decide +kernel
theorem dX12_flushed_82 : decode cX12_flushed 82 = .ok (.iconst 0, 1) := by decide +kernel
theorem dX12_flushed_83 : decode cX12_flushed 83 = .ok (.istore 5, 2) := by decide +kernel
theorem dX12_flushed_85 : decode cX12_flushed 85 = .ok (.iload 5, 2) := by decide +kernel
theorem dX12_flushed_87 : decode cX12_flushed 87 = .ok (.bipush 8, 2) := by decide +kernel
theorem dX12_flushed_89 : decode cX12_flushed 89 = .ok (.if_icmp .ge 75, 3) := by decide +kernel
theorem dX12_flushed_92 : decode cX12_flushed 92 = .ok (.aload_n 0, 1) := by decide +kernel
theorem dX12_flushed_93 : decode cX12_flushed 93 = .ok (.iload_n 1, 1) := by decide +kernel
theorem dX12_flushed_94 : decode cX12_flushed 94 = .ok (.iload_n 2, 1) := by decide +kernel
theorem dX12_flushed_95 : decode cX12_flushed 95 = .ok (.iload 5, 2) := by decide +kernel
theorem dX12_flushed_97 : decode cX12_flushed 97 = .ok (.invokevirtual 304, 3) := by decide +kernel
theorem dX12_flushed_100 : decode cX12_flushed 100 = .ok (.istore 6, 2) := by decide +kernel
theorem dX12_flushed_102 : decode cX12_flushed 102 = .ok (.iload_n 3, 1) := by decide +kernel
theorem dX12_flushed_103 : decode cX12_flushed 103 = .ok (.iload 6, 2) := by decide +kernel
theorem dX12_flushed_105 : decode cX12_flushed 105 = .ok (.ifCond .lt 17, 3) := by decide +kernel
theorem dX12_flushed_108 : decode cX12_flushed 108 = .ok (.aload_n 0, 1) := by decide +kernel
theorem dX12_flushed_109 : decode cX12_flushed 109 = .ok (.iload_n 1, 1) := by decide +kernel
theorem dX12_flushed_110 : decode cX12_flushed 110 = .ok (.iload 6, 2) := by decide +kernel
theorem dX12_flushed_112 : decode cX12_flushed 112 = .ok (.invokevirtual 278, 3) := by decide +kernel
theorem dX12_flushed_115 : decode cX12_flushed 115 = .ok (.ifCond .ne 7, 3) := by decide +kernel
theorem dX12_flushed_118 : decode cX12_flushed 118 = .ok (.iconst 1, 1) := by decide +kernel
theorem dX12_flushed_119 : decode cX12_flushed 119 = .ok (.goto 4, 3) := by decide +kernel
theorem dX12_flushed_122 : decode cX12_flushed 122 = .ok (.iconst 0, 1) := by decide +kernel
theorem dX12_flushed_123 : decode cX12_flushed 123 = .ok (.iadd, 1) := by decide +kernel
theorem dX12_flushed_124 : decode cX12_flushed 124 = .ok (.istore_n 3, 1) := by decide +kernel
theorem dX12_flushed_125 : decode cX12_flushed 125 = .ok (.aload_n 0, 1) := by decide +kernel
theorem dX12_flushed_126 : decode cX12_flushed 126 = .ok (.getfield 105, 3) := by decide +kernel
theorem dX12_flushed_129 : decode cX12_flushed 129 = .ok (.iload_n 1, 1) := by decide +kernel
theorem dX12_flushed_130 : decode cX12_flushed 130 = .ok (.bipush 15, 2) := by decide +kernel
theorem dX12_flushed_132 : decode cX12_flushed 132 = .ok (.iload_n 2, 1) := by decide +kernel
theorem dX12_flushed_133 : decode cX12_flushed 133 = .ok (.imul, 1) := by decide +kernel
theorem dX12_flushed_134 : decode cX12_flushed 134 = .ok (.iadd, 1) := by decide +kernel
theorem dX12_flushed_135 : decode cX12_flushed 135 = .ok (.bipush 7, 2) := by decide +kernel
theorem dX12_flushed_137 : decode cX12_flushed 137 = .ok (.iadd, 1) := by decide +kernel
theorem dX12_flushed_138 : decode cX12_flushed 138 = .ok (.iload 5, 2) := by decide +kernel
theorem dX12_flushed_140 : decode cX12_flushed 140 = .ok (.iadd, 1) := by decide +kernel
theorem dX12_flushed_141 : decode cX12_flushed 141 = .ok (.aload_n 0, 1) := by decide +kernel
theorem dX12_flushed_142 : decode cX12_flushed 142 = .ok (.iload_n 1, 1) := by decide +kernel
theorem dX12_flushed_143 : decode cX12_flushed 143 = .ok (.iload 6, 2) := by decide +kernel
theorem dX12_flushed_145 : decode cX12_flushed 145 = .ok (.invokevirtual 278, 3) := by decide +kernel
theorem dX12_flushed_148 : decode cX12_flushed 148 = .ok (.ifCond .eq 8, 3) := by decide +kernel
theorem dX12_flushed_151 : decode cX12_flushed 151 = .ok (.iload 6, 2) := by decide +kernel
theorem dX12_flushed_153 : decode cX12_flushed 153 = .ok (.goto 4, 3) := by decide +kernel
theorem dX12_flushed_156 : decode cX12_flushed 156 = .ok (.iconst (-1), 1) := by decide +kernel
theorem dX12_flushed_157 : decode cX12_flushed 157 = .ok (.iastore, 1) := by decide +kernel
theorem dX12_flushed_158 : decode cX12_flushed 158 = .ok (.iinc 5 1, 3) := by decide +kernel
theorem dX12_flushed_161 : decode cX12_flushed 161 = .ok (.goto (-76), 3) := by decide +kernel
theorem dX12_flushed_164 : decode cX12_flushed 164 = .ok (.aload_n 0, 1) := by decide +kernel
theorem dX12_flushed_165 : decode cX12_flushed 165 = .ok (.getfield 105, 3) := by decide +kernel
theorem dX12_flushed_168 : decode cX12_flushed 168 = .ok (.iload_n 1, 1) := by decide +kernel
theorem dX12_flushed_169 : decode cX12_flushed 169 = .ok (.bipush 15, 2) := by decide +kernel
theorem dX12_flushed_171 : decode cX12_flushed 171 = .ok (.iload_n 2, 1) := by decide +kernel
theorem dX12_flushed_172 : decode cX12_flushed 172 = .ok (.imul, 1) := by decide +kernel
theorem dX12_flushed_173 : decode cX12_flushed 173 = .ok (.iadd, 1) := by decide +kernel
theorem dX12_flushed_174 : decode cX12_flushed 174 = .ok (.bipush 6, 2) := by decide +kernel
theorem dX12_flushed_176 : decode cX12_flushed 176 = .ok (.iadd, 1) := by decide +kernel
theorem dX12_flushed_177 : decode cX12_flushed 177 = .ok (.aload_n 0, 1) := by decide +kernel
theorem dX12_flushed_178 : decode cX12_flushed 178 = .ok (.iload_n 1, 1) := by decide +kernel
theorem dX12_flushed_179 : decode cX12_flushed 179 = .ok (.aload_n 0, 1) := by decide +kernel
theorem dX12_flushed_180 : decode cX12_flushed 180 = .ok (.iload_n 1, 1) := by decide +kernel
theorem dX12_flushed_181 : decode cX12_flushed 181 = .ok (.iload_n 2, 1) := by decide +kernel
theorem dX12_flushed_182 : decode cX12_flushed 182 = .ok (.invokevirtual 343, 3) := by decide +kernel
theorem dX12_flushed_185 : decode cX12_flushed 185 = .ok (.invokevirtual 278, 3) := by decide +kernel
theorem dX12_flushed_188 : decode cX12_flushed 188 = .ok (.ifCond .eq 12, 3) := by decide +kernel
theorem dX12_flushed_191 : decode cX12_flushed 191 = .ok (.aload_n 0, 1) := by decide +kernel
theorem dX12_flushed_192 : decode cX12_flushed 192 = .ok (.iload_n 1, 1) := by decide +kernel
theorem dX12_flushed_193 : decode cX12_flushed 193 = .ok (.iload_n 2, 1) := by decide +kernel
theorem dX12_flushed_194 : decode cX12_flushed 194 = .ok (.invokevirtual 343, 3) := by decide +kernel
theorem dX12_flushed_197 : decode cX12_flushed 197 = .ok (.goto 4, 3) := by decide +kernel
theorem dX12_flushed_200 : decode cX12_flushed 200 = .ok (.iconst (-1), 1) := by decide +kernel
theorem dX12_flushed_201 : decode cX12_flushed 201 = .ok (.iastore, 1) := by decide +kernel
theorem dX12_flushed_202 : decode cX12_flushed 202 = .ok (.iload_n 3, 1) := by decide +kernel
theorem dX12_flushed_203 : decode cX12_flushed 203 = .ok (.ireturn, 1) := by decide +kernel
def fX12_flushed (a0 : Nat) (a1 : Int) (a2 : Int) (G : Hp) : RT := bp (fX12_isIn a0 a1 a2 G) fun v1 => if v1 = 0 then (rt ((-1)) G) else (bd 0 fun v2 => bd 0 fun v3 => bd 0 fun v4 => (lp (fun (_ : Int) (_ : Int) (_ : Int) (_ : Hp) => (none : RT)) 5000 (fun (rc9 : Int → Int → Int → Hp → RT) (v5 : Int) (v6 : Int) (v7 : Int) (G8 : Hp) => bp (fX12_longOf a0 a1 a2 G8) fun v10 => if v7 < v10 then (bp (fX12_listedOf a0 a1 a2 v7 G8) fun v35 => bd v35 fun v36 => bp (fX12_isIn a0 a1 v36 G8) fun v37 => jn (fun (v38 : Int) (v39 : Int) (G40 : Hp) => bd (iadd v7 1) fun v42 => rc9 v38 v39 v42 G40) fun (K41 : Int → Int → Hp → RT) => if v37 = 0 then (bd (iadd v5 1) fun v43 => K41 v43 v6 G8) else (bs (wr G8 ((rf a0 23)) 4 v6 v36) fun G44 => bd (iadd v6 1) fun v45 => K41 v5 v45 G44)) else (bn (fX12_listIs a0 a1 a2 v6 G8) fun _ G11 => bd 0 fun v12 => (lp (fun (_ : Int) (_ : Int) (_ : Hp) => (none : RT)) 5000 (fun (rc16 : Int → Int → Hp → RT) (v13 : Int) (v14 : Int) (G15 : Hp) => if v14 < 8 then (bp (fX12_fingerOf a0 a1 a2 v14 G15) fun v22 => bd v22 fun v23 => jn (fun (v24 : Int) => bd (iadd v13 v24) fun v26 => bp (fX12_isIn a0 a1 v23 G15) fun v27 => jn (fun (v28 : Int) => bs (wr G15 ((rf a0 17)) 3565 (iadd (iadd (iadd a1 (imul 15 a2)) 7) v14) v28) fun G30 => bd (iadd v14 1) fun v31 => rc16 v26 v31 G30) fun (K29 : Int → RT) => if v27 = 0 then (K29 ((-1))) else K29 v23) fun (K25 : Int → RT) => jn (K25 0) fun (K32 : RT) => if v23 < 0 then K32 else (bp (fX12_isIn a0 a1 v23 G15) fun v33 => if v33 = 0 then K25 1 else K32)) else (bp (fX12_aheadOf a0 a1 a2 G15) fun v17 => bp (fX12_isIn a0 a1 v17 G15) fun v18 => if v18 = 0 then (bs (wr G15 ((rf a0 17)) 3565 (iadd (iadd a1 (imul 15 a2)) 6) ((-1))) fun G19 => rt v13 G19) else (bp (fX12_aheadOf a0 a1 a2 G15) fun v20 => bs (wr G15 ((rf a0 17)) 3565 (iadd (iadd a1 (imul 15 a2)) 6) v20) fun G21 => rt v13 G21)))) v5 v12 G11))) v2 v3 v4 G)
set_option maxRecDepth 20000 in
set_option maxHeartbeats 4000000 in
theorem tX12_flushed (l : Launch) (x : WX) (hi : Inj x.2.2) (G : Hp) (a0 : Nat) (a1 : Int) (a2 : Int) (ha0 : kd a0 = 12) : Ct l x yX12_flushed cX12_flushed 7 (some .int) 1 129 129 [vR a0, vI a1, vI a2] G (fX12_flushed a0 a1 a2 G) := by
  refine ct_of (plainFor_of_name (by decide)) hi (Nat.le_refl _) (Nat.le_refl _) (Nat.le_of_ble_eq_true rfl) (fun cx F hd hn0 hnE hl hQ => ?_)
  subst hl
  have F : Fx cx x RX12 cX12_flushed 7 (some .int) := F
  show Y cx x 7 (some .int) 129 0 [(0, vR a0), (1, vI a1), (2, vI a2)] [] G _
  unfold fX12_flushed
  refine x_aload_n F dX12_flushed_0 rfl rfl rfl ?_
  refine x_iload_n F dX12_flushed_1 rfl rfl rfl ?_
  refine x_iload_n F dX12_flushed_2 rfl rfl rfl ?_
  refine s_callVP F [vI a1, vI a2] [] lkX12_278 mX12_isIn rfl ha0 rfl hnE hn0 hd pX12_isIn (tX12_isIn cx.l x hi G a0 a1 a2 ha0) rfl rfl dX12_flushed_3 rfl rfl (fun v1 => ?_)
  refine x_ifne (pt := 11) F dX12_flushed_6 rfl rfl ?_ ?_
  · refine x_iconst F dX12_flushed_9 ⟨by decide, by decide⟩ rfl ?_
    exact x_iret F hnE hQ dX12_flushed_10
  · refine x_iconst F dX12_flushed_11 ⟨by decide, by decide⟩ rfl ?_
    refine x_istore_n F dX12_flushed_12 rfl (by decide) rfl rfl (fun v2 => ?_)
    show Y cx x _ _ _ _ [(0, vR a0), (1, vI a1), (2, vI a2), (3, vI v2)] _ _ _
    refine x_iconst F dX12_flushed_13 ⟨by decide, by decide⟩ rfl ?_
    refine x_istore F dX12_flushed_14 (by decide) rfl rfl (fun v3 => ?_)
    show Y cx x _ _ _ _ [(0, vR a0), (1, vI a1), (2, vI a2), (3, vI v2), (4, vI v3)] _ _ _
    refine x_iconst F dX12_flushed_16 ⟨by decide, by decide⟩ rfl ?_
    refine x_istore F dX12_flushed_17 (by decide) rfl rfl (fun v4 => ?_)
    show Y cx x _ _ _ _ [(0, vR a0), (1, vI a1), (2, vI a2), (3, vI v2), (4, vI v3), (5, vI v4)] _ _ _
    refine x_lp (fun (rc9 : Int → Int → Int → Hp → RT) => ∀ (v5 : Int) (v6 : Int) (v7 : Int) (G8 : Hp), Y cx x 7 (some .int) 129 19 [(0, vR a0), (1, vI a1), (2, vI a2), (3, vI v5), (4, vI v6), (5, vI v7)] [] G8 (rc9 v5 v6 v7 G8)) (fun _ _ _ _ => Y_none) (fun rc9 hrc9 v5 v6 v7 G8 => ?_) 5000 v2 v3 v4 G
    refine x_iload F dX12_flushed_19 rfl rfl ?_
    refine x_aload_n F dX12_flushed_21 rfl rfl rfl ?_
    refine x_iload_n F dX12_flushed_22 rfl rfl rfl ?_
    refine x_iload_n F dX12_flushed_23 rfl rfl rfl ?_
    refine s_callVP F [vI a1, vI a2] [vI v7] lkX12_291 mX12_longOf rfl ha0 rfl hnE hn0 hd pX12_longOf (tX12_longOf cx.l x hi G8 a0 a1 a2 ha0) rfl rfl dX12_flushed_24 rfl rfl (fun v10 => ?_)
    refine x_icmpge (pt := 74) F dX12_flushed_27 rfl rfl ?_ ?_
    · refine x_aload_n F dX12_flushed_30 rfl rfl rfl ?_
      refine x_iload_n F dX12_flushed_31 rfl rfl rfl ?_
      refine x_iload_n F dX12_flushed_32 rfl rfl rfl ?_
      refine x_iload F dX12_flushed_33 rfl rfl ?_
      refine s_callVP F [vI a1, vI a2, vI v7] [] lkX12_294 mX12_listedOf rfl ha0 rfl hnE hn0 hd pX12_listedOf (tX12_listedOf cx.l x hi G8 a0 a1 a2 v7 ha0) rfl rfl dX12_flushed_35 rfl rfl (fun v35 => ?_)
      refine x_istore F dX12_flushed_38 (by decide) rfl rfl (fun v36 => ?_)
      show Y cx x _ _ _ _ [(0, vR a0), (1, vI a1), (2, vI a2), (3, vI v5), (4, vI v6), (5, vI v7), (6, vI v36)] _ _ _
      refine x_aload_n F dX12_flushed_40 rfl rfl rfl ?_
      refine x_iload_n F dX12_flushed_41 rfl rfl rfl ?_
      refine x_iload F dX12_flushed_42 rfl rfl ?_
      refine s_callVP F [vI a1, vI v36] [] lkX12_278 mX12_isIn rfl ha0 rfl hnE hn0 hd pX12_isIn (tX12_isIn cx.l x hi G8 a0 a1 v36 ha0) rfl rfl dX12_flushed_44 rfl rfl (fun v37 => ?_)
      refine x_jn (fun (K41 : Int → Int → Hp → RT) => ∀ (v38 : Int) (v39 : Int) (G40 : Hp), Y cx x 7 (some .int) 129 68 [(0, vR a0), (1, vI a1), (2, vI a2), (3, vI v38), (4, vI v39), (5, vI v7)] [] G40 (K41 v38 v39 G40)) ?_ (fun K41 hK41 => ?_)
      · intro v38 v39 G40
        refine x_iinc F dX12_flushed_68 rfl (by decide) rfl rfl (fun v42 => ?_)
        show Y cx x _ _ _ _ [(0, vR a0), (1, vI a1), (2, vI a2), (3, vI v38), (4, vI v39), (5, vI v42)] _ _ _
        refine x_goto (pc' := 19) F dX12_flushed_71 rfl ?_
        exact hrc9 v38 v39 v42 G40
      · refine x_ifeq (pt := 65) F dX12_flushed_47 rfl rfl ?_ ?_
        · refine x_iinc F dX12_flushed_65 rfl (by decide) rfl rfl (fun v43 => ?_)
          show Y cx x _ _ _ _ [(0, vR a0), (1, vI a1), (2, vI a2), (3, vI v43), (4, vI v6), (5, vI v7), (6, vI v36)] _ _ _
          refine x_dp (L' := [(0, vR a0), (1, vI a1), (2, vI a2), (3, vI v43), (4, vI v6), (5, vI v7)]) [0, 1, 2, 3, 4, 5] rfl ?_
          exact hK41 v43 v6 G8
        · refine x_aload_n F dX12_flushed_50 rfl rfl rfl ?_
          refine x_getR F flX12_118 ha0 rfl dX12_flushed_51 rfl ?_
          refine x_iload F dX12_flushed_54 rfl rfl ?_
          refine x_iload F dX12_flushed_56 rfl rfl ?_
          refine s_iast F (tf12_23 ha0).1 (tf12_23 ha0).2 dX12_flushed_58 rfl (fun G44 => ?_)
          refine x_iinc F dX12_flushed_59 rfl (by decide) rfl rfl (fun v45 => ?_)
          show Y cx x _ _ _ _ [(0, vR a0), (1, vI a1), (2, vI a2), (3, vI v5), (4, vI v45), (5, vI v7), (6, vI v36)] _ _ _
          refine x_goto (pc' := 68) F dX12_flushed_62 rfl ?_
          refine x_dp (L' := [(0, vR a0), (1, vI a1), (2, vI a2), (3, vI v5), (4, vI v45), (5, vI v7)]) [0, 1, 2, 3, 4, 5] rfl ?_
          exact hK41 v5 v45 G44
    · refine x_aload_n F dX12_flushed_74 rfl rfl rfl ?_
      refine x_iload_n F dX12_flushed_75 rfl rfl rfl ?_
      refine x_iload_n F dX12_flushed_76 rfl rfl rfl ?_
      refine x_iload F dX12_flushed_77 rfl rfl ?_
      refine s_callVv F [vI a1, vI a2, vI v6] [] lkX12_322 mX12_listIs rfl ha0 rfl hnE hn0 hd (tX12_listIs cx.l x hi G8 a0 a1 a2 v6 ha0) rfl rfl dX12_flushed_79 rfl rfl (fun _ G11 => ?_)
      refine x_iconst F dX12_flushed_82 ⟨by decide, by decide⟩ rfl ?_
      refine x_dp (L' := [(0, vR a0), (1, vI a1), (2, vI a2), (3, vI v5), (5, vI v7)]) [0, 1, 2, 3, 5] rfl ?_
      refine x_istore F dX12_flushed_83 (by decide) rfl rfl (fun v12 => ?_)
      show Y cx x _ _ _ _ [(0, vR a0), (1, vI a1), (2, vI a2), (3, vI v5), (5, vI v12)] _ _ _
      refine x_lp (fun (rc16 : Int → Int → Hp → RT) => ∀ (v13 : Int) (v14 : Int) (G15 : Hp), Y cx x 7 (some .int) 129 85 [(0, vR a0), (1, vI a1), (2, vI a2), (3, vI v13), (5, vI v14)] [] G15 (rc16 v13 v14 G15)) (fun _ _ _ => Y_none) (fun rc16 hrc16 v13 v14 G15 => ?_) 5000 v5 v12 G11
      refine x_iload F dX12_flushed_85 rfl rfl ?_
      refine x_bipush F dX12_flushed_87 ⟨by decide, by decide⟩ (by decide) rfl ?_
      refine x_icmpge (pt := 164) F dX12_flushed_89 rfl rfl ?_ ?_
      · refine x_aload_n F dX12_flushed_92 rfl rfl rfl ?_
        refine x_iload_n F dX12_flushed_93 rfl rfl rfl ?_
        refine x_iload_n F dX12_flushed_94 rfl rfl rfl ?_
        refine x_iload F dX12_flushed_95 rfl rfl ?_
        refine s_callVP F [vI a1, vI a2, vI v14] [] lkX12_304 mX12_fingerOf rfl ha0 rfl hnE hn0 hd pX12_fingerOf (tX12_fingerOf cx.l x hi G15 a0 a1 a2 v14 ha0) rfl rfl dX12_flushed_97 rfl rfl (fun v22 => ?_)
        refine x_istore F dX12_flushed_100 (by decide) rfl rfl (fun v23 => ?_)
        show Y cx x _ _ _ _ [(0, vR a0), (1, vI a1), (2, vI a2), (3, vI v13), (5, vI v14), (6, vI v23)] _ _ _
        refine x_iload_n F dX12_flushed_102 rfl rfl rfl ?_
        refine x_iload F dX12_flushed_103 rfl rfl ?_
        refine x_jn (fun (K25 : Int → RT) => ∀ (v24 : Int), Y cx x 7 (some .int) 129 123 [(0, vR a0), (1, vI a1), (2, vI a2), (5, vI v14), (6, vI v23)] [vI v24, vI v13] G15 (K25 v24)) ?_ (fun K25 hK25 => ?_)
        · intro v24
          refine x_iadd F dX12_flushed_123 rfl ?_
          refine x_istore_n F dX12_flushed_124 rfl (by decide) rfl rfl (fun v26 => ?_)
          show Y cx x _ _ _ _ [(0, vR a0), (1, vI a1), (2, vI a2), (5, vI v14), (6, vI v23), (3, vI v26)] _ _ _
          refine x_aload_n F dX12_flushed_125 rfl rfl rfl ?_
          refine x_getR F flX12_105 ha0 rfl dX12_flushed_126 rfl ?_
          refine x_iload_n F dX12_flushed_129 rfl rfl rfl ?_
          refine x_bipush F dX12_flushed_130 ⟨by decide, by decide⟩ (by decide) rfl ?_
          refine x_iload_n F dX12_flushed_132 rfl rfl rfl ?_
          refine x_imul F dX12_flushed_133 rfl ?_
          refine x_iadd F dX12_flushed_134 rfl ?_
          refine x_bipush F dX12_flushed_135 ⟨by decide, by decide⟩ (by decide) rfl ?_
          refine x_iadd F dX12_flushed_137 rfl ?_
          refine x_iload F dX12_flushed_138 rfl rfl ?_
          refine x_iadd F dX12_flushed_140 rfl ?_
          refine x_aload_n F dX12_flushed_141 rfl rfl rfl ?_
          refine x_iload_n F dX12_flushed_142 rfl rfl rfl ?_
          refine x_iload F dX12_flushed_143 rfl rfl ?_
          refine s_callVP F [vI a1, vI v23] [vI (iadd (iadd (iadd a1 (imul 15 a2)) 7) v14), vR ((rf a0 17))] lkX12_278 mX12_isIn rfl ha0 rfl hnE hn0 hd pX12_isIn (tX12_isIn cx.l x hi G15 a0 a1 v23 ha0) rfl rfl dX12_flushed_145 rfl rfl (fun v27 => ?_)
          refine x_jn (fun (K29 : Int → RT) => ∀ (v28 : Int), Y cx x 7 (some .int) 129 157 [(0, vR a0), (1, vI a1), (2, vI a2), (3, vI v26), (5, vI v14)] [vI v28, vI (iadd (iadd (iadd a1 (imul 15 a2)) 7) v14), vR ((rf a0 17))] G15 (K29 v28)) ?_ (fun K29 hK29 => ?_)
          · intro v28
            refine s_iast F (tf12_17 ha0).1 (tf12_17 ha0).2 dX12_flushed_157 rfl (fun G30 => ?_)
            refine x_iinc F dX12_flushed_158 rfl (by decide) rfl rfl (fun v31 => ?_)
            show Y cx x _ _ _ _ [(0, vR a0), (1, vI a1), (2, vI a2), (3, vI v26), (5, vI v31)] _ _ _
            refine x_goto (pc' := 85) F dX12_flushed_161 rfl ?_
            exact hrc16 v26 v31 G30
          · refine x_ifeq (pt := 156) F dX12_flushed_148 rfl rfl ?_ ?_
            · refine x_iconst F dX12_flushed_156 ⟨by decide, by decide⟩ rfl ?_
              refine x_dp (L' := [(0, vR a0), (1, vI a1), (2, vI a2), (3, vI v26), (5, vI v14)]) [0, 1, 2, 5, 3] rfl ?_
              exact hK29 ((-1))
            · refine x_iload F dX12_flushed_151 rfl rfl ?_
              refine x_goto (pc' := 157) F dX12_flushed_153 rfl ?_
              refine x_dp (L' := [(0, vR a0), (1, vI a1), (2, vI a2), (3, vI v26), (5, vI v14)]) [0, 1, 2, 5, 3] rfl ?_
              exact hK29 v23
        · refine x_jn (fun (K32 : RT) => Y cx x 7 (some .int) 129 122 [(0, vR a0), (1, vI a1), (2, vI a2), (5, vI v14), (6, vI v23)] [vI v13] G15 K32) ?_ (fun K32 hK32 => ?_)
          · refine x_iconst F dX12_flushed_122 ⟨by decide, by decide⟩ rfl ?_
            exact hK25 0
          · refine x_iflt (pt := 122) F dX12_flushed_105 rfl rfl ?_ ?_
            · refine x_dp (L' := [(0, vR a0), (1, vI a1), (2, vI a2), (5, vI v14), (6, vI v23)]) [0, 1, 2, 4, 5] rfl ?_
              exact hK32
            · refine x_aload_n F dX12_flushed_108 rfl rfl rfl ?_
              refine x_iload_n F dX12_flushed_109 rfl rfl rfl ?_
              refine x_iload F dX12_flushed_110 rfl rfl ?_
              refine s_callVP F [vI a1, vI v23] [vI v13] lkX12_278 mX12_isIn rfl ha0 rfl hnE hn0 hd pX12_isIn (tX12_isIn cx.l x hi G15 a0 a1 v23 ha0) rfl rfl dX12_flushed_112 rfl rfl (fun v33 => ?_)
              refine x_ifne (pt := 122) F dX12_flushed_115 rfl rfl ?_ ?_
              · refine x_iconst F dX12_flushed_118 ⟨by decide, by decide⟩ rfl ?_
                refine x_goto (pc' := 123) F dX12_flushed_119 rfl ?_
                refine x_dp (L' := [(0, vR a0), (1, vI a1), (2, vI a2), (5, vI v14), (6, vI v23)]) [0, 1, 2, 4, 5] rfl ?_
                exact hK25 1
              · refine x_dp (L' := [(0, vR a0), (1, vI a1), (2, vI a2), (5, vI v14), (6, vI v23)]) [0, 1, 2, 4, 5] rfl ?_
                exact hK32
      · refine x_aload_n F dX12_flushed_164 rfl rfl rfl ?_
        refine x_getR F flX12_105 ha0 rfl dX12_flushed_165 rfl ?_
        refine x_iload_n F dX12_flushed_168 rfl rfl rfl ?_
        refine x_bipush F dX12_flushed_169 ⟨by decide, by decide⟩ (by decide) rfl ?_
        refine x_iload_n F dX12_flushed_171 rfl rfl rfl ?_
        refine x_imul F dX12_flushed_172 rfl ?_
        refine x_iadd F dX12_flushed_173 rfl ?_
        refine x_bipush F dX12_flushed_174 ⟨by decide, by decide⟩ (by decide) rfl ?_
        refine x_iadd F dX12_flushed_176 rfl ?_
        refine x_aload_n F dX12_flushed_177 rfl rfl rfl ?_
        refine x_iload_n F dX12_flushed_178 rfl rfl rfl ?_
        refine x_aload_n F dX12_flushed_179 rfl rfl rfl ?_
        refine x_iload_n F dX12_flushed_180 rfl rfl rfl ?_
        refine x_iload_n F dX12_flushed_181 rfl rfl rfl ?_
        refine s_callVP F [vI a1, vI a2] [vI a1, vR a0, vI (iadd (iadd a1 (imul 15 a2)) 6), vR ((rf a0 17))] lkX12_343 mX12_aheadOf rfl ha0 rfl hnE hn0 hd pX12_aheadOf (tX12_aheadOf cx.l x hi G15 a0 a1 a2 ha0) rfl rfl dX12_flushed_182 rfl rfl (fun v17 => ?_)
        refine s_callVP F [vI a1, vI v17] [vI (iadd (iadd a1 (imul 15 a2)) 6), vR ((rf a0 17))] lkX12_278 mX12_isIn rfl ha0 rfl hnE hn0 hd pX12_isIn (tX12_isIn cx.l x hi G15 a0 a1 v17 ha0) rfl rfl dX12_flushed_185 rfl rfl (fun v18 => ?_)
        refine x_ifeq (pt := 200) F dX12_flushed_188 rfl rfl ?_ ?_
        · refine x_iconst F dX12_flushed_200 ⟨by decide, by decide⟩ rfl ?_
          refine s_iast F (tf12_17 ha0).1 (tf12_17 ha0).2 dX12_flushed_201 rfl (fun G19 => ?_)
          refine x_iload_n F dX12_flushed_202 rfl rfl rfl ?_
          exact x_iret F hnE hQ dX12_flushed_203
        · refine x_aload_n F dX12_flushed_191 rfl rfl rfl ?_
          refine x_iload_n F dX12_flushed_192 rfl rfl rfl ?_
          refine x_iload_n F dX12_flushed_193 rfl rfl rfl ?_
          refine s_callVP F [vI a1, vI a2] [vI (iadd (iadd a1 (imul 15 a2)) 6), vR ((rf a0 17))] lkX12_343 mX12_aheadOf rfl ha0 rfl hnE hn0 hd pX12_aheadOf (tX12_aheadOf cx.l x hi G15 a0 a1 a2 ha0) rfl rfl dX12_flushed_194 rfl rfl (fun v20 => ?_)
          refine x_goto (pc' := 201) F dX12_flushed_197 rfl ?_
          refine s_iast F (tf12_17 ha0).1 (tf12_17 ha0).2 dX12_flushed_201 rfl (fun G21 => ?_)
          refine x_iload_n F dX12_flushed_202 rfl rfl rfl ?_
          exact x_iret F hnE hQ dX12_flushed_203
theorem dX12_hasFinger_0 : decode cX12_hasFinger 0 = .ok (.iload_n 1, 1) := by decide +kernel
theorem dX12_hasFinger_1 : decode cX12_hasFinger 1 = .ok (.ifCond .lt 23, 3) := by decide +kernel
theorem dX12_hasFinger_4 : decode cX12_hasFinger 4 = .ok (.iload_n 1, 1) := by decide +kernel
theorem dX12_hasFinger_5 : decode cX12_hasFinger 5 = .ok (.bipush 8, 2) := by decide +kernel
theorem dX12_hasFinger_7 : decode cX12_hasFinger 7 = .ok (.if_icmp .ge 17, 3) := by decide +kernel
theorem dX12_hasFinger_10 : decode cX12_hasFinger 10 = .ok (.iconst 1, 1) := by decide +kernel
theorem dX12_hasFinger_11 : decode cX12_hasFinger 11 = .ok (.iload_n 1, 1) := by decide +kernel
theorem dX12_hasFinger_12 : decode cX12_hasFinger 12 = .ok (.ishl, 1) := by decide +kernel
theorem dX12_hasFinger_13 : decode cX12_hasFinger 13 = .ok (.aload_n 0, 1) := by decide +kernel
theorem dX12_hasFinger_14 : decode cX12_hasFinger 14 = .ok (.invokevirtual 257, 3) := by decide +kernel
theorem dX12_hasFinger_17 : decode cX12_hasFinger 17 = .ok (.if_icmp .ge 7, 3) := by decide +kernel
theorem dX12_hasFinger_20 : decode cX12_hasFinger 20 = .ok (.iconst 1, 1) := by decide +kernel
theorem dX12_hasFinger_21 : decode cX12_hasFinger 21 = .ok (.goto 4, 3) := by decide +kernel
theorem dX12_hasFinger_24 : decode cX12_hasFinger 24 = .ok (.iconst 0, 1) := by decide +kernel
theorem dX12_hasFinger_25 : decode cX12_hasFinger 25 = .ok (.ireturn, 1) := by decide +kernel
def fX12_hasFinger (a0 : Nat) (a1 : Int) (G : Hp) : RT := if a1 < 0 then rz 0 G else (if a1 < 8 then (bp (fX12_circle a0 G) fun v1 => if (ishl 1 a1) < v1 then rz 1 G else rz 0 G) else rz 0 G)
theorem pX12_hasFinger {G : Hp} {a0 : Nat} {a1 : Int} : PU G (fX12_hasFinger a0 a1 G) := by
  unfold fX12_hasFinger
  refine PU_ite ?_ ?_
  · exact PU_rz
  · refine PU_ite ?_ ?_
    · refine PU_bp (fun v1 => ?_)
      refine PU_ite ?_ ?_
      · exact PU_rz
      · exact PU_rz
    · exact PU_rz
set_option maxRecDepth 20000 in
set_option maxHeartbeats 4000000 in
theorem tX12_hasFinger (l : Launch) (x : WX) (hi : Inj x.2.2) (G : Hp) (a0 : Nat) (a1 : Int) (ha0 : kd a0 = 12) : Ct l x yX12_hasFinger cX12_hasFinger 2 (some .boolean) 1 129 129 [vR a0, vI a1] G (fX12_hasFinger a0 a1 G) := by
  refine ct_of (plainFor_of_name (by decide)) hi (Nat.le_refl _) (Nat.le_refl _) (Nat.le_of_ble_eq_true rfl) (fun cx F hd hn0 hnE hl hQ => ?_)
  subst hl
  have F : Fx cx x RX12 cX12_hasFinger 2 (some .boolean) := F
  show Y cx x 2 (some .boolean) 129 0 [(0, vR a0), (1, vI a1)] [] G _
  unfold fX12_hasFinger
  refine x_iload_n F dX12_hasFinger_0 rfl rfl rfl ?_
  refine x_iflt (pt := 24) F dX12_hasFinger_1 rfl rfl ?_ ?_
  · refine x_iconst F dX12_hasFinger_24 ⟨by decide, by decide⟩ rfl ?_
    exact x_zret F hnE hQ dX12_hasFinger_25
  · refine x_iload_n F dX12_hasFinger_4 rfl rfl rfl ?_
    refine x_bipush F dX12_hasFinger_5 ⟨by decide, by decide⟩ (by decide) rfl ?_
    refine x_icmpge (pt := 24) F dX12_hasFinger_7 rfl rfl ?_ ?_
    · refine x_iconst F dX12_hasFinger_10 ⟨by decide, by decide⟩ rfl ?_
      refine x_iload_n F dX12_hasFinger_11 rfl rfl rfl ?_
      refine x_ishl F dX12_hasFinger_12 rfl ?_
      refine x_aload_n F dX12_hasFinger_13 rfl rfl rfl ?_
      refine s_callVP F [] [vI (ishl 1 a1)] lkX12_257 mX12_circle rfl ha0 rfl hnE hn0 hd pX12_circle (tX12_circle cx.l x hi G a0 ha0) rfl rfl dX12_hasFinger_14 rfl rfl (fun v1 => ?_)
      refine x_icmpge (pt := 24) F dX12_hasFinger_17 rfl rfl ?_ ?_
      · refine x_iconst F dX12_hasFinger_20 ⟨by decide, by decide⟩ rfl ?_
        refine x_goto (pc' := 25) F dX12_hasFinger_21 rfl ?_
        exact x_zret F hnE hQ dX12_hasFinger_25
      · refine x_iconst F dX12_hasFinger_24 ⟨by decide, by decide⟩ rfl ?_
        exact x_zret F hnE hQ dX12_hasFinger_25
    · refine x_iconst F dX12_hasFinger_24 ⟨by decide, by decide⟩ rfl ?_
      exact x_zret F hnE hQ dX12_hasFinger_25
theorem dX12_fingerPlace_0 : decode cX12_fingerPlace 0 = .ok (.aload_n 0, 1) := by decide +kernel
theorem dX12_fingerPlace_1 : decode cX12_fingerPlace 1 = .ok (.iload_n 1, 1) := by decide +kernel
theorem dX12_fingerPlace_2 : decode cX12_fingerPlace 2 = .ok (.invokevirtual 282, 3) := by decide +kernel
theorem dX12_fingerPlace_5 : decode cX12_fingerPlace 5 = .ok (.iconst 1, 1) := by decide +kernel
theorem dX12_fingerPlace_6 : decode cX12_fingerPlace 6 = .ok (.iload_n 2, 1) := by decide +kernel
theorem dX12_fingerPlace_7 : decode cX12_fingerPlace 7 = .ok (.ishl, 1) := by decide +kernel
theorem dX12_fingerPlace_8 : decode cX12_fingerPlace 8 = .ok (.iadd, 1) := by decide +kernel
theorem dX12_fingerPlace_9 : decode cX12_fingerPlace 9 = .ok (.aload_n 0, 1) := by decide +kernel
theorem dX12_fingerPlace_10 : decode cX12_fingerPlace 10 = .ok (.invokevirtual 257, 3) := by decide +kernel
theorem dX12_fingerPlace_13 : decode cX12_fingerPlace 13 = .ok (.irem, 1) := by decide +kernel
theorem dX12_fingerPlace_14 : decode cX12_fingerPlace 14 = .ok (.ireturn, 1) := by decide +kernel
def fX12_fingerPlace (a0 : Nat) (a1 : Int) (a2 : Int) (G : Hp) : RT := bp (fX12_placeOf a0 a1 G) fun v1 => bp (fX12_circle a0 G) fun v2 => nz v2 (rt (irem (iadd v1 (ishl 1 a2)) v2) G)
theorem pX12_fingerPlace {G : Hp} {a0 : Nat} {a1 : Int} {a2 : Int} : PU G (fX12_fingerPlace a0 a1 a2 G) := by
  unfold fX12_fingerPlace
  refine PU_bp (fun v1 => ?_)
  refine PU_bp (fun v2 => ?_)
  refine PU_nz ?_
  exact PU_rt
set_option maxRecDepth 20000 in
set_option maxHeartbeats 4000000 in
theorem tX12_fingerPlace (l : Launch) (x : WX) (hi : Inj x.2.2) (G : Hp) (a0 : Nat) (a1 : Int) (a2 : Int) (ha0 : kd a0 = 12) : Ct l x yX12_fingerPlace cX12_fingerPlace 3 (some .int) 1 129 129 [vR a0, vI a1, vI a2] G (fX12_fingerPlace a0 a1 a2 G) := by
  refine ct_of (plainFor_of_name (by decide)) hi (Nat.le_refl _) (Nat.le_refl _) (Nat.le_of_ble_eq_true rfl) (fun cx F hd hn0 hnE hl hQ => ?_)
  subst hl
  have F : Fx cx x RX12 cX12_fingerPlace 3 (some .int) := F
  show Y cx x 3 (some .int) 129 0 [(0, vR a0), (1, vI a1), (2, vI a2)] [] G _
  unfold fX12_fingerPlace
  refine x_aload_n F dX12_fingerPlace_0 rfl rfl rfl ?_
  refine x_iload_n F dX12_fingerPlace_1 rfl rfl rfl ?_
  refine s_callVP F [vI a1] [] lkX12_282 mX12_placeOf rfl ha0 rfl hnE hn0 hd pX12_placeOf (tX12_placeOf cx.l x hi G a0 a1 ha0) rfl rfl dX12_fingerPlace_2 rfl rfl (fun v1 => ?_)
  refine x_iconst F dX12_fingerPlace_5 ⟨by decide, by decide⟩ rfl ?_
  refine x_iload_n F dX12_fingerPlace_6 rfl rfl rfl ?_
  refine x_ishl F dX12_fingerPlace_7 rfl ?_
  refine x_iadd F dX12_fingerPlace_8 rfl ?_
  refine x_aload_n F dX12_fingerPlace_9 rfl rfl rfl ?_
  refine s_callVP F [] [vI (iadd v1 (ishl 1 a2))] lkX12_257 mX12_circle rfl ha0 rfl hnE hn0 hd pX12_circle (tX12_circle cx.l x hi G a0 ha0) rfl rfl dX12_fingerPlace_10 rfl rfl (fun v2 => ?_)
  refine x_irem F dX12_fingerPlace_13 rfl ?_
  exact x_iret F hnE hQ dX12_fingerPlace_14
theorem dX12_undo_0 : decode cX12_undo 0 = .ok (.aload_n 0, 1) := by decide +kernel
theorem dX12_undo_1 : decode cX12_undo 1 = .ok (.iconst 0, 1) := by decide +kernel
theorem dX12_undo_2 : decode cX12_undo 2 = .ok (.putfield 1, 3) := by decide +kernel
theorem dX12_undo_5 : decode cX12_undo 5 = .ok (.aload_n 0, 1) := by decide +kernel
theorem dX12_undo_6 : decode cX12_undo 6 = .ok (.getfield 272, 3) := by decide +kernel
theorem dX12_undo_9 : decode cX12_undo 9 = .ok (.ifCond .ne 5, 3) := by decide +kernel
theorem dX12_undo_12 : decode cX12_undo 12 = .ok (.iconst 0, 1) := by decide +kernel
theorem dX12_undo_13 : decode cX12_undo 13 = .ok (.ireturn, 1) := by decide +kernel
theorem dX12_undo_14 : decode cX12_undo 14 = .ok (.aload_n 0, 1) := by decide +kernel
theorem dX12_undo_15 : decode cX12_undo 15 = .ok (.dup, 1) := by decide +kernel
theorem dX12_undo_16 : decode cX12_undo 16 = .ok (.getfield 272, 3) := by decide +kernel
theorem dX12_undo_19 : decode cX12_undo 19 = .ok (.iconst 1, 1) := by decide +kernel
theorem dX12_undo_20 : decode cX12_undo 20 = .ok (.isub, 1) := by decide +kernel
theorem dX12_undo_21 : decode cX12_undo 21 = .ok (.putfield 272, 3) := by decide +kernel
theorem dX12_undo_24 : decode cX12_undo 24 = .ok (.aload_n 0, 1) := by decide +kernel
theorem dX12_undo_25 : decode cX12_undo 25 = .ok (.sipush 155, 3) := by decide +kernel
theorem dX12_undo_28 : decode cX12_undo 28 = .ok (.iconst 5, 1) := by decide +kernel
theorem dX12_undo_29 : decode cX12_undo 29 = .ok (.aload_n 0, 1) := by decide +kernel
theorem dX12_undo_30 : decode cX12_undo 30 = .ok (.getfield 272, 3) := by decide +kernel
theorem dX12_undo_33 : decode cX12_undo 33 = .ok (.iadd, 1) := by decide +kernel
theorem dX12_undo_34 : decode cX12_undo 34 = .ok (.imul, 1) := by decide +kernel
theorem dX12_undo_35 : decode cX12_undo 35 = .ok (.iconst 0, 1) := by decide +kernel
theorem dX12_undo_36 : decode cX12_undo 36 = .ok (.sipush 130, 3) := by decide +kernel
theorem dX12_undo_39 : decode cX12_undo 39 = .ok (.invokevirtual 275, 3) := by decide +kernel
theorem dX12_undo_42 : decode cX12_undo 42 = .ok (.iconst 1, 1) := by decide +kernel
theorem dX12_undo_43 : decode cX12_undo 43 = .ok (.ireturn, 1) := by decide +kernel
def fX12_undo (a0 : Nat) (G : Hp) : RT := bh (up G a0 0 0) fun G1 => if (G1 a0 18) = 0 then rz 0 G1 else (bh (up G1 a0 18 (isub (G1 a0 18) 1)) fun G2 => bn (fX12_copies a0 (imul 155 (iadd 5 (G2 a0 18))) 0 130 G2) fun _ G3 => rz 1 G3)
set_option maxRecDepth 20000 in
set_option maxHeartbeats 4000000 in
theorem tX12_undo (l : Launch) (x : WX) (hi : Inj x.2.2) (G : Hp) (a0 : Nat) (ha0 : kd a0 = 12) : Ct l x yX12_undo cX12_undo 1 (some .boolean) 1 129 129 [vR a0] G (fX12_undo a0 G) := by
  refine ct_of (plainFor_of_name (by decide)) hi (Nat.le_refl _) (Nat.le_refl _) (Nat.le_of_ble_eq_true rfl) (fun cx F hd hn0 hnE hl hQ => ?_)
  subst hl
  have F : Fx cx x RX12 cX12_undo 1 (some .boolean) := F
  show Y cx x 1 (some .boolean) 129 0 [(0, vR a0)] [] G _
  unfold fX12_undo
  refine x_aload_n F dX12_undo_0 rfl rfl rfl ?_
  refine x_iconst F dX12_undo_1 ⟨by decide, by decide⟩ rfl ?_
  refine s_putI F fpX12_1 ha0 rfl dX12_undo_2 rfl (fun G1 => ?_)
  refine x_aload_n F dX12_undo_5 rfl rfl rfl ?_
  refine s_getI F flX12_272 ha0 rfl dX12_undo_6 rfl ?_
  refine x_ifne (pt := 14) F dX12_undo_9 rfl rfl ?_ ?_
  · refine x_iconst F dX12_undo_12 ⟨by decide, by decide⟩ rfl ?_
    exact x_zret F hnE hQ dX12_undo_13
  · refine x_aload_n F dX12_undo_14 rfl rfl rfl ?_
    refine x_dup F dX12_undo_15 rfl rfl ?_
    refine s_getI F flX12_272 ha0 rfl dX12_undo_16 rfl ?_
    refine x_iconst F dX12_undo_19 ⟨by decide, by decide⟩ rfl ?_
    refine x_isub F dX12_undo_20 rfl ?_
    refine s_putI F fpX12_272 ha0 rfl dX12_undo_21 rfl (fun G2 => ?_)
    refine x_aload_n F dX12_undo_24 rfl rfl rfl ?_
    refine x_sipush F dX12_undo_25 ⟨by decide, by decide⟩ (by decide) rfl ?_
    refine x_iconst F dX12_undo_28 ⟨by decide, by decide⟩ rfl ?_
    refine x_aload_n F dX12_undo_29 rfl rfl rfl ?_
    refine s_getI F flX12_272 ha0 rfl dX12_undo_30 rfl ?_
    refine x_iadd F dX12_undo_33 rfl ?_
    refine x_imul F dX12_undo_34 rfl ?_
    refine x_iconst F dX12_undo_35 ⟨by decide, by decide⟩ rfl ?_
    refine x_sipush F dX12_undo_36 ⟨by decide, by decide⟩ (by decide) rfl ?_
    refine s_callVv F [vI (imul 155 (iadd 5 (G2 a0 18))), vI 0, vI 130] [] lkX12_275 mX12_copies rfl ha0 rfl hnE hn0 hd (tX12_copies cx.l x hi G2 a0 (imul 155 (iadd 5 (G2 a0 18))) 0 130 ha0) rfl rfl dX12_undo_39 rfl rfl (fun _ G3 => ?_)
    refine x_iconst F dX12_undo_42 ⟨by decide, by decide⟩ rfl ?_
    exact x_zret F hnE hQ dX12_undo_43
theorem dX12_heldMany_0 : decode cX12_heldMany 0 = .ok (.iconst 0, 1) := by decide +kernel
theorem dX12_heldMany_1 : decode cX12_heldMany 1 = .ok (.istore_n 2, 1) := by decide +kernel
theorem dX12_heldMany_2 : decode cX12_heldMany 2 = .ok (.iconst 0, 1) := by decide +kernel
theorem dX12_heldMany_3 : decode cX12_heldMany 3 = .ok (.istore_n 3, 1) := by decide +kernel
theorem dX12_heldMany_4 : decode cX12_heldMany 4 = .ok (.iload_n 3, 1) := by decide +kernel
theorem dX12_heldMany_5 : decode cX12_heldMany 5 = .ok (.aload_n 0, 1) := by decide +kernel
theorem dX12_heldMany_6 : decode cX12_heldMany 6 = .ok (.invokevirtual 229, 3) := by decide +kernel
theorem dX12_heldMany_9 : decode cX12_heldMany 9 = .ok (.if_icmp .ge 26, 3) := by decide +kernel
theorem dX12_heldMany_12 : decode cX12_heldMany 12 = .ok (.iload_n 2, 1) := by decide +kernel
theorem dX12_heldMany_13 : decode cX12_heldMany 13 = .ok (.aload_n 0, 1) := by decide +kernel
theorem dX12_heldMany_14 : decode cX12_heldMany 14 = .ok (.iload_n 1, 1) := by decide +kernel
theorem dX12_heldMany_15 : decode cX12_heldMany 15 = .ok (.iload_n 3, 1) := by decide +kernel
theorem dX12_heldMany_16 : decode cX12_heldMany 16 = .ok (.invokevirtual 331, 3) := by decide +kernel
theorem dX12_heldMany_19 : decode cX12_heldMany 19 = .ok (.ifCond .lt 7, 3) := by decide +kernel
theorem dX12_heldMany_22 : decode cX12_heldMany 22 = .ok (.iconst 1, 1) := by decide +kernel
theorem dX12_heldMany_23 : decode cX12_heldMany 23 = .ok (.goto 4, 3) := by decide +kernel
theorem dX12_heldMany_26 : decode cX12_heldMany 26 = .ok (.iconst 0, 1) := by decide +kernel
theorem dX12_heldMany_27 : decode cX12_heldMany 27 = .ok (.iadd, 1) := by decide +kernel
theorem dX12_heldMany_28 : decode cX12_heldMany 28 = .ok (.istore_n 2, 1) := by decide +kernel
theorem dX12_heldMany_29 : decode cX12_heldMany 29 = .ok (.iinc 3 1, 3) := by decide +kernel
theorem dX12_heldMany_32 : decode cX12_heldMany 32 = .ok (.goto (-28), 3) := by decide +kernel
theorem dX12_heldMany_35 : decode cX12_heldMany 35 = .ok (.iload_n 2, 1) := by decide +kernel
theorem dX12_heldMany_36 : decode cX12_heldMany 36 = .ok (.ireturn, 1) := by decide +kernel
def fX12_heldMany (a0 : Nat) (a1 : Int) (G : Hp) : RT := bd 0 fun v1 => bd 0 fun v2 => (lp (fun (_ : Int) (_ : Int) => (none : RT)) 5000 (fun (rc5 : Int → Int → RT) (v3 : Int) (v4 : Int) => bp (fX12_keys a0 G) fun v6 => if v4 < v6 then (bp (fX12_holderOf a0 a1 v4 G) fun v7 => jn (fun (v8 : Int) => bd (iadd v3 v8) fun v10 => bd (iadd v4 1) fun v11 => rc5 v10 v11) fun (K9 : Int → RT) => if v7 < 0 then K9 0 else K9 1) else rt v3 G)) v1 v2
theorem pX12_heldMany {G : Hp} {a0 : Nat} {a1 : Int} : PU G (fX12_heldMany a0 a1 G) := by
  unfold fX12_heldMany
  refine PU_bd (fun v1 => ?_)
  refine PU_bd (fun v2 => ?_)
  refine x_lp (fun (rc5 : Int → Int → RT) => ∀ (v3 : Int) (v4 : Int), PU G (rc5 v3 v4)) (fun _ _ => PU_none) (fun rc5 phrc5 v3 v4 => ?_) 5000 v1 v2
  refine PU_bp (fun v6 => ?_)
  refine PU_ite ?_ ?_
  · refine PU_bp (fun v7 => ?_)
    refine PU_jn (fun (K9 : Int → RT) => ∀ (v8 : Int), PU G (K9 v8)) ?_ (fun K9 phK9 => ?_)
    · intro v8
      refine PU_bd (fun v10 => ?_)
      refine PU_bd (fun v11 => ?_)
      exact phrc5 v10 v11
    · refine PU_ite ?_ ?_
      · exact phK9 0
      · exact phK9 1
  · exact PU_rt
set_option maxRecDepth 20000 in
set_option maxHeartbeats 4000000 in
theorem tX12_heldMany (l : Launch) (x : WX) (hi : Inj x.2.2) (G : Hp) (a0 : Nat) (a1 : Int) (ha0 : kd a0 = 12) : Ct l x yX12_heldMany cX12_heldMany 4 (some .int) 1 129 129 [vR a0, vI a1] G (fX12_heldMany a0 a1 G) := by
  refine ct_of (plainFor_of_name (by decide)) hi (Nat.le_refl _) (Nat.le_refl _) (Nat.le_of_ble_eq_true rfl) (fun cx F hd hn0 hnE hl hQ => ?_)
  subst hl
  have F : Fx cx x RX12 cX12_heldMany 4 (some .int) := F
  show Y cx x 4 (some .int) 129 0 [(0, vR a0), (1, vI a1)] [] G _
  unfold fX12_heldMany
  refine x_iconst F dX12_heldMany_0 ⟨by decide, by decide⟩ rfl ?_
  refine x_istore_n F dX12_heldMany_1 rfl (by decide) rfl rfl (fun v1 => ?_)
  show Y cx x _ _ _ _ [(0, vR a0), (1, vI a1), (2, vI v1)] _ _ _
  refine x_iconst F dX12_heldMany_2 ⟨by decide, by decide⟩ rfl ?_
  refine x_istore_n F dX12_heldMany_3 rfl (by decide) rfl rfl (fun v2 => ?_)
  show Y cx x _ _ _ _ [(0, vR a0), (1, vI a1), (2, vI v1), (3, vI v2)] _ _ _
  refine x_lp (fun (rc5 : Int → Int → RT) => ∀ (v3 : Int) (v4 : Int), Y cx x 4 (some .int) 129 4 [(0, vR a0), (1, vI a1), (2, vI v3), (3, vI v4)] [] G (rc5 v3 v4)) (fun _ _ => Y_none) (fun rc5 hrc5 v3 v4 => ?_) 5000 v1 v2
  refine x_iload_n F dX12_heldMany_4 rfl rfl rfl ?_
  refine x_aload_n F dX12_heldMany_5 rfl rfl rfl ?_
  refine s_callVP F [] [vI v4] lkX12_229 mX12_keys rfl ha0 rfl hnE hn0 hd pX12_keys (tX12_keys cx.l x hi G a0 ha0) rfl rfl dX12_heldMany_6 rfl rfl (fun v6 => ?_)
  refine x_icmpge (pt := 35) F dX12_heldMany_9 rfl rfl ?_ ?_
  · refine x_iload_n F dX12_heldMany_12 rfl rfl rfl ?_
    refine x_aload_n F dX12_heldMany_13 rfl rfl rfl ?_
    refine x_iload_n F dX12_heldMany_14 rfl rfl rfl ?_
    refine x_iload_n F dX12_heldMany_15 rfl rfl rfl ?_
    refine s_callVP F [vI a1, vI v4] [vI v3] lkX12_331 mX12_holderOf rfl ha0 rfl hnE hn0 hd pX12_holderOf (tX12_holderOf cx.l x hi G a0 a1 v4 ha0) rfl rfl dX12_heldMany_16 rfl rfl (fun v7 => ?_)
    refine x_jn (fun (K9 : Int → RT) => ∀ (v8 : Int), Y cx x 4 (some .int) 129 27 [(0, vR a0), (1, vI a1), (3, vI v4)] [vI v8, vI v3] G (K9 v8)) ?_ (fun K9 hK9 => ?_)
    · intro v8
      refine x_iadd F dX12_heldMany_27 rfl ?_
      refine x_istore_n F dX12_heldMany_28 rfl (by decide) rfl rfl (fun v10 => ?_)
      show Y cx x _ _ _ _ [(0, vR a0), (1, vI a1), (3, vI v4), (2, vI v10)] _ _ _
      refine x_iinc F dX12_heldMany_29 rfl (by decide) rfl rfl (fun v11 => ?_)
      show Y cx x _ _ _ _ [(0, vR a0), (1, vI a1), (3, vI v11), (2, vI v10)] _ _ _
      refine x_goto (pc' := 4) F dX12_heldMany_32 rfl ?_
      refine x_dp (L' := [(0, vR a0), (1, vI a1), (2, vI v10), (3, vI v11)]) [0, 1, 3, 2] rfl ?_
      exact hrc5 v10 v11
    · refine x_iflt (pt := 26) F dX12_heldMany_19 rfl rfl ?_ ?_
      · refine x_iconst F dX12_heldMany_26 ⟨by decide, by decide⟩ rfl ?_
        refine x_dp (L' := [(0, vR a0), (1, vI a1), (3, vI v4)]) [0, 1, 3] rfl ?_
        exact hK9 0
      · refine x_iconst F dX12_heldMany_22 ⟨by decide, by decide⟩ rfl ?_
        refine x_goto (pc' := 27) F dX12_heldMany_23 rfl ?_
        refine x_dp (L' := [(0, vR a0), (1, vI a1), (3, vI v4)]) [0, 1, 3] rfl ?_
        exact hK9 1
  · refine x_iload_n F dX12_heldMany_35 rfl rfl rfl ?_
    exact x_iret F hnE hQ dX12_heldMany_36
theorem dX12_isListed_0 : decode cX12_isListed 0 = .ok (.iconst 0, 1) := by decide +kernel
theorem dX12_isListed_1 : decode cX12_isListed 1 = .ok (.istore_n 3, 1) := by decide +kernel
theorem dX12_isListed_2 : decode cX12_isListed 2 = .ok (.iconst 0, 1) := by decide +kernel
theorem dX12_isListed_3 : decode cX12_isListed 3 = .ok (.istore 4, 2) := by decide +kernel
theorem dX12_isListed_5 : decode cX12_isListed 5 = .ok (.iload 4, 2) := by decide +kernel
theorem dX12_isListed_7 : decode cX12_isListed 7 = .ok (.aload_n 0, 1) := by decide +kernel
theorem dX12_isListed_8 : decode cX12_isListed 8 = .ok (.iconst 0, 1) := by decide +kernel
theorem dX12_isListed_9 : decode cX12_isListed 9 = .ok (.iload_n 1, 1) := by decide +kernel
theorem dX12_isListed_10 : decode cX12_isListed 10 = .ok (.invokevirtual 291, 3) := by decide +kernel
theorem dX12_isListed_13 : decode cX12_isListed 13 = .ok (.if_icmp .ge 31, 3) := by decide +kernel
theorem dX12_isListed_16 : decode cX12_isListed 16 = .ok (.iload_n 3, 1) := by decide +kernel
theorem dX12_isListed_17 : decode cX12_isListed 17 = .ok (.ifCond .ne 15, 3) := by decide +kernel
theorem dX12_isListed_20 : decode cX12_isListed 20 = .ok (.aload_n 0, 1) := by decide +kernel
theorem dX12_isListed_21 : decode cX12_isListed 21 = .ok (.iconst 0, 1) := by decide +kernel
theorem dX12_isListed_22 : decode cX12_isListed 22 = .ok (.iload_n 1, 1) := by decide +kernel
theorem dX12_isListed_23 : decode cX12_isListed 23 = .ok (.iload 4, 2) := by decide +kernel
theorem dX12_isListed_25 : decode cX12_isListed 25 = .ok (.invokevirtual 294, 3) := by decide +kernel
theorem dX12_isListed_28 : decode cX12_isListed 28 = .ok (.iload_n 2, 1) := by decide +kernel
theorem dX12_isListed_29 : decode cX12_isListed 29 = .ok (.if_icmp .ne 7, 3) := by decide +kernel
theorem dX12_isListed_32 : decode cX12_isListed 32 = .ok (.iconst 1, 1) := by decide +kernel
theorem dX12_isListed_33 : decode cX12_isListed 33 = .ok (.goto 4, 3) := by decide +kernel
theorem dX12_isListed_36 : decode cX12_isListed 36 = .ok (.iconst 0, 1) := by decide +kernel
theorem dX12_isListed_37 : decode cX12_isListed 37 = .ok (.istore_n 3, 1) := by decide +kernel
theorem dX12_isListed_38 : decode cX12_isListed 38 = .ok (.iinc 4 1, 3) := by decide +kernel
theorem dX12_isListed_41 : decode cX12_isListed 41 = .ok (.goto (-36), 3) := by decide +kernel
theorem dX12_isListed_44 : decode cX12_isListed 44 = .ok (.iload_n 3, 1) := by decide +kernel
theorem dX12_isListed_45 : decode cX12_isListed 45 = .ok (.ireturn, 1) := by decide +kernel
def fX12_isListed (a0 : Nat) (a1 : Int) (a2 : Int) (G : Hp) : RT := bd 0 fun v1 => bd 0 fun v2 => (lp (fun (_ : Int) (_ : Int) => (none : RT)) 5000 (fun (rc5 : Int → Int → RT) (v3 : Int) (v4 : Int) => bp (fX12_longOf a0 0 a1 G) fun v6 => if v4 < v6 then (jn (fun (v7 : Int) => bd v7 fun v9 => bd (iadd v4 1) fun v10 => rc5 v9 v10) fun (K8 : Int → RT) => jn (K8 1) fun (K11 : RT) => if v3 = 0 then (bp (fX12_listedOf a0 0 a1 v4 G) fun v12 => if v12 = a2 then K11 else K8 0) else K11) else rz v3 G)) v1 v2
theorem pX12_isListed {G : Hp} {a0 : Nat} {a1 : Int} {a2 : Int} : PU G (fX12_isListed a0 a1 a2 G) := by
  unfold fX12_isListed
  refine PU_bd (fun v1 => ?_)
  refine PU_bd (fun v2 => ?_)
  refine x_lp (fun (rc5 : Int → Int → RT) => ∀ (v3 : Int) (v4 : Int), PU G (rc5 v3 v4)) (fun _ _ => PU_none) (fun rc5 phrc5 v3 v4 => ?_) 5000 v1 v2
  refine PU_bp (fun v6 => ?_)
  refine PU_ite ?_ ?_
  · refine PU_jn (fun (K8 : Int → RT) => ∀ (v7 : Int), PU G (K8 v7)) ?_ (fun K8 phK8 => ?_)
    · intro v7
      refine PU_bd (fun v9 => ?_)
      refine PU_bd (fun v10 => ?_)
      exact phrc5 v9 v10
    · refine PU_jn (fun (K11 : RT) => PU G (K11)) ?_ (fun K11 phK11 => ?_)
      · exact phK8 1
      · refine PU_ite ?_ ?_
        · refine PU_bp (fun v12 => ?_)
          refine PU_ite ?_ ?_
          · exact phK11
          · exact phK8 0
        · exact phK11
  · exact PU_rz
set_option maxRecDepth 20000 in
set_option maxHeartbeats 4000000 in
theorem tX12_isListed (l : Launch) (x : WX) (hi : Inj x.2.2) (G : Hp) (a0 : Nat) (a1 : Int) (a2 : Int) (ha0 : kd a0 = 12) : Ct l x yX12_isListed cX12_isListed 5 (some .boolean) 1 129 129 [vR a0, vI a1, vI a2] G (fX12_isListed a0 a1 a2 G) := by
  refine ct_of (plainFor_of_name (by decide)) hi (Nat.le_refl _) (Nat.le_refl _) (Nat.le_of_ble_eq_true rfl) (fun cx F hd hn0 hnE hl hQ => ?_)
  subst hl
  have F : Fx cx x RX12 cX12_isListed 5 (some .boolean) := F
  show Y cx x 5 (some .boolean) 129 0 [(0, vR a0), (1, vI a1), (2, vI a2)] [] G _
  unfold fX12_isListed
  refine x_iconst F dX12_isListed_0 ⟨by decide, by decide⟩ rfl ?_
  refine x_istore_n F dX12_isListed_1 rfl (by decide) rfl rfl (fun v1 => ?_)
  show Y cx x _ _ _ _ [(0, vR a0), (1, vI a1), (2, vI a2), (3, vI v1)] _ _ _
  refine x_iconst F dX12_isListed_2 ⟨by decide, by decide⟩ rfl ?_
  refine x_istore F dX12_isListed_3 (by decide) rfl rfl (fun v2 => ?_)
  show Y cx x _ _ _ _ [(0, vR a0), (1, vI a1), (2, vI a2), (3, vI v1), (4, vI v2)] _ _ _
  refine x_lp (fun (rc5 : Int → Int → RT) => ∀ (v3 : Int) (v4 : Int), Y cx x 5 (some .boolean) 129 5 [(0, vR a0), (1, vI a1), (2, vI a2), (3, vI v3), (4, vI v4)] [] G (rc5 v3 v4)) (fun _ _ => Y_none) (fun rc5 hrc5 v3 v4 => ?_) 5000 v1 v2
  refine x_iload F dX12_isListed_5 rfl rfl ?_
  refine x_aload_n F dX12_isListed_7 rfl rfl rfl ?_
  refine x_iconst F dX12_isListed_8 ⟨by decide, by decide⟩ rfl ?_
  refine x_iload_n F dX12_isListed_9 rfl rfl rfl ?_
  refine s_callVP F [vI 0, vI a1] [vI v4] lkX12_291 mX12_longOf rfl ha0 rfl hnE hn0 hd pX12_longOf (tX12_longOf cx.l x hi G a0 0 a1 ha0) rfl rfl dX12_isListed_10 rfl rfl (fun v6 => ?_)
  refine x_icmpge (pt := 44) F dX12_isListed_13 rfl rfl ?_ ?_
  · refine x_iload_n F dX12_isListed_16 rfl rfl rfl ?_
    refine x_jn (fun (K8 : Int → RT) => ∀ (v7 : Int), Y cx x 5 (some .boolean) 129 37 [(0, vR a0), (1, vI a1), (2, vI a2), (4, vI v4)] [vI v7] G (K8 v7)) ?_ (fun K8 hK8 => ?_)
    · intro v7
      refine x_istore_n F dX12_isListed_37 rfl (by decide) rfl rfl (fun v9 => ?_)
      show Y cx x _ _ _ _ [(0, vR a0), (1, vI a1), (2, vI a2), (4, vI v4), (3, vI v9)] _ _ _
      refine x_iinc F dX12_isListed_38 rfl (by decide) rfl rfl (fun v10 => ?_)
      show Y cx x _ _ _ _ [(0, vR a0), (1, vI a1), (2, vI a2), (4, vI v10), (3, vI v9)] _ _ _
      refine x_goto (pc' := 5) F dX12_isListed_41 rfl ?_
      refine x_dp (L' := [(0, vR a0), (1, vI a1), (2, vI a2), (3, vI v9), (4, vI v10)]) [0, 1, 2, 4, 3] rfl ?_
      exact hrc5 v9 v10
    · refine x_jn (fun (K11 : RT) => Y cx x 5 (some .boolean) 129 32 [(0, vR a0), (1, vI a1), (2, vI a2), (4, vI v4)] [] G K11) ?_ (fun K11 hK11 => ?_)
      · refine x_iconst F dX12_isListed_32 ⟨by decide, by decide⟩ rfl ?_
        refine x_goto (pc' := 37) F dX12_isListed_33 rfl ?_
        exact hK8 1
      · refine x_ifne (pt := 32) F dX12_isListed_17 rfl rfl ?_ ?_
        · refine x_aload_n F dX12_isListed_20 rfl rfl rfl ?_
          refine x_iconst F dX12_isListed_21 ⟨by decide, by decide⟩ rfl ?_
          refine x_iload_n F dX12_isListed_22 rfl rfl rfl ?_
          refine x_iload F dX12_isListed_23 rfl rfl ?_
          refine s_callVP F [vI 0, vI a1, vI v4] [] lkX12_294 mX12_listedOf rfl ha0 rfl hnE hn0 hd pX12_listedOf (tX12_listedOf cx.l x hi G a0 0 a1 v4 ha0) rfl rfl dX12_isListed_25 rfl rfl (fun v12 => ?_)
          refine x_iload_n F dX12_isListed_28 rfl rfl rfl ?_
          refine x_icmpne (pt := 36) F dX12_isListed_29 rfl rfl ?_ ?_
          · refine x_dp (L' := [(0, vR a0), (1, vI a1), (2, vI a2), (4, vI v4)]) [0, 1, 2, 4] rfl ?_
            exact hK11
          · refine x_iconst F dX12_isListed_36 ⟨by decide, by decide⟩ rfl ?_
            refine x_dp (L' := [(0, vR a0), (1, vI a1), (2, vI a2), (4, vI v4)]) [0, 1, 2, 4] rfl ?_
            exact hK8 0
        · refine x_dp (L' := [(0, vR a0), (1, vI a1), (2, vI a2), (4, vI v4)]) [0, 1, 2, 4] rfl ?_
          exact hK11
  · refine x_iload_n F dX12_isListed_44 rfl rfl rfl ?_
    exact x_zret F hnE hQ dX12_isListed_45
theorem dX12_strands_0 : decode cX12_strands 0 = .ok (.iconst 0, 1) := by decide +kernel
theorem dX12_strands_1 : decode cX12_strands 1 = .ok (.istore_n 2, 1) := by decide +kernel
theorem dX12_strands_2 : decode cX12_strands 2 = .ok (.iconst 0, 1) := by decide +kernel
theorem dX12_strands_3 : decode cX12_strands 3 = .ok (.istore_n 3, 1) := by decide +kernel
theorem dX12_strands_4 : decode cX12_strands 4 = .ok (.iload_n 3, 1) := by decide +kernel
theorem dX12_strands_5 : decode cX12_strands 5 = .ok (.aload_n 0, 1) := by decide +kernel
theorem dX12_strands_6 : decode cX12_strands 6 = .ok (.invokevirtual 236, 3) := by decide +kernel
theorem dX12_strands_9 : decode cX12_strands 9 = .ok (.if_icmp .ge 117, 3) := by decide +kernel
theorem dX12_strands_12 : decode cX12_strands 12 = .ok (.aload_n 0, 1) := by decide +kernel
theorem dX12_strands_13 : decode cX12_strands 13 = .ok (.iconst 0, 1) := by decide +kernel
theorem dX12_strands_14 : decode cX12_strands 14 = .ok (.iload_n 3, 1) := by decide +kernel
theorem dX12_strands_15 : decode cX12_strands 15 = .ok (.invokevirtual 278, 3) := by decide +kernel
theorem dX12_strands_18 : decode cX12_strands 18 = .ok (.ifCond .eq 15, 3) := by decide +kernel
theorem dX12_strands_21 : decode cX12_strands 21 = .ok (.iload_n 1, 1) := by decide +kernel
theorem dX12_strands_22 : decode cX12_strands 22 = .ok (.iload_n 3, 1) := by decide +kernel
theorem dX12_strands_23 : decode cX12_strands 23 = .ok (.ishr, 1) := by decide +kernel
theorem dX12_strands_24 : decode cX12_strands 24 = .ok (.iconst 1, 1) := by decide +kernel
theorem dX12_strands_25 : decode cX12_strands 25 = .ok (.iand, 1) := by decide +kernel
theorem dX12_strands_26 : decode cX12_strands 26 = .ok (.ifCond .ne 7, 3) := by decide +kernel
theorem dX12_strands_29 : decode cX12_strands 29 = .ok (.iconst 1, 1) := by decide +kernel
theorem dX12_strands_30 : decode cX12_strands 30 = .ok (.goto 4, 3) := by decide +kernel
theorem dX12_strands_33 : decode cX12_strands 33 = .ok (.iconst 0, 1) := by decide +kernel
theorem dX12_strands_34 : decode cX12_strands 34 = .ok (.istore 4, 2) := by decide +kernel
theorem dX12_strands_36 : decode cX12_strands 36 = .ok (.iconst 0, 1) := by decide +kernel
theorem dX12_strands_37 : decode cX12_strands 37 = .ok (.istore 5, 2) := by decide +kernel
theorem dX12_strands_39 : decode cX12_strands 39 = .ok (.iconst 0, 1) := by decide +kernel
theorem dX12_strands_40 : decode cX12_strands 40 = .ok (.istore 6, 2) := by decide +kernel
theorem dX12_strands_42 : decode cX12_strands 42 = .ok (.iload 6, 2) := by decide +kernel
theorem dX12_strands_44 : decode cX12_strands 44 = .ok (.aload_n 0, 1) := by decide +kernel
theorem dX12_strands_45 : decode cX12_strands 45 = .ok (.iconst 0, 1) := by decide +kernel
theorem dX12_strands_46 : decode cX12_strands 46 = .ok (.iload_n 3, 1) := by decide +kernel
theorem dX12_strands_47 : decode cX12_strands 47 = .ok (.invokevirtual 291, 3) := by decide +kernel
theorem dX12_strands_50 : decode cX12_strands 50 = .ok (.if_icmp .ge 50, 3) := by decide +kernel
theorem dX12_strands_53 : decode cX12_strands 53 = .ok (.aload_n 0, 1) := by decide +kernel
theorem dX12_strands_54 : decode cX12_strands 54 = .ok (.iconst 0, 1) := by decide +kernel
theorem dX12_strands_55 : decode cX12_strands 55 = .ok (.iload_n 3, 1) := by decide +kernel
theorem dX12_strands_56 : decode cX12_strands 56 = .ok (.iload 6, 2) := by decide +kernel
theorem dX12_strands_58 : decode cX12_strands 58 = .ok (.invokevirtual 294, 3) := by decide +kernel
theorem dX12_strands_61 : decode cX12_strands 61 = .ok (.istore 7, 2) := by decide +kernel
theorem dX12_strands_63 : decode cX12_strands 63 = .ok (.iload 5, 2) := by decide +kernel
theorem dX12_strands_65 : decode cX12_strands 65 = .ok (.ifCond .ne 22, 3) := by decide +kernel
theorem dX12_strands_68 : decode cX12_strands 68 = .ok (.aload_n 0, 1) := by decide +kernel
theorem dX12_strands_69 : decode cX12_strands 69 = .ok (.iconst 0, 1) := by decide +kernel
theorem dX12_strands_70 : decode cX12_strands 70 = .ok (.iload 7, 2) := by decide +kernel
theorem dX12_strands_72 : decode cX12_strands 72 = .ok (.invokevirtual 278, 3) := by decide +kernel
theorem dX12_strands_75 : decode cX12_strands 75 = .ok (.ifCond .eq 16, 3) := by decide +kernel
theorem dX12_strands_78 : decode cX12_strands 78 = .ok (.iload_n 1, 1) := by decide +kernel
theorem dX12_strands_79 : decode cX12_strands 79 = .ok (.iload 7, 2) := by decide +kernel
theorem dX12_strands_81 : decode cX12_strands 81 = .ok (.ishr, 1) := by decide +kernel
theorem dX12_strands_82 : decode cX12_strands 82 = .ok (.iconst 1, 1) := by decide +kernel
theorem dX12_strands_83 : decode cX12_strands 83 = .ok (.iand, 1) := by decide +kernel
theorem dX12_strands_84 : decode cX12_strands 84 = .ok (.ifCond .ne 7, 3) := by decide +kernel
theorem dX12_strands_87 : decode cX12_strands 87 = .ok (.iconst 1, 1) := by decide +kernel
theorem dX12_strands_88 : decode cX12_strands 88 = .ok (.goto 4, 3) := by decide +kernel
theorem dX12_strands_91 : decode cX12_strands 91 = .ok (.iconst 0, 1) := by decide +kernel
theorem dX12_strands_92 : decode cX12_strands 92 = .ok (.istore 5, 2) := by decide +kernel
theorem dX12_strands_94 : decode cX12_strands 94 = .ok (.iinc 6 1, 3) := by decide +kernel
theorem dX12_strands_97 : decode cX12_strands 97 = .ok (.goto (-55), 3) := by decide +kernel
theorem dX12_strands_100 : decode cX12_strands 100 = .ok (.iload_n 2, 1) := by decide +kernel
theorem dX12_strands_101 : decode cX12_strands 101 = .ok (.ifCond .ne 13, 3) := by decide +kernel
theorem dX12_strands_104 : decode cX12_strands 104 = .ok (.iload 4, 2) := by decide +kernel
theorem dX12_strands_106 : decode cX12_strands 106 = .ok (.ifCond .eq 12, 3) := by decide +kernel
theorem dX12_strands_109 : decode cX12_strands 109 = .ok (.iload 5, 2) := by decide +kernel
theorem dX12_strands_111 : decode cX12_strands 111 = .ok (.ifCond .ne 7, 3) := by decide +kernel
theorem dX12_strands_114 : decode cX12_strands 114 = .ok (.iconst 1, 1) := by decide +kernel
theorem dX12_strands_115 : decode cX12_strands 115 = .ok (.goto 4, 3) := by decide +kernel
theorem dX12_strands_118 : decode cX12_strands 118 = .ok (.iconst 0, 1) := by decide +kernel
theorem dX12_strands_119 : decode cX12_strands 119 = .ok (.istore_n 2, 1) := by decide +kernel
theorem dX12_strands_120 : decode cX12_strands 120 = .ok (.iinc 3 1, 3) := by decide +kernel
theorem dX12_strands_123 : decode cX12_strands 123 = .ok (.goto (-119), 3) := by decide +kernel
theorem dX12_strands_126 : decode cX12_strands 126 = .ok (.iload_n 2, 1) := by decide +kernel
theorem dX12_strands_127 : decode cX12_strands 127 = .ok (.ireturn, 1) := by decide +kernel
def fX12_strands (a0 : Nat) (a1 : Int) (G : Hp) : RT := bd 0 fun v1 => bd 0 fun v2 => (lp (fun (_ : Int) (_ : Int) => (none : RT)) 5000 (fun (rc5 : Int → Int → RT) (v3 : Int) (v4 : Int) => bp (fX12_nodes a0 G) fun v6 => if v4 < v6 then (bp (fX12_isIn a0 0 v4 G) fun v7 => jn (fun (v8 : Int) => bd v8 fun v10 => bd 0 fun v11 => bd 0 fun v12 => (lp (fun (_ : Int) (_ : Int) => (none : RT)) 5000 (fun (rc15 : Int → Int → RT) (v13 : Int) (v14 : Int) => bp (fX12_longOf a0 0 v4 G) fun v16 => if v14 < v16 then (bp (fX12_listedOf a0 0 v4 v14 G) fun v23 => bd v23 fun v24 => jn (fun (v25 : Int) => bd v25 fun v27 => bd (iadd v14 1) fun v28 => rc15 v27 v28) fun (K26 : Int → RT) => jn (K26 1) fun (K29 : RT) => if v13 = 0 then (bp (fX12_isIn a0 0 v24 G) fun v30 => jn (K26 0) fun (K31 : RT) => if v30 = 0 then K31 else (if (iand (ishr a1 v24) 1) = 0 then K29 else K31)) else K29) else (jn (fun (v17 : Int) => bd v17 fun v19 => bd (iadd v4 1) fun v20 => rc5 v19 v20) fun (K18 : Int → RT) => jn (K18 1) fun (K21 : RT) => if v3 = 0 then (jn (K18 0) fun (K22 : RT) => if v10 = 0 then K22 else (if v13 = 0 then K21 else K22)) else K21))) v11 v12) fun (K9 : Int → RT) => jn (K9 0) fun (K32 : RT) => if v7 = 0 then K32 else (if (iand (ishr a1 v4) 1) = 0 then K9 1 else K32)) else rz v3 G)) v1 v2
theorem pX12_strands {G : Hp} {a0 : Nat} {a1 : Int} : PU G (fX12_strands a0 a1 G) := by
  unfold fX12_strands
  refine PU_bd (fun v1 => ?_)
  refine PU_bd (fun v2 => ?_)
  refine x_lp (fun (rc5 : Int → Int → RT) => ∀ (v3 : Int) (v4 : Int), PU G (rc5 v3 v4)) (fun _ _ => PU_none) (fun rc5 phrc5 v3 v4 => ?_) 5000 v1 v2
  refine PU_bp (fun v6 => ?_)
  refine PU_ite ?_ ?_
  · refine PU_bp (fun v7 => ?_)
    refine PU_jn (fun (K9 : Int → RT) => ∀ (v8 : Int), PU G (K9 v8)) ?_ (fun K9 phK9 => ?_)
    · intro v8
      refine PU_bd (fun v10 => ?_)
      refine PU_bd (fun v11 => ?_)
      refine PU_bd (fun v12 => ?_)
      refine x_lp (fun (rc15 : Int → Int → RT) => ∀ (v13 : Int) (v14 : Int), PU G (rc15 v13 v14)) (fun _ _ => PU_none) (fun rc15 phrc15 v13 v14 => ?_) 5000 v11 v12
      refine PU_bp (fun v16 => ?_)
      refine PU_ite ?_ ?_
      · refine PU_bp (fun v23 => ?_)
        refine PU_bd (fun v24 => ?_)
        refine PU_jn (fun (K26 : Int → RT) => ∀ (v25 : Int), PU G (K26 v25)) ?_ (fun K26 phK26 => ?_)
        · intro v25
          refine PU_bd (fun v27 => ?_)
          refine PU_bd (fun v28 => ?_)
          exact phrc15 v27 v28
        · refine PU_jn (fun (K29 : RT) => PU G (K29)) ?_ (fun K29 phK29 => ?_)
          · exact phK26 1
          · refine PU_ite ?_ ?_
            · refine PU_bp (fun v30 => ?_)
              refine PU_jn (fun (K31 : RT) => PU G (K31)) ?_ (fun K31 phK31 => ?_)
              · exact phK26 0
              · refine PU_ite ?_ ?_
                · exact phK31
                · refine PU_ite ?_ ?_
                  · exact phK29
                  · exact phK31
            · exact phK29
      · refine PU_jn (fun (K18 : Int → RT) => ∀ (v17 : Int), PU G (K18 v17)) ?_ (fun K18 phK18 => ?_)
        · intro v17
          refine PU_bd (fun v19 => ?_)
          refine PU_bd (fun v20 => ?_)
          exact phrc5 v19 v20
        · refine PU_jn (fun (K21 : RT) => PU G (K21)) ?_ (fun K21 phK21 => ?_)
          · exact phK18 1
          · refine PU_ite ?_ ?_
            · refine PU_jn (fun (K22 : RT) => PU G (K22)) ?_ (fun K22 phK22 => ?_)
              · exact phK18 0
              · refine PU_ite ?_ ?_
                · exact phK22
                · refine PU_ite ?_ ?_
                  · exact phK21
                  · exact phK22
            · exact phK21
    · refine PU_jn (fun (K32 : RT) => PU G (K32)) ?_ (fun K32 phK32 => ?_)
      · exact phK9 0
      · refine PU_ite ?_ ?_
        · exact phK32
        · refine PU_ite ?_ ?_
          · exact phK9 1
          · exact phK32
  · exact PU_rz
set_option maxRecDepth 20000 in
set_option maxHeartbeats 4000000 in
theorem tX12_strands (l : Launch) (x : WX) (hi : Inj x.2.2) (G : Hp) (a0 : Nat) (a1 : Int) (ha0 : kd a0 = 12) : Ct l x yX12_strands cX12_strands 8 (some .boolean) 1 129 129 [vR a0, vI a1] G (fX12_strands a0 a1 G) := by
  refine ct_of (plainFor_of_name (by decide)) hi (Nat.le_refl _) (Nat.le_refl _) (Nat.le_of_ble_eq_true rfl) (fun cx F hd hn0 hnE hl hQ => ?_)
  subst hl
  have F : Fx cx x RX12 cX12_strands 8 (some .boolean) := F
  show Y cx x 8 (some .boolean) 129 0 [(0, vR a0), (1, vI a1)] [] G _
  unfold fX12_strands
  refine x_iconst F dX12_strands_0 ⟨by decide, by decide⟩ rfl ?_
  refine x_istore_n F dX12_strands_1 rfl (by decide) rfl rfl (fun v1 => ?_)
  show Y cx x _ _ _ _ [(0, vR a0), (1, vI a1), (2, vI v1)] _ _ _
  refine x_iconst F dX12_strands_2 ⟨by decide, by decide⟩ rfl ?_
  refine x_istore_n F dX12_strands_3 rfl (by decide) rfl rfl (fun v2 => ?_)
  show Y cx x _ _ _ _ [(0, vR a0), (1, vI a1), (2, vI v1), (3, vI v2)] _ _ _
  refine x_lp (fun (rc5 : Int → Int → RT) => ∀ (v3 : Int) (v4 : Int), Y cx x 8 (some .boolean) 129 4 [(0, vR a0), (1, vI a1), (2, vI v3), (3, vI v4)] [] G (rc5 v3 v4)) (fun _ _ => Y_none) (fun rc5 hrc5 v3 v4 => ?_) 5000 v1 v2
  refine x_iload_n F dX12_strands_4 rfl rfl rfl ?_
  refine x_aload_n F dX12_strands_5 rfl rfl rfl ?_
  refine s_callVP F [] [vI v4] lkX12_236 mX12_nodes rfl ha0 rfl hnE hn0 hd pX12_nodes (tX12_nodes cx.l x hi G a0 ha0) rfl rfl dX12_strands_6 rfl rfl (fun v6 => ?_)
  refine x_icmpge (pt := 126) F dX12_strands_9 rfl rfl ?_ ?_
  · refine x_aload_n F dX12_strands_12 rfl rfl rfl ?_
    refine x_iconst F dX12_strands_13 ⟨by decide, by decide⟩ rfl ?_
    refine x_iload_n F dX12_strands_14 rfl rfl rfl ?_
    refine s_callVP F [vI 0, vI v4] [] lkX12_278 mX12_isIn rfl ha0 rfl hnE hn0 hd pX12_isIn (tX12_isIn cx.l x hi G a0 0 v4 ha0) rfl rfl dX12_strands_15 rfl rfl (fun v7 => ?_)
    refine x_jn (fun (K9 : Int → RT) => ∀ (v8 : Int), Y cx x 8 (some .boolean) 129 34 [(0, vR a0), (1, vI a1), (2, vI v3), (3, vI v4)] [vI v8] G (K9 v8)) ?_ (fun K9 hK9 => ?_)
    · intro v8
      refine x_istore F dX12_strands_34 (by decide) rfl rfl (fun v10 => ?_)
      show Y cx x _ _ _ _ [(0, vR a0), (1, vI a1), (2, vI v3), (3, vI v4), (4, vI v10)] _ _ _
      refine x_iconst F dX12_strands_36 ⟨by decide, by decide⟩ rfl ?_
      refine x_istore F dX12_strands_37 (by decide) rfl rfl (fun v11 => ?_)
      show Y cx x _ _ _ _ [(0, vR a0), (1, vI a1), (2, vI v3), (3, vI v4), (4, vI v10), (5, vI v11)] _ _ _
      refine x_iconst F dX12_strands_39 ⟨by decide, by decide⟩ rfl ?_
      refine x_istore F dX12_strands_40 (by decide) rfl rfl (fun v12 => ?_)
      show Y cx x _ _ _ _ [(0, vR a0), (1, vI a1), (2, vI v3), (3, vI v4), (4, vI v10), (5, vI v11), (6, vI v12)] _ _ _
      refine x_lp (fun (rc15 : Int → Int → RT) => ∀ (v13 : Int) (v14 : Int), Y cx x 8 (some .boolean) 129 42 [(0, vR a0), (1, vI a1), (2, vI v3), (3, vI v4), (4, vI v10), (5, vI v13), (6, vI v14)] [] G (rc15 v13 v14)) (fun _ _ => Y_none) (fun rc15 hrc15 v13 v14 => ?_) 5000 v11 v12
      refine x_iload F dX12_strands_42 rfl rfl ?_
      refine x_aload_n F dX12_strands_44 rfl rfl rfl ?_
      refine x_iconst F dX12_strands_45 ⟨by decide, by decide⟩ rfl ?_
      refine x_iload_n F dX12_strands_46 rfl rfl rfl ?_
      refine s_callVP F [vI 0, vI v4] [vI v14] lkX12_291 mX12_longOf rfl ha0 rfl hnE hn0 hd pX12_longOf (tX12_longOf cx.l x hi G a0 0 v4 ha0) rfl rfl dX12_strands_47 rfl rfl (fun v16 => ?_)
      refine x_icmpge (pt := 100) F dX12_strands_50 rfl rfl ?_ ?_
      · refine x_aload_n F dX12_strands_53 rfl rfl rfl ?_
        refine x_iconst F dX12_strands_54 ⟨by decide, by decide⟩ rfl ?_
        refine x_iload_n F dX12_strands_55 rfl rfl rfl ?_
        refine x_iload F dX12_strands_56 rfl rfl ?_
        refine s_callVP F [vI 0, vI v4, vI v14] [] lkX12_294 mX12_listedOf rfl ha0 rfl hnE hn0 hd pX12_listedOf (tX12_listedOf cx.l x hi G a0 0 v4 v14 ha0) rfl rfl dX12_strands_58 rfl rfl (fun v23 => ?_)
        refine x_istore F dX12_strands_61 (by decide) rfl rfl (fun v24 => ?_)
        show Y cx x _ _ _ _ [(0, vR a0), (1, vI a1), (2, vI v3), (3, vI v4), (4, vI v10), (5, vI v13), (6, vI v14), (7, vI v24)] _ _ _
        refine x_iload F dX12_strands_63 rfl rfl ?_
        refine x_jn (fun (K26 : Int → RT) => ∀ (v25 : Int), Y cx x 8 (some .boolean) 129 92 [(0, vR a0), (1, vI a1), (2, vI v3), (3, vI v4), (4, vI v10), (6, vI v14)] [vI v25] G (K26 v25)) ?_ (fun K26 hK26 => ?_)
        · intro v25
          refine x_istore F dX12_strands_92 (by decide) rfl rfl (fun v27 => ?_)
          show Y cx x _ _ _ _ [(0, vR a0), (1, vI a1), (2, vI v3), (3, vI v4), (4, vI v10), (6, vI v14), (5, vI v27)] _ _ _
          refine x_iinc F dX12_strands_94 rfl (by decide) rfl rfl (fun v28 => ?_)
          show Y cx x _ _ _ _ [(0, vR a0), (1, vI a1), (2, vI v3), (3, vI v4), (4, vI v10), (6, vI v28), (5, vI v27)] _ _ _
          refine x_goto (pc' := 42) F dX12_strands_97 rfl ?_
          refine x_dp (L' := [(0, vR a0), (1, vI a1), (2, vI v3), (3, vI v4), (4, vI v10), (5, vI v27), (6, vI v28)]) [0, 1, 2, 3, 4, 6, 5] rfl ?_
          exact hrc15 v27 v28
        · refine x_jn (fun (K29 : RT) => Y cx x 8 (some .boolean) 129 87 [(0, vR a0), (1, vI a1), (2, vI v3), (3, vI v4), (4, vI v10), (6, vI v14)] [] G K29) ?_ (fun K29 hK29 => ?_)
          · refine x_iconst F dX12_strands_87 ⟨by decide, by decide⟩ rfl ?_
            refine x_goto (pc' := 92) F dX12_strands_88 rfl ?_
            exact hK26 1
          · refine x_ifne (pt := 87) F dX12_strands_65 rfl rfl ?_ ?_
            · refine x_aload_n F dX12_strands_68 rfl rfl rfl ?_
              refine x_iconst F dX12_strands_69 ⟨by decide, by decide⟩ rfl ?_
              refine x_iload F dX12_strands_70 rfl rfl ?_
              refine s_callVP F [vI 0, vI v24] [] lkX12_278 mX12_isIn rfl ha0 rfl hnE hn0 hd pX12_isIn (tX12_isIn cx.l x hi G a0 0 v24 ha0) rfl rfl dX12_strands_72 rfl rfl (fun v30 => ?_)
              refine x_jn (fun (K31 : RT) => Y cx x 8 (some .boolean) 129 91 [(0, vR a0), (1, vI a1), (2, vI v3), (3, vI v4), (4, vI v10), (6, vI v14)] [] G K31) ?_ (fun K31 hK31 => ?_)
              · refine x_iconst F dX12_strands_91 ⟨by decide, by decide⟩ rfl ?_
                exact hK26 0
              · refine x_ifeq (pt := 91) F dX12_strands_75 rfl rfl ?_ ?_
                · refine x_dp (L' := [(0, vR a0), (1, vI a1), (2, vI v3), (3, vI v4), (4, vI v10), (6, vI v14)]) [0, 1, 2, 3, 4, 6] rfl ?_
                  exact hK31
                · refine x_iload_n F dX12_strands_78 rfl rfl rfl ?_
                  refine x_iload F dX12_strands_79 rfl rfl ?_
                  refine x_ishr F dX12_strands_81 rfl ?_
                  refine x_iconst F dX12_strands_82 ⟨by decide, by decide⟩ rfl ?_
                  refine x_iand F dX12_strands_83 rfl ?_
                  refine x_ifne (pt := 91) F dX12_strands_84 rfl rfl ?_ ?_
                  · refine x_dp (L' := [(0, vR a0), (1, vI a1), (2, vI v3), (3, vI v4), (4, vI v10), (6, vI v14)]) [0, 1, 2, 3, 4, 6] rfl ?_
                    exact hK29
                  · refine x_dp (L' := [(0, vR a0), (1, vI a1), (2, vI v3), (3, vI v4), (4, vI v10), (6, vI v14)]) [0, 1, 2, 3, 4, 6] rfl ?_
                    exact hK31
            · refine x_dp (L' := [(0, vR a0), (1, vI a1), (2, vI v3), (3, vI v4), (4, vI v10), (6, vI v14)]) [0, 1, 2, 3, 4, 6] rfl ?_
              exact hK29
      · refine x_iload_n F dX12_strands_100 rfl rfl rfl ?_
        refine x_jn (fun (K18 : Int → RT) => ∀ (v17 : Int), Y cx x 8 (some .boolean) 129 119 [(0, vR a0), (1, vI a1), (3, vI v4)] [vI v17] G (K18 v17)) ?_ (fun K18 hK18 => ?_)
        · intro v17
          refine x_istore_n F dX12_strands_119 rfl (by decide) rfl rfl (fun v19 => ?_)
          show Y cx x _ _ _ _ [(0, vR a0), (1, vI a1), (3, vI v4), (2, vI v19)] _ _ _
          refine x_iinc F dX12_strands_120 rfl (by decide) rfl rfl (fun v20 => ?_)
          show Y cx x _ _ _ _ [(0, vR a0), (1, vI a1), (3, vI v20), (2, vI v19)] _ _ _
          refine x_goto (pc' := 4) F dX12_strands_123 rfl ?_
          refine x_dp (L' := [(0, vR a0), (1, vI a1), (2, vI v19), (3, vI v20)]) [0, 1, 3, 2] rfl ?_
          exact hrc5 v19 v20
        · refine x_jn (fun (K21 : RT) => Y cx x 8 (some .boolean) 129 114 [(0, vR a0), (1, vI a1), (3, vI v4)] [] G K21) ?_ (fun K21 hK21 => ?_)
          · refine x_iconst F dX12_strands_114 ⟨by decide, by decide⟩ rfl ?_
            refine x_goto (pc' := 119) F dX12_strands_115 rfl ?_
            exact hK18 1
          · refine x_ifne (pt := 114) F dX12_strands_101 rfl rfl ?_ ?_
            · refine x_iload F dX12_strands_104 rfl rfl ?_
              refine x_jn (fun (K22 : RT) => Y cx x 8 (some .boolean) 129 118 [(0, vR a0), (1, vI a1), (3, vI v4)] [] G K22) ?_ (fun K22 hK22 => ?_)
              · refine x_iconst F dX12_strands_118 ⟨by decide, by decide⟩ rfl ?_
                exact hK18 0
              · refine x_ifeq (pt := 118) F dX12_strands_106 rfl rfl ?_ ?_
                · refine x_dp (L' := [(0, vR a0), (1, vI a1), (3, vI v4)]) [0, 1, 3] rfl ?_
                  exact hK22
                · refine x_iload F dX12_strands_109 rfl rfl ?_
                  refine x_ifne (pt := 118) F dX12_strands_111 rfl rfl ?_ ?_
                  · refine x_dp (L' := [(0, vR a0), (1, vI a1), (3, vI v4)]) [0, 1, 3] rfl ?_
                    exact hK21
                  · refine x_dp (L' := [(0, vR a0), (1, vI a1), (3, vI v4)]) [0, 1, 3] rfl ?_
                    exact hK22
            · refine x_dp (L' := [(0, vR a0), (1, vI a1), (3, vI v4)]) [0, 1, 3] rfl ?_
              exact hK21
    · refine x_jn (fun (K32 : RT) => Y cx x 8 (some .boolean) 129 33 [(0, vR a0), (1, vI a1), (2, vI v3), (3, vI v4)] [] G K32) ?_ (fun K32 hK32 => ?_)
      · refine x_iconst F dX12_strands_33 ⟨by decide, by decide⟩ rfl ?_
        exact hK9 0
      · refine x_ifeq (pt := 33) F dX12_strands_18 rfl rfl ?_ ?_
        · exact hK32
        · refine x_iload_n F dX12_strands_21 rfl rfl rfl ?_
          refine x_iload_n F dX12_strands_22 rfl rfl rfl ?_
          refine x_ishr F dX12_strands_23 rfl ?_
          refine x_iconst F dX12_strands_24 ⟨by decide, by decide⟩ rfl ?_
          refine x_iand F dX12_strands_25 rfl ?_
          refine x_ifne (pt := 33) F dX12_strands_26 rfl rfl ?_ ?_
          · refine x_iconst F dX12_strands_29 ⟨by decide, by decide⟩ rfl ?_
            refine x_goto (pc' := 34) F dX12_strands_30 rfl ?_
            exact hK9 1
          · exact hK32
  · refine x_iload_n F dX12_strands_126 rfl rfl rfl ?_
    exact x_zret F hnE hQ dX12_strands_127
theorem dX12_mark_0 : decode cX12_mark 0 = .ok (.aload_n 0, 1) := by decide +kernel
theorem dX12_mark_1 : decode cX12_mark 1 = .ok (.iconst 0, 1) := by decide +kernel
theorem dX12_mark_2 : decode cX12_mark 2 = .ok (.putfield 1, 3) := by decide +kernel
theorem dX12_mark_5 : decode cX12_mark 5 = .ok (.iload_n 1, 1) := by decide +kernel
theorem dX12_mark_6 : decode cX12_mark 6 = .ok (.iconst 0, 1) := by decide +kernel
theorem dX12_mark_7 : decode cX12_mark 7 = .ok (.iconst 3, 1) := by decide +kernel
theorem dX12_mark_8 : decode cX12_mark 8 = .ok (.invokestatic 401, 3) := by decide +kernel
theorem dX12_mark_11 : decode cX12_mark 11 = .ok (.ifCond .eq 16, 3) := by decide +kernel
theorem dX12_mark_14 : decode cX12_mark 14 = .ok (.iload_n 2, 1) := by decide +kernel
theorem dX12_mark_15 : decode cX12_mark 15 = .ok (.ifCond .eq 14, 3) := by decide +kernel
theorem dX12_mark_18 : decode cX12_mark 18 = .ok (.aload_n 0, 1) := by decide +kernel
theorem dX12_mark_19 : decode cX12_mark 19 = .ok (.getfield 108, 3) := by decide +kernel
theorem dX12_mark_22 : decode cX12_mark 22 = .ok (.iload_n 1, 1) := by decide +kernel
theorem dX12_mark_23 : decode cX12_mark 23 = .ok (.baload, 1) := by decide +kernel
theorem dX12_mark_24 : decode cX12_mark 24 = .ok (.ifCond .ne 5, 3) := by decide +kernel
theorem dX12_mark_27 : decode cX12_mark 27 = .ok (.iconst 0, 1) := by decide +kernel
theorem dX12_mark_28 : decode cX12_mark 28 = .ok (.ireturn, 1) := by decide +kernel
theorem dX12_mark_29 : decode cX12_mark 29 = .ok (.aload_n 0, 1) := by decide +kernel
theorem dX12_mark_30 : decode cX12_mark 30 = .ok (.getfield 108, 3) := by decide +kernel
theorem dX12_mark_33 : decode cX12_mark 33 = .ok (.iload_n 1, 1) := by decide +kernel
theorem dX12_mark_34 : decode cX12_mark 34 = .ok (.iconst 1, 1) := by decide +kernel
theorem dX12_mark_35 : decode cX12_mark 35 = .ok (.bastore, 1) := by decide +kernel
theorem dX12_mark_36 : decode cX12_mark 36 = .ok (.aload_n 0, 1) := by decide +kernel
theorem dX12_mark_37 : decode cX12_mark 37 = .ok (.iload_n 2, 1) := by decide +kernel
theorem dX12_mark_38 : decode cX12_mark 38 = .ok (.ifCond .eq 13, 3) := by decide +kernel
theorem dX12_mark_41 : decode cX12_mark 41 = .ok (.sipush 155, 3) := by decide +kernel
theorem dX12_mark_44 : decode cX12_mark 44 = .ok (.iconst 1, 1) := by decide +kernel
theorem dX12_mark_45 : decode cX12_mark 45 = .ok (.iload_n 1, 1) := by decide +kernel
theorem dX12_mark_46 : decode cX12_mark 46 = .ok (.iadd, 1) := by decide +kernel
theorem dX12_mark_47 : decode cX12_mark 47 = .ok (.imul, 1) := by decide +kernel
theorem dX12_mark_48 : decode cX12_mark 48 = .ok (.goto 4, 3) := by decide +kernel
theorem dX12_mark_51 : decode cX12_mark 51 = .ok (.iconst 0, 1) := by decide +kernel
theorem dX12_mark_52 : decode cX12_mark 52 = .ok (.iload_n 2, 1) := by decide +kernel
theorem dX12_mark_53 : decode cX12_mark 53 = .ok (.ifCond .eq 7, 3) := by decide +kernel
theorem dX12_mark_56 : decode cX12_mark 56 = .ok (.iconst 0, 1) := by decide +kernel
theorem dX12_mark_57 : decode cX12_mark 57 = .ok (.goto 10, 3) := by decide +kernel
theorem dX12_mark_60 : decode cX12_mark 60 = .ok (.sipush 155, 3) := by decide +kernel
theorem dX12_mark_63 : decode cX12_mark 63 = .ok (.iconst 1, 1) := by decide +kernel
theorem dX12_mark_64 : decode cX12_mark 64 = .ok (.iload_n 1, 1) := by decide +kernel
theorem dX12_mark_65 : decode cX12_mark 65 = .ok (.iadd, 1) := by decide +kernel
theorem dX12_mark_66 : decode cX12_mark 66 = .ok (.imul, 1) := by decide +kernel
theorem dX12_mark_67 : decode cX12_mark 67 = .ok (.sipush 155, 3) := by decide +kernel
theorem dX12_mark_70 : decode cX12_mark 70 = .ok (.invokevirtual 275, 3) := by decide +kernel
theorem dX12_mark_73 : decode cX12_mark 73 = .ok (.aload_n 0, 1) := by decide +kernel
theorem dX12_mark_74 : decode cX12_mark 74 = .ok (.iload_n 2, 1) := by decide +kernel
theorem dX12_mark_75 : decode cX12_mark 75 = .ok (.ifCond .eq 7, 3) := by decide +kernel
theorem dX12_mark_78 : decode cX12_mark 78 = .ok (.iconst 0, 1) := by decide +kernel
theorem dX12_mark_79 : decode cX12_mark 79 = .ok (.goto 7, 3) := by decide +kernel
theorem dX12_mark_82 : decode cX12_mark 82 = .ok (.aload_n 0, 1) := by decide +kernel
theorem dX12_mark_83 : decode cX12_mark 83 = .ok (.getfield 272, 3) := by decide +kernel
theorem dX12_mark_86 : decode cX12_mark 86 = .ok (.putfield 272, 3) := by decide +kernel
theorem dX12_mark_89 : decode cX12_mark 89 = .ok (.iconst 1, 1) := by decide +kernel
theorem dX12_mark_90 : decode cX12_mark 90 = .ok (.ireturn, 1) := by decide +kernel
def fX12_mark (a0 : Nat) (a1 : Int) (a2 : Int) (G : Hp) : RT := bh (up G a0 0 0) fun G1 => bp (fX12_within a1 0 3 G1) fun v2 => if v2 = 0 then rz 0 G1 else (jn (bs (wrZ G1 ((rf a0 19)) 4 a1 1) fun G4 => jn (fun (v5 : Int) => jn (fun (v7 : Int) => bn (fX12_copies a0 v5 v7 155 G4) fun _ G9 => if a2 = 0 then (bh (up G9 a0 18 (G9 a0 18)) fun G10 => rz 1 G10) else (bh (up G9 a0 18 0) fun G11 => rz 1 G11)) fun (K8 : Int → RT) => if a2 = 0 then (K8 (imul 155 (iadd 1 a1))) else K8 0) fun (K6 : Int → RT) => if a2 = 0 then K6 0 else (K6 (imul 155 (iadd 1 a1)))) fun (K3 : RT) => if a2 = 0 then K3 else (br (rd G1 ((rf a0 19)) 4 a1) fun v13 => if v13 = 0 then rz 0 G1 else K3))
set_option maxRecDepth 20000 in
set_option maxHeartbeats 4000000 in
theorem tX12_mark (l : Launch) (x : WX) (hi : Inj x.2.2) (G : Hp) (a0 : Nat) (a1 : Int) (a2 : Int) (ha0 : kd a0 = 12) : Ct l x yX12_mark cX12_mark 3 (some .boolean) 1 129 129 [vR a0, vI a1, vI a2] G (fX12_mark a0 a1 a2 G) := by
  refine ct_of (plainFor_of_name (by decide)) hi (Nat.le_refl _) (Nat.le_refl _) (Nat.le_of_ble_eq_true rfl) (fun cx F hd hn0 hnE hl hQ => ?_)
  subst hl
  have F : Fx cx x RX12 cX12_mark 3 (some .boolean) := F
  show Y cx x 3 (some .boolean) 129 0 [(0, vR a0), (1, vI a1), (2, vI a2)] [] G _
  unfold fX12_mark
  refine x_aload_n F dX12_mark_0 rfl rfl rfl ?_
  refine x_iconst F dX12_mark_1 ⟨by decide, by decide⟩ rfl ?_
  refine s_putI F fpX12_1 ha0 rfl dX12_mark_2 rfl (fun G1 => ?_)
  refine x_iload_n F dX12_mark_5 rfl rfl rfl ?_
  refine x_iconst F dX12_mark_6 ⟨by decide, by decide⟩ rfl ?_
  refine x_iconst F dX12_mark_7 ⟨by decide, by decide⟩ rfl ?_
  refine s_callSP F [vI a1, vI 0, vI 3] [] lkX12_401 mX12_within hnE hn0 hd pX12_within (tX12_within cx.l x hi G1 a1 0 3) rfl rfl dX12_mark_8 rfl rfl (fun v2 => ?_)
  refine x_ifeq (pt := 27) F dX12_mark_11 rfl rfl ?_ ?_
  · refine x_iconst F dX12_mark_27 ⟨by decide, by decide⟩ rfl ?_
    exact x_zret F hnE hQ dX12_mark_28
  · refine x_iload_n F dX12_mark_14 rfl rfl rfl ?_
    refine x_jn (fun (K3 : RT) => Y cx x 3 (some .boolean) 129 29 [(0, vR a0), (1, vI a1), (2, vI a2)] [] G1 K3) ?_ (fun K3 hK3 => ?_)
    · refine x_aload_n F dX12_mark_29 rfl rfl rfl ?_
      refine x_getR F flX12_108 ha0 rfl dX12_mark_30 rfl ?_
      refine x_iload_n F dX12_mark_33 rfl rfl rfl ?_
      refine x_iconst F dX12_mark_34 ⟨by decide, by decide⟩ rfl ?_
      refine s_zast F (tf12_19 ha0).1 (tf12_19 ha0).2 dX12_mark_35 rfl (fun G4 => ?_)
      refine x_aload_n F dX12_mark_36 rfl rfl rfl ?_
      refine x_iload_n F dX12_mark_37 rfl rfl rfl ?_
      refine x_jn (fun (K6 : Int → RT) => ∀ (v5 : Int), Y cx x 3 (some .boolean) 129 52 [(0, vR a0), (1, vI a1), (2, vI a2)] [vI v5, vR a0] G4 (K6 v5)) ?_ (fun K6 hK6 => ?_)
      · intro v5
        refine x_iload_n F dX12_mark_52 rfl rfl rfl ?_
        refine x_jn (fun (K8 : Int → RT) => ∀ (v7 : Int), Y cx x 3 (some .boolean) 129 67 [(0, vR a0), (2, vI a2)] [vI v7, vI v5, vR a0] G4 (K8 v7)) ?_ (fun K8 hK8 => ?_)
        · intro v7
          refine x_sipush F dX12_mark_67 ⟨by decide, by decide⟩ (by decide) rfl ?_
          refine s_callVv F [vI v5, vI v7, vI 155] [] lkX12_275 mX12_copies rfl ha0 rfl hnE hn0 hd (tX12_copies cx.l x hi G4 a0 v5 v7 155 ha0) rfl rfl dX12_mark_70 rfl rfl (fun _ G9 => ?_)
          refine x_aload_n F dX12_mark_73 rfl rfl rfl ?_
          refine x_iload_n F dX12_mark_74 rfl rfl rfl ?_
          refine x_ifeq (pt := 82) F dX12_mark_75 rfl rfl ?_ ?_
          · refine x_aload_n F dX12_mark_82 rfl rfl rfl ?_
            refine s_getI F flX12_272 ha0 rfl dX12_mark_83 rfl ?_
            refine s_putI F fpX12_272 ha0 rfl dX12_mark_86 rfl (fun G10 => ?_)
            refine x_iconst F dX12_mark_89 ⟨by decide, by decide⟩ rfl ?_
            exact x_zret F hnE hQ dX12_mark_90
          · refine x_iconst F dX12_mark_78 ⟨by decide, by decide⟩ rfl ?_
            refine x_goto (pc' := 86) F dX12_mark_79 rfl ?_
            refine s_putI F fpX12_272 ha0 rfl dX12_mark_86 rfl (fun G11 => ?_)
            refine x_iconst F dX12_mark_89 ⟨by decide, by decide⟩ rfl ?_
            exact x_zret F hnE hQ dX12_mark_90
        · refine x_ifeq (pt := 60) F dX12_mark_53 rfl rfl ?_ ?_
          · refine x_sipush F dX12_mark_60 ⟨by decide, by decide⟩ (by decide) rfl ?_
            refine x_iconst F dX12_mark_63 ⟨by decide, by decide⟩ rfl ?_
            refine x_iload_n F dX12_mark_64 rfl rfl rfl ?_
            refine x_iadd F dX12_mark_65 rfl ?_
            refine x_imul F dX12_mark_66 rfl ?_
            refine x_dp (L' := [(0, vR a0), (2, vI a2)]) [0, 2] rfl ?_
            exact hK8 (imul 155 (iadd 1 a1))
          · refine x_iconst F dX12_mark_56 ⟨by decide, by decide⟩ rfl ?_
            refine x_goto (pc' := 67) F dX12_mark_57 rfl ?_
            refine x_dp (L' := [(0, vR a0), (2, vI a2)]) [0, 2] rfl ?_
            exact hK8 0
      · refine x_ifeq (pt := 51) F dX12_mark_38 rfl rfl ?_ ?_
        · refine x_iconst F dX12_mark_51 ⟨by decide, by decide⟩ rfl ?_
          exact hK6 0
        · refine x_sipush F dX12_mark_41 ⟨by decide, by decide⟩ (by decide) rfl ?_
          refine x_iconst F dX12_mark_44 ⟨by decide, by decide⟩ rfl ?_
          refine x_iload_n F dX12_mark_45 rfl rfl rfl ?_
          refine x_iadd F dX12_mark_46 rfl ?_
          refine x_imul F dX12_mark_47 rfl ?_
          refine x_goto (pc' := 52) F dX12_mark_48 rfl ?_
          exact hK6 (imul 155 (iadd 1 a1))
    · refine x_ifeq (pt := 29) F dX12_mark_15 rfl rfl ?_ ?_
      · exact hK3
      · refine x_aload_n F dX12_mark_18 rfl rfl rfl ?_
        refine x_getR F flX12_108 ha0 rfl dX12_mark_19 rfl ?_
        refine x_iload_n F dX12_mark_22 rfl rfl rfl ?_
        refine s_zald F (tf12_19 ha0).1 (tf12_19 ha0).2 dX12_mark_23 rfl (fun v13 => ?_)
        refine x_ifne (pt := 29) F dX12_mark_24 rfl rfl ?_ ?_
        · refine x_iconst F dX12_mark_27 ⟨by decide, by decide⟩ rfl ?_
          exact x_zret F hnE hQ dX12_mark_28
        · exact hK3
theorem dX12_cutAll_0 : decode cX12_cutAll 0 = .ok (.aload_n 0, 1) := by decide +kernel
theorem dX12_cutAll_1 : decode cX12_cutAll 1 = .ok (.aload_n 0, 1) := by decide +kernel
theorem dX12_cutAll_2 : decode cX12_cutAll 2 = .ok (.getfield 11, 3) := by decide +kernel
theorem dX12_cutAll_5 : decode cX12_cutAll 5 = .ok (.putfield 135, 3) := by decide +kernel
theorem dX12_cutAll_8 : decode cX12_cutAll 8 = .ok (.aload_n 0, 1) := by decide +kernel
theorem dX12_cutAll_9 : decode cX12_cutAll 9 = .ok (.iconst 0, 1) := by decide +kernel
theorem dX12_cutAll_10 : decode cX12_cutAll 10 = .ok (.putfield 11, 3) := by decide +kernel
theorem dX12_cutAll_13 : decode cX12_cutAll 13 = .ok (.iconst 0, 1) := by decide +kernel
theorem dX12_cutAll_14 : decode cX12_cutAll 14 = .ok (.istore_n 1, 1) := by decide +kernel
theorem dX12_cutAll_15 : decode cX12_cutAll 15 = .ok (.iconst 0, 1) := by decide +kernel
theorem dX12_cutAll_16 : decode cX12_cutAll 16 = .ok (.istore_n 2, 1) := by decide +kernel
theorem dX12_cutAll_17 : decode cX12_cutAll 17 = .ok (.iload_n 2, 1) := by decide +kernel
theorem dX12_cutAll_18 : decode cX12_cutAll 18 = .ok (.aload_n 0, 1) := by decide +kernel
theorem dX12_cutAll_19 : decode cX12_cutAll 19 = .ok (.getfield 135, 3) := by decide +kernel
theorem dX12_cutAll_22 : decode cX12_cutAll 22 = .ok (.if_icmp .ge 257, 3) := by decide +kernel
theorem dX12_cutAll_25 : decode cX12_cutAll 25 = .ok (.aload_n 0, 1) := by decide +kernel
theorem dX12_cutAll_26 : decode cX12_cutAll 26 = .ok (.getfield 14, 3) := by decide +kernel
theorem dX12_cutAll_29 : decode cX12_cutAll 29 = .ok (.iload_n 2, 1) := by decide +kernel
theorem dX12_cutAll_30 : decode cX12_cutAll 30 = .ok (.iaload, 1) := by decide +kernel
theorem dX12_cutAll_31 : decode cX12_cutAll 31 = .ok (.istore_n 3, 1) := by decide +kernel
theorem dX12_cutAll_32 : decode cX12_cutAll 32 = .ok (.iload_n 3, 1) := by decide +kernel
theorem dX12_cutAll_33 : decode cX12_cutAll 33 = .ok (.bipush 10, 2) := by decide +kernel
theorem dX12_cutAll_35 : decode cX12_cutAll 35 = .ok (.if_icmp .eq 9, 3) := by decide +kernel
theorem dX12_cutAll_38 : decode cX12_cutAll 38 = .ok (.iload_n 3, 1) := by decide +kernel
theorem dX12_cutAll_39 : decode cX12_cutAll 39 = .ok (.bipush 32, 2) := by decide +kernel
theorem dX12_cutAll_41 : decode cX12_cutAll 41 = .ok (.if_icmp .ne 9, 3) := by decide +kernel
theorem dX12_cutAll_44 : decode cX12_cutAll 44 = .ok (.iinc 2 1, 3) := by decide +kernel
theorem dX12_cutAll_47 : decode cX12_cutAll 47 = .ok (.goto (-30), 3) := by decide +kernel
theorem dX12_cutAll_50 : decode cX12_cutAll 50 = .ok (.iload_n 2, 1) := by decide +kernel
theorem dX12_cutAll_51 : decode cX12_cutAll 51 = .ok (.istore 4, 2) := by decide +kernel
theorem dX12_cutAll_53 : decode cX12_cutAll 53 = .ok (.lconst 0, 1) := by decide +kernel
theorem dX12_cutAll_54 : decode cX12_cutAll 54 = .ok (.lstore 5, 2) := by decide +kernel
theorem dX12_cutAll_56 : decode cX12_cutAll 56 = .ok (.aload_n 0, 1) := by decide +kernel
theorem dX12_cutAll_57 : decode cX12_cutAll 57 = .ok (.getfield 27, 3) := by decide +kernel
theorem dX12_cutAll_60 : decode cX12_cutAll 60 = .ok (.iload_n 1, 1) := by decide +kernel
theorem dX12_cutAll_61 : decode cX12_cutAll 61 = .ok (.iload_n 2, 1) := by decide +kernel
theorem dX12_cutAll_62 : decode cX12_cutAll 62 = .ok (.iastore, 1) := by decide +kernel
theorem dX12_cutAll_63 : decode cX12_cutAll 63 = .ok (.iload_n 3, 1) := by decide +kernel
theorem dX12_cutAll_64 : decode cX12_cutAll 64 = .ok (.invokestatic 131, 3) := by decide +kernel
theorem dX12_cutAll_67 : decode cX12_cutAll 67 = .ok (.ifCond .eq 85, 3) := by decide +kernel
theorem dX12_cutAll_70 : decode cX12_cutAll 70 = .ok (.iload_n 2, 1) := by decide +kernel
theorem dX12_cutAll_71 : decode cX12_cutAll 71 = .ok (.aload_n 0, 1) := by decide +kernel
theorem dX12_cutAll_72 : decode cX12_cutAll 72 = .ok (.getfield 135, 3) := by decide +kernel
theorem dX12_cutAll_75 : decode cX12_cutAll 75 = .ok (.if_icmp .ge 54, 3) := by decide +kernel
theorem dX12_cutAll_78 : decode cX12_cutAll 78 = .ok (.aload_n 0, 1) := by decide +kernel
theorem dX12_cutAll_79 : decode cX12_cutAll 79 = .ok (.getfield 14, 3) := by decide +kernel
theorem dX12_cutAll_82 : decode cX12_cutAll 82 = .ok (.iload_n 2, 1) := by decide +kernel
theorem dX12_cutAll_83 : decode cX12_cutAll 83 = .ok (.iaload, 1) := by decide +kernel
theorem dX12_cutAll_84 : decode cX12_cutAll 84 = .ok (.invokestatic 131, 3) := by decide +kernel
theorem dX12_cutAll_87 : decode cX12_cutAll 87 = .ok (.ifCond .eq 42, 3) := by decide +kernel
theorem dX12_cutAll_90 : decode cX12_cutAll 90 = .ok (.iload_n 2, 1) := by decide +kernel
theorem dX12_cutAll_91 : decode cX12_cutAll 91 = .ok (.iload 4, 2) := by decide +kernel
theorem dX12_cutAll_93 : decode cX12_cutAll 93 = .ok (.isub, 1) := by decide +kernel
theorem dX12_cutAll_94 : decode cX12_cutAll 94 = .ok (.bipush 8, 2) := by decide +kernel
theorem dX12_cutAll_96 : decode cX12_cutAll 96 = .ok (.if_icmp .ge 23, 3) := by decide +kernel
theorem dX12_cutAll_99 : decode cX12_cutAll 99 = .ok (.ldc2_w 138, 3) := by decide +kernel
theorem dX12_cutAll_102 : decode cX12_cutAll 102 = .ok (.lload 5, 2) := by decide +kernel
theorem dX12_cutAll_104 : decode cX12_cutAll 104 = .ok (.lmul, 1) := by decide +kernel
theorem dX12_cutAll_105 : decode cX12_cutAll 105 = .ok (.aload_n 0, 1) := by decide +kernel
theorem dX12_cutAll_106 : decode cX12_cutAll 106 = .ok (.getfield 14, 3) := by decide +kernel
theorem dX12_cutAll_109 : decode cX12_cutAll 109 = .ok (.iload_n 2, 1) := by decide +kernel
theorem dX12_cutAll_110 : decode cX12_cutAll 110 = .ok (.iaload, 1) := by decide +kernel
theorem dX12_cutAll_111 : decode cX12_cutAll 111 = .ok (.invokestatic 140, 3) := by decide +kernel
theorem dX12_cutAll_114 : decode cX12_cutAll 114 = .ok (.i2l, 1) := by decide +kernel
theorem dX12_cutAll_115 : decode cX12_cutAll 115 = .ok (.ladd, 1) := by decide +kernel
theorem dX12_cutAll_116 : decode cX12_cutAll 116 = .ok (.goto 5, 3) := by decide +kernel
theorem dX12_cutAll_119 : decode cX12_cutAll 119 = .ok (.lload 5, 2) := by decide +kernel
theorem dX12_cutAll_121 : decode cX12_cutAll 121 = .ok (.lstore 5, 2) := by decide +kernel
theorem dX12_cutAll_123 : decode cX12_cutAll 123 = .ok (.iinc 2 1, 3) := by decide +kernel
theorem dX12_cutAll_126 : decode cX12_cutAll 126 = .ok (.goto (-56), 3) := by decide +kernel
theorem dX12_cutAll_129 : decode cX12_cutAll 129 = .ok (.aload_n 0, 1) := by decide +kernel
theorem dX12_cutAll_130 : decode cX12_cutAll 130 = .ok (.getfield 24, 3) := by decide +kernel
theorem dX12_cutAll_133 : decode cX12_cutAll 133 = .ok (.iload_n 1, 1) := by decide +kernel
theorem dX12_cutAll_134 : decode cX12_cutAll 134 = .ok (.iload_n 2, 1) := by decide +kernel
theorem dX12_cutAll_135 : decode cX12_cutAll 135 = .ok (.iload 4, 2) := by decide +kernel
theorem dX12_cutAll_137 : decode cX12_cutAll 137 = .ok (.isub, 1) := by decide +kernel
theorem dX12_cutAll_138 : decode cX12_cutAll 138 = .ok (.bipush 8, 2) := by decide +kernel
theorem dX12_cutAll_140 : decode cX12_cutAll 140 = .ok (.if_icmp .le 7, 3) := by decide +kernel
theorem dX12_cutAll_143 : decode cX12_cutAll 143 = .ok (.iconst 4, 1) := by decide +kernel
theorem dX12_cutAll_144 : decode cX12_cutAll 144 = .ok (.goto 4, 3) := by decide +kernel
theorem dX12_cutAll_147 : decode cX12_cutAll 147 = .ok (.iconst 1, 1) := by decide +kernel
theorem dX12_cutAll_148 : decode cX12_cutAll 148 = .ok (.iastore, 1) := by decide +kernel
theorem dX12_cutAll_149 : decode cX12_cutAll 149 = .ok (.goto 116, 3) := by decide +kernel
theorem dX12_cutAll_152 : decode cX12_cutAll 152 = .ok (.iload_n 3, 1) := by decide +kernel
theorem dX12_cutAll_153 : decode cX12_cutAll 153 = .ok (.invokestatic 144, 3) := by decide +kernel
theorem dX12_cutAll_156 : decode cX12_cutAll 156 = .ok (.ifCond .eq 84, 3) := by decide +kernel
theorem dX12_cutAll_159 : decode cX12_cutAll 159 = .ok (.iload_n 2, 1) := by decide +kernel
theorem dX12_cutAll_160 : decode cX12_cutAll 160 = .ok (.aload_n 0, 1) := by decide +kernel
theorem dX12_cutAll_161 : decode cX12_cutAll 161 = .ok (.getfield 135, 3) := by decide +kernel
theorem dX12_cutAll_164 : decode cX12_cutAll 164 = .ok (.if_icmp .ge 54, 3) := by decide +kernel
theorem dX12_cutAll_167 : decode cX12_cutAll 167 = .ok (.aload_n 0, 1) := by decide +kernel
theorem dX12_cutAll_168 : decode cX12_cutAll 168 = .ok (.getfield 14, 3) := by decide +kernel
theorem dX12_cutAll_171 : decode cX12_cutAll 171 = .ok (.iload_n 2, 1) := by decide +kernel
theorem dX12_cutAll_172 : decode cX12_cutAll 172 = .ok (.iaload, 1) := by decide +kernel
theorem dX12_cutAll_173 : decode cX12_cutAll 173 = .ok (.invokestatic 144, 3) := by decide +kernel
theorem dX12_cutAll_176 : decode cX12_cutAll 176 = .ok (.ifCond .eq 42, 3) := by decide +kernel
theorem dX12_cutAll_179 : decode cX12_cutAll 179 = .ok (.iload_n 2, 1) := by decide +kernel
theorem dX12_cutAll_180 : decode cX12_cutAll 180 = .ok (.iload 4, 2) := by decide +kernel
theorem dX12_cutAll_182 : decode cX12_cutAll 182 = .ok (.isub, 1) := by decide +kernel
theorem dX12_cutAll_183 : decode cX12_cutAll 183 = .ok (.iconst 4, 1) := by decide +kernel
theorem dX12_cutAll_184 : decode cX12_cutAll 184 = .ok (.if_icmp .ge 24, 3) := by decide +kernel
theorem dX12_cutAll_187 : decode cX12_cutAll 187 = .ok (.ldc2_w 147, 3) := by decide +kernel
theorem dX12_cutAll_190 : decode cX12_cutAll 190 = .ok (.lload 5, 2) := by decide +kernel
theorem dX12_cutAll_192 : decode cX12_cutAll 192 = .ok (.lmul, 1) := by decide +kernel
theorem dX12_cutAll_193 : decode cX12_cutAll 193 = .ok (.aload_n 0, 1) := by decide +kernel
theorem dX12_cutAll_194 : decode cX12_cutAll 194 = .ok (.getfield 14, 3) := by decide +kernel
theorem dX12_cutAll_197 : decode cX12_cutAll 197 = .ok (.iload_n 2, 1) := by decide +kernel
theorem dX12_cutAll_198 : decode cX12_cutAll 198 = .ok (.iaload, 1) := by decide +kernel
theorem dX12_cutAll_199 : decode cX12_cutAll 199 = .ok (.i2l, 1) := by decide +kernel
theorem dX12_cutAll_200 : decode cX12_cutAll 200 = .ok (.ladd, 1) := by decide +kernel
theorem dX12_cutAll_201 : decode cX12_cutAll 201 = .ok (.ldc2_w 149, 3) := by decide +kernel
theorem dX12_cutAll_204 : decode cX12_cutAll 204 = .ok (.lsub, 1) := by decide +kernel
theorem dX12_cutAll_205 : decode cX12_cutAll 205 = .ok (.goto 5, 3) := by decide +kernel
theorem dX12_cutAll_208 : decode cX12_cutAll 208 = .ok (.lload 5, 2) := by decide +kernel
theorem dX12_cutAll_210 : decode cX12_cutAll 210 = .ok (.lstore 5, 2) := by decide +kernel
theorem dX12_cutAll_212 : decode cX12_cutAll 212 = .ok (.iinc 2 1, 3) := by decide +kernel
theorem dX12_cutAll_215 : decode cX12_cutAll 215 = .ok (.goto (-56), 3) := by decide +kernel
theorem dX12_cutAll_218 : decode cX12_cutAll 218 = .ok (.aload_n 0, 1) := by decide +kernel
theorem dX12_cutAll_219 : decode cX12_cutAll 219 = .ok (.getfield 24, 3) := by decide +kernel
theorem dX12_cutAll_222 : decode cX12_cutAll 222 = .ok (.iload_n 1, 1) := by decide +kernel
theorem dX12_cutAll_223 : decode cX12_cutAll 223 = .ok (.iload_n 2, 1) := by decide +kernel
theorem dX12_cutAll_224 : decode cX12_cutAll 224 = .ok (.iload 4, 2) := by decide +kernel
theorem dX12_cutAll_226 : decode cX12_cutAll 226 = .ok (.isub, 1) := by decide +kernel
theorem dX12_cutAll_227 : decode cX12_cutAll 227 = .ok (.iconst 4, 1) := by decide +kernel
theorem dX12_cutAll_228 : decode cX12_cutAll 228 = .ok (.if_icmp .le 7, 3) := by decide +kernel
theorem dX12_cutAll_231 : decode cX12_cutAll 231 = .ok (.iconst 4, 1) := by decide +kernel
theorem dX12_cutAll_232 : decode cX12_cutAll 232 = .ok (.goto 4, 3) := by decide +kernel
theorem dX12_cutAll_235 : decode cX12_cutAll 235 = .ok (.iconst 2, 1) := by decide +kernel
theorem dX12_cutAll_236 : decode cX12_cutAll 236 = .ok (.iastore, 1) := by decide +kernel
theorem dX12_cutAll_237 : decode cX12_cutAll 237 = .ok (.goto 28, 3) := by decide +kernel
theorem dX12_cutAll_240 : decode cX12_cutAll 240 = .ok (.iload_n 3, 1) := by decide +kernel
theorem dX12_cutAll_241 : decode cX12_cutAll 241 = .ok (.i2l, 1) := by decide +kernel
theorem dX12_cutAll_242 : decode cX12_cutAll 242 = .ok (.lstore 5, 2) := by decide +kernel
theorem dX12_cutAll_244 : decode cX12_cutAll 244 = .ok (.aload_n 0, 1) := by decide +kernel
theorem dX12_cutAll_245 : decode cX12_cutAll 245 = .ok (.getfield 24, 3) := by decide +kernel
theorem dX12_cutAll_248 : decode cX12_cutAll 248 = .ok (.iload_n 1, 1) := by decide +kernel
theorem dX12_cutAll_249 : decode cX12_cutAll 249 = .ok (.iload_n 3, 1) := by decide +kernel
theorem dX12_cutAll_250 : decode cX12_cutAll 250 = .ok (.invokestatic 151, 3) := by decide +kernel
theorem dX12_cutAll_253 : decode cX12_cutAll 253 = .ok (.ifCond .eq 7, 3) := by decide +kernel
theorem dX12_cutAll_256 : decode cX12_cutAll 256 = .ok (.iconst 3, 1) := by decide +kernel
theorem dX12_cutAll_257 : decode cX12_cutAll 257 = .ok (.goto 4, 3) := by decide +kernel
theorem dX12_cutAll_260 : decode cX12_cutAll 260 = .ok (.iconst 4, 1) := by decide +kernel
theorem dX12_cutAll_261 : decode cX12_cutAll 261 = .ok (.iastore, 1) := by decide +kernel
theorem dX12_cutAll_262 : decode cX12_cutAll 262 = .ok (.iinc 2 1, 3) := by decide +kernel
theorem dX12_cutAll_265 : decode cX12_cutAll 265 = .ok (.aload_n 0, 1) := by decide +kernel
theorem dX12_cutAll_266 : decode cX12_cutAll 266 = .ok (.getfield 30, 3) := by decide +kernel
theorem dX12_cutAll_269 : decode cX12_cutAll 269 = .ok (.iload_n 1, 1) := by decide +kernel
theorem dX12_cutAll_270 : decode cX12_cutAll 270 = .ok (.lload 5, 2) := by decide +kernel
theorem dX12_cutAll_272 : decode cX12_cutAll 272 = .ok (.lastore, 1) := by decide +kernel
theorem dX12_cutAll_273 : decode cX12_cutAll 273 = .ok (.iinc 1 1, 3) := by decide +kernel
theorem dX12_cutAll_276 : decode cX12_cutAll 276 = .ok (.goto (-259), 3) := by decide +kernel
theorem dX12_cutAll_279 : decode cX12_cutAll 279 = .ok (.aload_n 0, 1) := by decide +kernel
theorem dX12_cutAll_280 : decode cX12_cutAll 280 = .ok (.getfield 24, 3) := by decide +kernel
theorem dX12_cutAll_283 : decode cX12_cutAll 283 = .ok (.iload_n 1, 1) := by decide +kernel
theorem dX12_cutAll_284 : decode cX12_cutAll 284 = .ok (.iconst 0, 1) := by decide +kernel
theorem dX12_cutAll_285 : decode cX12_cutAll 285 = .ok (.iastore, 1) := by decide +kernel
theorem dX12_cutAll_286 : decode cX12_cutAll 286 = .ok (.aload_n 0, 1) := by decide +kernel
theorem dX12_cutAll_287 : decode cX12_cutAll 287 = .ok (.getfield 27, 3) := by decide +kernel
theorem dX12_cutAll_290 : decode cX12_cutAll 290 = .ok (.iload_n 1, 1) := by decide +kernel
theorem dX12_cutAll_291 : decode cX12_cutAll 291 = .ok (.aload_n 0, 1) := by decide +kernel
theorem dX12_cutAll_292 : decode cX12_cutAll 292 = .ok (.getfield 135, 3) := by decide +kernel
theorem dX12_cutAll_295 : decode cX12_cutAll 295 = .ok (.iastore, 1) := by decide +kernel
theorem dX12_cutAll_296 : decode cX12_cutAll 296 = .ok (.aload_n 0, 1) := by decide +kernel
theorem dX12_cutAll_297 : decode cX12_cutAll 297 = .ok (.iconst 0, 1) := by decide +kernel
theorem dX12_cutAll_298 : decode cX12_cutAll 298 = .ok (.putfield 154, 3) := by decide +kernel
theorem dX12_cutAll_301 : decode cX12_cutAll 301 = .ok (.aload_n 0, 1) := by decide +kernel
theorem dX12_cutAll_302 : decode cX12_cutAll 302 = .ok (.iconst 0, 1) := by decide +kernel
theorem dX12_cutAll_303 : decode cX12_cutAll 303 = .ok (.putfield 157, 3) := by decide +kernel
theorem dX12_cutAll_306 : decode cX12_cutAll 306 = .ok (.return_, 1) := by decide +kernel
def fX12_cutAll (a0 : Nat) (G : Hp) : RT := bh (up G a0 3 (G a0 2)) fun G1 => bh (up G1 a0 2 0) fun G2 => bd 0 fun v3 => bd 0 fun v4 => (lp (fun (_ : Int) (_ : Int) (_ : Hp) => (none : RT)) 5000 (fun (rc8 : Int → Int → Hp → RT) (v5 : Int) (v6 : Int) (G7 : Hp) => if v6 < (G7 a0 3) then (br (rd G7 ((rf a0 1)) 1000 v6) fun v13 => bd v13 fun v14 => jn (bd (iadd v6 1) fun v16 => rc8 v5 v16 G7) fun (K15 : RT) => if v14 = 10 then K15 else (if v14 = 32 then K15 else (bd v6 fun v17 => bd 0 fun v18 => bs (wr G7 ((rf a0 5)) 1002 v5 v6) fun G19 => bp (fX12_isLetter v14 G19) fun v20 => jn (fun (v21 : Int) (v22 : Int) (G23 : Hp) => bs (wr G23 ((rf a0 6)) 1002 v5 v22) fun G25 => bd (iadd v5 1) fun v26 => rc8 v26 v21 G25) fun (K24 : Int → Int → Hp → RT) => if v20 = 0 then (bp (fX12_isDigit v14 G19) fun v27 => if v27 = 0 then (bd v14 fun v28 => bp (fX12_isSignOf v14 G19) fun v29 => jn (fun (v30 : Int) => bs (wr G19 ((rf a0 4)) 1002 v5 v30) fun G32 => bd (iadd v6 1) fun v33 => K24 v33 v28 G32) fun (K31 : Int → RT) => if v29 = 0 then K31 4 else K31 3) else ((lp (fun (_ : Int) (_ : Int) => (none : RT)) 5000 (fun (rc36 : Int → Int → RT) (v34 : Int) (v35 : Int) => jn (jn (fun (v38 : Int) => bs (wr G19 ((rf a0 4)) 1002 v5 v38) fun G40 => K24 v34 v35 G40) fun (K39 : Int → RT) => if 4 < (isub v34 v17) then K39 4 else K39 2) fun (K37 : RT) => if v34 < (G19 a0 3) then (br (rd G19 ((rf a0 1)) 1000 v34) fun v41 => bp (fX12_isDigit v41 G19) fun v42 => if v42 = 0 then K37 else (jn (fun (v43 : Int) => bd v43 fun v45 => bd (iadd v34 1) fun v46 => rc36 v46 v45) fun (K44 : Int → RT) => if (isub v34 v17) < 4 then (br (rd G19 ((rf a0 1)) 1000 v34) fun v47 => K44 (lsub (ladd (lmul 10 v35) v47) 48)) else K44 v35)) else K37)) v6 v18)) else ((lp (fun (_ : Int) (_ : Int) => (none : RT)) 5000 (fun (rc50 : Int → Int → RT) (v48 : Int) (v49 : Int) => jn (jn (fun (v52 : Int) => bs (wr G19 ((rf a0 4)) 1002 v5 v52) fun G54 => K24 v48 v49 G54) fun (K53 : Int → RT) => if 8 < (isub v48 v17) then K53 4 else K53 1) fun (K51 : RT) => if v48 < (G19 a0 3) then (br (rd G19 ((rf a0 1)) 1000 v48) fun v55 => bp (fX12_isLetter v55 G19) fun v56 => if v56 = 0 then K51 else (jn (fun (v57 : Int) => bd v57 fun v59 => bd (iadd v48 1) fun v60 => rc50 v60 v59) fun (K58 : Int → RT) => if (isub v48 v17) < 8 then (br (rd G19 ((rf a0 1)) 1000 v48) fun v61 => bp (fX12_rank v61 G19) fun v62 => K58 (ladd (lmul 37 v49) v62)) else K58 v49)) else K51)) v6 v18)))) else (bs (wr G7 ((rf a0 4)) 1002 v5 0) fun G9 => bs (wr G9 ((rf a0 5)) 1002 v5 (G9 a0 3)) fun G10 => bh (up G10 a0 7 0) fun G11 => bh (up G11 a0 8 0) fun G12 => rt 0 G12))) v3 v4 G2
set_option maxRecDepth 20000 in
set_option maxHeartbeats 4000000 in
theorem tX12_cutAll (l : Launch) (x : WX) (hi : Inj x.2.2) (G : Hp) (a0 : Nat) (ha0 : kd a0 = 12) : Ct l x yX12_cutAll cX12_cutAll 7 none 2 129 129 [vR a0] G (fX12_cutAll a0 G) := by
  refine ct_of (plainFor_of_name (by decide)) hi (Nat.le_refl _) (Nat.le_refl _) (Nat.le_of_ble_eq_true rfl) (fun cx F hd hn0 hnE hl hQ => ?_)
  subst hl
  have F : Fx cx x RX12 cX12_cutAll 7 none := F
  show Y cx x 7 none 129 0 [(0, vR a0)] [] G _
  unfold fX12_cutAll
  refine x_aload_n F dX12_cutAll_0 rfl rfl rfl ?_
  refine x_aload_n F dX12_cutAll_1 rfl rfl rfl ?_
  refine s_getI F flX12_11 ha0 rfl dX12_cutAll_2 rfl ?_
  refine s_putI F fpX12_135 ha0 rfl dX12_cutAll_5 rfl (fun G1 => ?_)
  refine x_aload_n F dX12_cutAll_8 rfl rfl rfl ?_
  refine x_iconst F dX12_cutAll_9 ⟨by decide, by decide⟩ rfl ?_
  refine s_putI F fpX12_11 ha0 rfl dX12_cutAll_10 rfl (fun G2 => ?_)
  refine x_iconst F dX12_cutAll_13 ⟨by decide, by decide⟩ rfl ?_
  refine x_istore_n F dX12_cutAll_14 rfl (by decide) rfl rfl (fun v3 => ?_)
  show Y cx x _ _ _ _ [(0, vR a0), (1, vI v3)] _ _ _
  refine x_iconst F dX12_cutAll_15 ⟨by decide, by decide⟩ rfl ?_
  refine x_istore_n F dX12_cutAll_16 rfl (by decide) rfl rfl (fun v4 => ?_)
  show Y cx x _ _ _ _ [(0, vR a0), (1, vI v3), (2, vI v4)] _ _ _
  refine x_lp (fun (rc8 : Int → Int → Hp → RT) => ∀ (v5 : Int) (v6 : Int) (G7 : Hp), Y cx x 7 none 129 17 [(0, vR a0), (1, vI v5), (2, vI v6)] [] G7 (rc8 v5 v6 G7)) (fun _ _ _ => Y_none) (fun rc8 hrc8 v5 v6 G7 => ?_) 5000 v3 v4 G2
  refine x_iload_n F dX12_cutAll_17 rfl rfl rfl ?_
  refine x_aload_n F dX12_cutAll_18 rfl rfl rfl ?_
  refine s_getI F flX12_135 ha0 rfl dX12_cutAll_19 rfl ?_
  refine x_icmpge (pt := 279) F dX12_cutAll_22 rfl rfl ?_ ?_
  · refine x_aload_n F dX12_cutAll_25 rfl rfl rfl ?_
    refine x_getR F flX12_14 ha0 rfl dX12_cutAll_26 rfl ?_
    refine x_iload_n F dX12_cutAll_29 rfl rfl rfl ?_
    refine s_iald F (tf12_1 ha0).1 (tf12_1 ha0).2 dX12_cutAll_30 rfl (fun v13 => ?_)
    refine x_istore_n F dX12_cutAll_31 rfl (by decide) rfl rfl (fun v14 => ?_)
    show Y cx x _ _ _ _ [(0, vR a0), (1, vI v5), (2, vI v6), (3, vI v14)] _ _ _
    refine x_iload_n F dX12_cutAll_32 rfl rfl rfl ?_
    refine x_bipush F dX12_cutAll_33 ⟨by decide, by decide⟩ (by decide) rfl ?_
    refine x_jn (fun (K15 : RT) => Y cx x 7 none 129 44 [(0, vR a0), (1, vI v5), (2, vI v6)] [] G7 K15) ?_ (fun K15 hK15 => ?_)
    · refine x_iinc F dX12_cutAll_44 rfl (by decide) rfl rfl (fun v16 => ?_)
      show Y cx x _ _ _ _ [(0, vR a0), (1, vI v5), (2, vI v16)] _ _ _
      refine x_goto (pc' := 17) F dX12_cutAll_47 rfl ?_
      exact hrc8 v5 v16 G7
    · refine x_icmpeq (pt := 44) F dX12_cutAll_35 rfl rfl ?_ ?_
      · refine x_dp (L' := [(0, vR a0), (1, vI v5), (2, vI v6)]) [0, 1, 2] rfl ?_
        exact hK15
      · refine x_iload_n F dX12_cutAll_38 rfl rfl rfl ?_
        refine x_bipush F dX12_cutAll_39 ⟨by decide, by decide⟩ (by decide) rfl ?_
        refine x_icmpne (pt := 50) F dX12_cutAll_41 rfl rfl ?_ ?_
        · refine x_dp (L' := [(0, vR a0), (1, vI v5), (2, vI v6)]) [0, 1, 2] rfl ?_
          exact hK15
        · refine x_iload_n F dX12_cutAll_50 rfl rfl rfl ?_
          refine x_istore F dX12_cutAll_51 (by decide) rfl rfl (fun v17 => ?_)
          show Y cx x _ _ _ _ [(0, vR a0), (1, vI v5), (2, vI v6), (3, vI v14), (4, vI v17)] _ _ _
          refine x_lconst (v := 0) F dX12_cutAll_53 ⟨by decide, by decide⟩ (by decide) rfl ?_
          refine x_lstore F dX12_cutAll_54 (by decide) rfl rfl (fun v18 => ?_)
          show Y cx x _ _ _ _ [(0, vR a0), (1, vI v5), (2, vI v6), (3, vI v14), (4, vI v17), (5, vL v18)] _ _ _
          refine x_aload_n F dX12_cutAll_56 rfl rfl rfl ?_
          refine x_getR F flX12_27 ha0 rfl dX12_cutAll_57 rfl ?_
          refine x_iload_n F dX12_cutAll_60 rfl rfl rfl ?_
          refine x_iload_n F dX12_cutAll_61 rfl rfl rfl ?_
          refine s_iast F (tf12_5 ha0).1 (tf12_5 ha0).2 dX12_cutAll_62 rfl (fun G19 => ?_)
          refine x_iload_n F dX12_cutAll_63 rfl rfl rfl ?_
          refine s_callSP F [vI v14] [] lkX12_131 mX12_isLetter hnE hn0 hd pX12_isLetter (tX12_isLetter cx.l x hi G19 v14) rfl rfl dX12_cutAll_64 rfl rfl (fun v20 => ?_)
          refine x_jn (fun (K24 : Int → Int → Hp → RT) => ∀ (v21 : Int) (v22 : Int) (G23 : Hp), Y cx x 7 none 129 265 [(0, vR a0), (1, vI v5), (2, vI v21), (5, vL v22)] [] G23 (K24 v21 v22 G23)) ?_ (fun K24 hK24 => ?_)
          · intro v21 v22 G23
            refine x_aload_n F dX12_cutAll_265 rfl rfl rfl ?_
            refine x_getR F flX12_30 ha0 rfl dX12_cutAll_266 rfl ?_
            refine x_iload_n F dX12_cutAll_269 rfl rfl rfl ?_
            refine x_lload F dX12_cutAll_270 rfl rfl ?_
            refine s_last F (tf12_6 ha0).1 (tf12_6 ha0).2 dX12_cutAll_272 rfl (fun G25 => ?_)
            refine x_iinc F dX12_cutAll_273 rfl (by decide) rfl rfl (fun v26 => ?_)
            show Y cx x _ _ _ _ [(0, vR a0), (1, vI v26), (2, vI v21), (5, vL v22)] _ _ _
            refine x_goto (pc' := 17) F dX12_cutAll_276 rfl ?_
            refine x_dp (L' := [(0, vR a0), (1, vI v26), (2, vI v21)]) [0, 1, 2] rfl ?_
            exact hrc8 v26 v21 G25
          · refine x_ifeq (pt := 152) F dX12_cutAll_67 rfl rfl ?_ ?_
            · refine x_iload_n F dX12_cutAll_152 rfl rfl rfl ?_
              refine s_callSP F [vI v14] [] lkX12_144 mX12_isDigit hnE hn0 hd pX12_isDigit (tX12_isDigit cx.l x hi G19 v14) rfl rfl dX12_cutAll_153 rfl rfl (fun v27 => ?_)
              refine x_ifeq (pt := 240) F dX12_cutAll_156 rfl rfl ?_ ?_
              · refine x_iload_n F dX12_cutAll_240 rfl rfl rfl ?_
                refine x_i2l F dX12_cutAll_241 rfl ?_
                refine x_dp (L' := [(0, vR a0), (1, vI v5), (2, vI v6), (3, vI v14), (5, vL v18)]) [0, 1, 2, 3, 5] rfl ?_
                refine x_lstore F dX12_cutAll_242 (by decide) rfl rfl (fun v28 => ?_)
                show Y cx x _ _ _ _ [(0, vR a0), (1, vI v5), (2, vI v6), (3, vI v14), (5, vL v28)] _ _ _
                refine x_aload_n F dX12_cutAll_244 rfl rfl rfl ?_
                refine x_getR F flX12_24 ha0 rfl dX12_cutAll_245 rfl ?_
                refine x_iload_n F dX12_cutAll_248 rfl rfl rfl ?_
                refine x_iload_n F dX12_cutAll_249 rfl rfl rfl ?_
                refine s_callSP F [vI v14] [vI v5, vR ((rf a0 4))] lkX12_151 mX12_isSignOf hnE hn0 hd pX12_isSignOf (tX12_isSignOf cx.l x hi G19 v14) rfl rfl dX12_cutAll_250 rfl rfl (fun v29 => ?_)
                refine x_jn (fun (K31 : Int → RT) => ∀ (v30 : Int), Y cx x 7 none 129 261 [(0, vR a0), (1, vI v5), (2, vI v6), (5, vL v28)] [vI v30, vI v5, vR ((rf a0 4))] G19 (K31 v30)) ?_ (fun K31 hK31 => ?_)
                · intro v30
                  refine s_iast F (tf12_4 ha0).1 (tf12_4 ha0).2 dX12_cutAll_261 rfl (fun G32 => ?_)
                  refine x_iinc F dX12_cutAll_262 rfl (by decide) rfl rfl (fun v33 => ?_)
                  show Y cx x _ _ _ _ [(0, vR a0), (1, vI v5), (2, vI v33), (5, vL v28)] _ _ _
                  exact hK24 v33 v28 G32
                · refine x_ifeq (pt := 260) F dX12_cutAll_253 rfl rfl ?_ ?_
                  · refine x_iconst F dX12_cutAll_260 ⟨by decide, by decide⟩ rfl ?_
                    refine x_dp (L' := [(0, vR a0), (1, vI v5), (2, vI v6), (5, vL v28)]) [0, 1, 2, 4] rfl ?_
                    exact hK31 4
                  · refine x_iconst F dX12_cutAll_256 ⟨by decide, by decide⟩ rfl ?_
                    refine x_goto (pc' := 261) F dX12_cutAll_257 rfl ?_
                    refine x_dp (L' := [(0, vR a0), (1, vI v5), (2, vI v6), (5, vL v28)]) [0, 1, 2, 4] rfl ?_
                    exact hK31 3
              · refine x_dp (L' := [(0, vR a0), (1, vI v5), (2, vI v6), (4, vI v17), (5, vL v18)]) [0, 1, 2, 4, 5] rfl ?_
                refine x_lp (fun (rc36 : Int → Int → RT) => ∀ (v34 : Int) (v35 : Int), Y cx x 7 none 129 159 [(0, vR a0), (1, vI v5), (2, vI v34), (4, vI v17), (5, vL v35)] [] G19 (rc36 v34 v35)) (fun _ _ => Y_none) (fun rc36 hrc36 v34 v35 => ?_) 5000 v6 v18
                refine x_iload_n F dX12_cutAll_159 rfl rfl rfl ?_
                refine x_aload_n F dX12_cutAll_160 rfl rfl rfl ?_
                refine s_getI F flX12_135 ha0 rfl dX12_cutAll_161 rfl ?_
                refine x_jn (fun (K37 : RT) => Y cx x 7 none 129 218 [(0, vR a0), (1, vI v5), (2, vI v34), (4, vI v17), (5, vL v35)] [] G19 K37) ?_ (fun K37 hK37 => ?_)
                · refine x_aload_n F dX12_cutAll_218 rfl rfl rfl ?_
                  refine x_getR F flX12_24 ha0 rfl dX12_cutAll_219 rfl ?_
                  refine x_iload_n F dX12_cutAll_222 rfl rfl rfl ?_
                  refine x_iload_n F dX12_cutAll_223 rfl rfl rfl ?_
                  refine x_iload F dX12_cutAll_224 rfl rfl ?_
                  refine x_isub F dX12_cutAll_226 rfl ?_
                  refine x_iconst F dX12_cutAll_227 ⟨by decide, by decide⟩ rfl ?_
                  refine x_jn (fun (K39 : Int → RT) => ∀ (v38 : Int), Y cx x 7 none 129 236 [(0, vR a0), (1, vI v5), (2, vI v34), (5, vL v35)] [vI v38, vI v5, vR ((rf a0 4))] G19 (K39 v38)) ?_ (fun K39 hK39 => ?_)
                  · intro v38
                    refine s_iast F (tf12_4 ha0).1 (tf12_4 ha0).2 dX12_cutAll_236 rfl (fun G40 => ?_)
                    refine x_goto (pc' := 265) F dX12_cutAll_237 rfl ?_
                    exact hK24 v34 v35 G40
                  · refine x_icmple (pt := 235) F dX12_cutAll_228 rfl rfl ?_ ?_
                    · refine x_iconst F dX12_cutAll_231 ⟨by decide, by decide⟩ rfl ?_
                      refine x_goto (pc' := 236) F dX12_cutAll_232 rfl ?_
                      refine x_dp (L' := [(0, vR a0), (1, vI v5), (2, vI v34), (5, vL v35)]) [0, 1, 2, 4] rfl ?_
                      exact hK39 4
                    · refine x_iconst F dX12_cutAll_235 ⟨by decide, by decide⟩ rfl ?_
                      refine x_dp (L' := [(0, vR a0), (1, vI v5), (2, vI v34), (5, vL v35)]) [0, 1, 2, 4] rfl ?_
                      exact hK39 2
                · refine x_icmpge (pt := 218) F dX12_cutAll_164 rfl rfl ?_ ?_
                  · refine x_aload_n F dX12_cutAll_167 rfl rfl rfl ?_
                    refine x_getR F flX12_14 ha0 rfl dX12_cutAll_168 rfl ?_
                    refine x_iload_n F dX12_cutAll_171 rfl rfl rfl ?_
                    refine s_iald F (tf12_1 ha0).1 (tf12_1 ha0).2 dX12_cutAll_172 rfl (fun v41 => ?_)
                    refine s_callSP F [vI v41] [] lkX12_144 mX12_isDigit hnE hn0 hd pX12_isDigit (tX12_isDigit cx.l x hi G19 v41) rfl rfl dX12_cutAll_173 rfl rfl (fun v42 => ?_)
                    refine x_ifeq (pt := 218) F dX12_cutAll_176 rfl rfl ?_ ?_
                    · exact hK37
                    · refine x_iload_n F dX12_cutAll_179 rfl rfl rfl ?_
                      refine x_iload F dX12_cutAll_180 rfl rfl ?_
                      refine x_isub F dX12_cutAll_182 rfl ?_
                      refine x_iconst F dX12_cutAll_183 ⟨by decide, by decide⟩ rfl ?_
                      refine x_jn (fun (K44 : Int → RT) => ∀ (v43 : Int), Y cx x 7 none 129 210 [(0, vR a0), (1, vI v5), (2, vI v34), (4, vI v17)] [vL v43] G19 (K44 v43)) ?_ (fun K44 hK44 => ?_)
                      · intro v43
                        refine x_lstore F dX12_cutAll_210 (by decide) rfl rfl (fun v45 => ?_)
                        show Y cx x _ _ _ _ [(0, vR a0), (1, vI v5), (2, vI v34), (4, vI v17), (5, vL v45)] _ _ _
                        refine x_iinc F dX12_cutAll_212 rfl (by decide) rfl rfl (fun v46 => ?_)
                        show Y cx x _ _ _ _ [(0, vR a0), (1, vI v5), (2, vI v46), (4, vI v17), (5, vL v45)] _ _ _
                        refine x_goto (pc' := 159) F dX12_cutAll_215 rfl ?_
                        exact hrc36 v46 v45
                      · refine x_icmpge (pt := 208) F dX12_cutAll_184 rfl rfl ?_ ?_
                        · refine x_ldc2 (v := 10) F kjX12_147 dX12_cutAll_187 ⟨by decide, by decide⟩ (by decide) rfl ?_
                          refine x_lload F dX12_cutAll_190 rfl rfl ?_
                          refine x_lmul F dX12_cutAll_192 rfl ?_
                          refine x_aload_n F dX12_cutAll_193 rfl rfl rfl ?_
                          refine x_getR F flX12_14 ha0 rfl dX12_cutAll_194 rfl ?_
                          refine x_iload_n F dX12_cutAll_197 rfl rfl rfl ?_
                          refine s_iald F (tf12_1 ha0).1 (tf12_1 ha0).2 dX12_cutAll_198 rfl (fun v47 => ?_)
                          refine x_i2l F dX12_cutAll_199 rfl ?_
                          refine x_ladd F dX12_cutAll_200 rfl ?_
                          refine x_ldc2 (v := 48) F kjX12_149 dX12_cutAll_201 ⟨by decide, by decide⟩ (by decide) rfl ?_
                          refine x_lsub F dX12_cutAll_204 rfl ?_
                          refine x_goto (pc' := 210) F dX12_cutAll_205 rfl ?_
                          refine x_dp (L' := [(0, vR a0), (1, vI v5), (2, vI v34), (4, vI v17)]) [0, 1, 2, 3] rfl ?_
                          exact hK44 (lsub (ladd (lmul 10 v35) v47) 48)
                        · refine x_lload F dX12_cutAll_208 rfl rfl ?_
                          refine x_dp (L' := [(0, vR a0), (1, vI v5), (2, vI v34), (4, vI v17)]) [0, 1, 2, 3] rfl ?_
                          exact hK44 v35
                  · exact hK37
            · refine x_dp (L' := [(0, vR a0), (1, vI v5), (2, vI v6), (4, vI v17), (5, vL v18)]) [0, 1, 2, 4, 5] rfl ?_
              refine x_lp (fun (rc50 : Int → Int → RT) => ∀ (v48 : Int) (v49 : Int), Y cx x 7 none 129 70 [(0, vR a0), (1, vI v5), (2, vI v48), (4, vI v17), (5, vL v49)] [] G19 (rc50 v48 v49)) (fun _ _ => Y_none) (fun rc50 hrc50 v48 v49 => ?_) 5000 v6 v18
              refine x_iload_n F dX12_cutAll_70 rfl rfl rfl ?_
              refine x_aload_n F dX12_cutAll_71 rfl rfl rfl ?_
              refine s_getI F flX12_135 ha0 rfl dX12_cutAll_72 rfl ?_
              refine x_jn (fun (K51 : RT) => Y cx x 7 none 129 129 [(0, vR a0), (1, vI v5), (2, vI v48), (4, vI v17), (5, vL v49)] [] G19 K51) ?_ (fun K51 hK51 => ?_)
              · refine x_aload_n F dX12_cutAll_129 rfl rfl rfl ?_
                refine x_getR F flX12_24 ha0 rfl dX12_cutAll_130 rfl ?_
                refine x_iload_n F dX12_cutAll_133 rfl rfl rfl ?_
                refine x_iload_n F dX12_cutAll_134 rfl rfl rfl ?_
                refine x_iload F dX12_cutAll_135 rfl rfl ?_
                refine x_isub F dX12_cutAll_137 rfl ?_
                refine x_bipush F dX12_cutAll_138 ⟨by decide, by decide⟩ (by decide) rfl ?_
                refine x_jn (fun (K53 : Int → RT) => ∀ (v52 : Int), Y cx x 7 none 129 148 [(0, vR a0), (1, vI v5), (2, vI v48), (5, vL v49)] [vI v52, vI v5, vR ((rf a0 4))] G19 (K53 v52)) ?_ (fun K53 hK53 => ?_)
                · intro v52
                  refine s_iast F (tf12_4 ha0).1 (tf12_4 ha0).2 dX12_cutAll_148 rfl (fun G54 => ?_)
                  refine x_goto (pc' := 265) F dX12_cutAll_149 rfl ?_
                  exact hK24 v48 v49 G54
                · refine x_icmple (pt := 147) F dX12_cutAll_140 rfl rfl ?_ ?_
                  · refine x_iconst F dX12_cutAll_143 ⟨by decide, by decide⟩ rfl ?_
                    refine x_goto (pc' := 148) F dX12_cutAll_144 rfl ?_
                    refine x_dp (L' := [(0, vR a0), (1, vI v5), (2, vI v48), (5, vL v49)]) [0, 1, 2, 4] rfl ?_
                    exact hK53 4
                  · refine x_iconst F dX12_cutAll_147 ⟨by decide, by decide⟩ rfl ?_
                    refine x_dp (L' := [(0, vR a0), (1, vI v5), (2, vI v48), (5, vL v49)]) [0, 1, 2, 4] rfl ?_
                    exact hK53 1
              · refine x_icmpge (pt := 129) F dX12_cutAll_75 rfl rfl ?_ ?_
                · refine x_aload_n F dX12_cutAll_78 rfl rfl rfl ?_
                  refine x_getR F flX12_14 ha0 rfl dX12_cutAll_79 rfl ?_
                  refine x_iload_n F dX12_cutAll_82 rfl rfl rfl ?_
                  refine s_iald F (tf12_1 ha0).1 (tf12_1 ha0).2 dX12_cutAll_83 rfl (fun v55 => ?_)
                  refine s_callSP F [vI v55] [] lkX12_131 mX12_isLetter hnE hn0 hd pX12_isLetter (tX12_isLetter cx.l x hi G19 v55) rfl rfl dX12_cutAll_84 rfl rfl (fun v56 => ?_)
                  refine x_ifeq (pt := 129) F dX12_cutAll_87 rfl rfl ?_ ?_
                  · exact hK51
                  · refine x_iload_n F dX12_cutAll_90 rfl rfl rfl ?_
                    refine x_iload F dX12_cutAll_91 rfl rfl ?_
                    refine x_isub F dX12_cutAll_93 rfl ?_
                    refine x_bipush F dX12_cutAll_94 ⟨by decide, by decide⟩ (by decide) rfl ?_
                    refine x_jn (fun (K58 : Int → RT) => ∀ (v57 : Int), Y cx x 7 none 129 121 [(0, vR a0), (1, vI v5), (2, vI v48), (4, vI v17)] [vL v57] G19 (K58 v57)) ?_ (fun K58 hK58 => ?_)
                    · intro v57
                      refine x_lstore F dX12_cutAll_121 (by decide) rfl rfl (fun v59 => ?_)
                      show Y cx x _ _ _ _ [(0, vR a0), (1, vI v5), (2, vI v48), (4, vI v17), (5, vL v59)] _ _ _
                      refine x_iinc F dX12_cutAll_123 rfl (by decide) rfl rfl (fun v60 => ?_)
                      show Y cx x _ _ _ _ [(0, vR a0), (1, vI v5), (2, vI v60), (4, vI v17), (5, vL v59)] _ _ _
                      refine x_goto (pc' := 70) F dX12_cutAll_126 rfl ?_
                      exact hrc50 v60 v59
                    · refine x_icmpge (pt := 119) F dX12_cutAll_96 rfl rfl ?_ ?_
                      · refine x_ldc2 (v := 37) F kjX12_138 dX12_cutAll_99 ⟨by decide, by decide⟩ (by decide) rfl ?_
                        refine x_lload F dX12_cutAll_102 rfl rfl ?_
                        refine x_lmul F dX12_cutAll_104 rfl ?_
                        refine x_aload_n F dX12_cutAll_105 rfl rfl rfl ?_
                        refine x_getR F flX12_14 ha0 rfl dX12_cutAll_106 rfl ?_
                        refine x_iload_n F dX12_cutAll_109 rfl rfl rfl ?_
                        refine s_iald F (tf12_1 ha0).1 (tf12_1 ha0).2 dX12_cutAll_110 rfl (fun v61 => ?_)
                        refine s_callSP F [vI v61] [vL (lmul 37 v49)] lkX12_140 mX12_rank hnE hn0 hd pX12_rank (tX12_rank cx.l x hi G19 v61) rfl rfl dX12_cutAll_111 rfl rfl (fun v62 => ?_)
                        refine x_i2l F dX12_cutAll_114 rfl ?_
                        refine x_ladd F dX12_cutAll_115 rfl ?_
                        refine x_goto (pc' := 121) F dX12_cutAll_116 rfl ?_
                        refine x_dp (L' := [(0, vR a0), (1, vI v5), (2, vI v48), (4, vI v17)]) [0, 1, 2, 3] rfl ?_
                        exact hK58 (ladd (lmul 37 v49) v62)
                      · refine x_lload F dX12_cutAll_119 rfl rfl ?_
                        refine x_dp (L' := [(0, vR a0), (1, vI v5), (2, vI v48), (4, vI v17)]) [0, 1, 2, 3] rfl ?_
                        exact hK58 v49
                · exact hK51
  · refine x_aload_n F dX12_cutAll_279 rfl rfl rfl ?_
    refine x_getR F flX12_24 ha0 rfl dX12_cutAll_280 rfl ?_
    refine x_iload_n F dX12_cutAll_283 rfl rfl rfl ?_
    refine x_iconst F dX12_cutAll_284 ⟨by decide, by decide⟩ rfl ?_
    refine s_iast F (tf12_4 ha0).1 (tf12_4 ha0).2 dX12_cutAll_285 rfl (fun G9 => ?_)
    refine x_aload_n F dX12_cutAll_286 rfl rfl rfl ?_
    refine x_getR F flX12_27 ha0 rfl dX12_cutAll_287 rfl ?_
    refine x_iload_n F dX12_cutAll_290 rfl rfl rfl ?_
    refine x_aload_n F dX12_cutAll_291 rfl rfl rfl ?_
    refine s_getI F flX12_135 ha0 rfl dX12_cutAll_292 rfl ?_
    refine s_iast F (tf12_5 ha0).1 (tf12_5 ha0).2 dX12_cutAll_295 rfl (fun G10 => ?_)
    refine x_aload_n F dX12_cutAll_296 rfl rfl rfl ?_
    refine x_iconst F dX12_cutAll_297 ⟨by decide, by decide⟩ rfl ?_
    refine s_putI F fpX12_154 ha0 rfl dX12_cutAll_298 rfl (fun G11 => ?_)
    refine x_aload_n F dX12_cutAll_301 rfl rfl rfl ?_
    refine x_iconst F dX12_cutAll_302 ⟨by decide, by decide⟩ rfl ?_
    refine s_putI F fpX12_157 ha0 rfl dX12_cutAll_303 rfl (fun G12 => ?_)
    exact x_vret F hnE hQ dX12_cutAll_306
theorem dX12_takeWord_0 : decode cX12_takeWord 0 = .ok (.aload_n 0, 1) := by decide +kernel
theorem dX12_takeWord_1 : decode cX12_takeWord 1 = .ok (.iload_n 1, 1) := by decide +kernel
theorem dX12_takeWord_2 : decode cX12_takeWord 2 = .ok (.invokevirtual 169, 3) := by decide +kernel
theorem dX12_takeWord_5 : decode cX12_takeWord 5 = .ok (.ifCond .ne 8, 3) := by decide +kernel
theorem dX12_takeWord_8 : decode cX12_takeWord 8 = .ok (.aload_n 0, 1) := by decide +kernel
theorem dX12_takeWord_9 : decode cX12_takeWord 9 = .ok (.iconst 1, 1) := by decide +kernel
theorem dX12_takeWord_10 : decode cX12_takeWord 10 = .ok (.invokevirtual 163, 3) := by decide +kernel
theorem dX12_takeWord_13 : decode cX12_takeWord 13 = .ok (.return_, 1) := by decide +kernel
def fX12_takeWord (a0 : Nat) (a1 : Int) (G : Hp) : RT := bn (fX12_hasWord a0 a1 G) fun v1 G2 => if v1 = 0 then (bn (fX12_wrong a0 1 G2) fun _ G3 => rt 0 G3) else rt 0 G2
set_option maxRecDepth 20000 in
set_option maxHeartbeats 4000000 in
theorem tX12_takeWord (l : Launch) (x : WX) (hi : Inj x.2.2) (G : Hp) (a0 : Nat) (a1 : Int) (ha0 : kd a0 = 12) : Ct l x yX12_takeWord cX12_takeWord 2 none 2 129 129 [vR a0, vI a1] G (fX12_takeWord a0 a1 G) := by
  refine ct_of (plainFor_of_name (by decide)) hi (Nat.le_refl _) (Nat.le_refl _) (Nat.le_of_ble_eq_true rfl) (fun cx F hd hn0 hnE hl hQ => ?_)
  subst hl
  have F : Fx cx x RX12 cX12_takeWord 2 none := F
  show Y cx x 2 none 129 0 [(0, vR a0), (1, vI a1)] [] G _
  unfold fX12_takeWord
  refine x_aload_n F dX12_takeWord_0 rfl rfl rfl ?_
  refine x_iload_n F dX12_takeWord_1 rfl rfl rfl ?_
  refine s_callV F [vI a1] [] lkX12_169 mX12_hasWord rfl ha0 rfl hnE hn0 hd (tX12_hasWord cx.l x hi G a0 a1 ha0) rfl rfl dX12_takeWord_2 rfl rfl (fun v1 G2 => ?_)
  refine x_ifne (pt := 13) F dX12_takeWord_5 rfl rfl ?_ ?_
  · refine x_aload_n F dX12_takeWord_8 rfl rfl rfl ?_
    refine x_iconst F dX12_takeWord_9 ⟨by decide, by decide⟩ rfl ?_
    refine s_callVv F [vI 1] [] lkX12_163 mX12_wrong rfl ha0 rfl hnE hn0 hd (tX12_wrong cx.l x hi G2 a0 1 ha0) rfl rfl dX12_takeWord_10 rfl rfl (fun _ G3 => ?_)
    exact x_vret F hnE hQ dX12_takeWord_13
  · exact x_vret F hnE hQ dX12_takeWord_13
theorem dX12_takeOne_0 : decode cX12_takeOne 0 = .ok (.aload_n 0, 1) := by decide +kernel
theorem dX12_takeOne_1 : decode cX12_takeOne 1 = .ok (.getfield 157, 3) := by decide +kernel
theorem dX12_takeOne_4 : decode cX12_takeOne 4 = .ok (.ifCond .le 7, 3) := by decide +kernel
theorem dX12_takeOne_7 : decode cX12_takeOne 7 = .ok (.iconst (-1), 1) := by decide +kernel
theorem dX12_takeOne_8 : decode cX12_takeOne 8 = .ok (.goto 9, 3) := by decide +kernel
theorem dX12_takeOne_11 : decode cX12_takeOne 11 = .ok (.aload_n 0, 1) := by decide +kernel
theorem dX12_takeOne_12 : decode cX12_takeOne 12 = .ok (.iload_n 1, 1) := by decide +kernel
theorem dX12_takeOne_13 : decode cX12_takeOne 13 = .ok (.iload_n 2, 1) := by decide +kernel
theorem dX12_takeOne_14 : decode cX12_takeOne 14 = .ok (.invokevirtual 179, 3) := by decide +kernel
theorem dX12_takeOne_17 : decode cX12_takeOne 17 = .ok (.istore_n 3, 1) := by decide +kernel
theorem dX12_takeOne_18 : decode cX12_takeOne 18 = .ok (.aload_n 0, 1) := by decide +kernel
theorem dX12_takeOne_19 : decode cX12_takeOne 19 = .ok (.getfield 157, 3) := by decide +kernel
theorem dX12_takeOne_22 : decode cX12_takeOne 22 = .ok (.ifCond .ne 12, 3) := by decide +kernel
theorem dX12_takeOne_25 : decode cX12_takeOne 25 = .ok (.iload_n 3, 1) := by decide +kernel
theorem dX12_takeOne_26 : decode cX12_takeOne 26 = .ok (.ifCond .ge 8, 3) := by decide +kernel
theorem dX12_takeOne_29 : decode cX12_takeOne 29 = .ok (.aload_n 0, 1) := by decide +kernel
theorem dX12_takeOne_30 : decode cX12_takeOne 30 = .ok (.iconst 1, 1) := by decide +kernel
theorem dX12_takeOne_31 : decode cX12_takeOne 31 = .ok (.invokevirtual 163, 3) := by decide +kernel
theorem dX12_takeOne_34 : decode cX12_takeOne 34 = .ok (.aload_n 0, 1) := by decide +kernel
theorem dX12_takeOne_35 : decode cX12_takeOne 35 = .ok (.dup, 1) := by decide +kernel
theorem dX12_takeOne_36 : decode cX12_takeOne 36 = .ok (.getfield 154, 3) := by decide +kernel
theorem dX12_takeOne_39 : decode cX12_takeOne 39 = .ok (.aload_n 0, 1) := by decide +kernel
theorem dX12_takeOne_40 : decode cX12_takeOne 40 = .ok (.getfield 157, 3) := by decide +kernel
theorem dX12_takeOne_43 : decode cX12_takeOne 43 = .ok (.ifCond .le 7, 3) := by decide +kernel
theorem dX12_takeOne_46 : decode cX12_takeOne 46 = .ok (.iconst 0, 1) := by decide +kernel
theorem dX12_takeOne_47 : decode cX12_takeOne 47 = .ok (.goto 4, 3) := by decide +kernel
theorem dX12_takeOne_50 : decode cX12_takeOne 50 = .ok (.iconst 1, 1) := by decide +kernel
theorem dX12_takeOne_51 : decode cX12_takeOne 51 = .ok (.iadd, 1) := by decide +kernel
theorem dX12_takeOne_52 : decode cX12_takeOne 52 = .ok (.putfield 154, 3) := by decide +kernel
theorem dX12_takeOne_55 : decode cX12_takeOne 55 = .ok (.aload_n 0, 1) := by decide +kernel
theorem dX12_takeOne_56 : decode cX12_takeOne 56 = .ok (.getfield 157, 3) := by decide +kernel
theorem dX12_takeOne_59 : decode cX12_takeOne 59 = .ok (.ifCond .le 7, 3) := by decide +kernel
theorem dX12_takeOne_62 : decode cX12_takeOne 62 = .ok (.iconst 0, 1) := by decide +kernel
theorem dX12_takeOne_63 : decode cX12_takeOne 63 = .ok (.goto 4, 3) := by decide +kernel
theorem dX12_takeOne_66 : decode cX12_takeOne 66 = .ok (.iload_n 3, 1) := by decide +kernel
theorem dX12_takeOne_67 : decode cX12_takeOne 67 = .ok (.ireturn, 1) := by decide +kernel
def fX12_takeOne (a0 : Nat) (a1 : Int) (a2 : Int) (G : Hp) : RT := jn (fun (v1 : Int) => bd v1 fun v3 => jn (fun (G4 : Hp) => jn (fun (v6 : Int) => bh (up G4 a0 7 (iadd (G4 a0 7) v6)) fun G8 => if 0 < (G8 a0 8) then rt 0 G8 else rt v3 G8) fun (K7 : Int → RT) => if 0 < (G4 a0 8) then K7 0 else K7 1) fun (K5 : Hp → RT) => if (G a0 8) = 0 then (if v3 < 0 then (bn (fX12_wrong a0 1 G) fun _ G9 => K5 G9) else K5 G) else K5 G) fun (K2 : Int → RT) => if 0 < (G a0 8) then (K2 ((-1))) else (bp (fX12_wordHere a0 a1 a2 G) fun v11 => K2 v11)
set_option maxRecDepth 20000 in
set_option maxHeartbeats 4000000 in
theorem tX12_takeOne (l : Launch) (x : WX) (hi : Inj x.2.2) (G : Hp) (a0 : Nat) (a1 : Int) (a2 : Int) (ha0 : kd a0 = 12) : Ct l x yX12_takeOne cX12_takeOne 4 (some .int) 2 129 129 [vR a0, vI a1, vI a2] G (fX12_takeOne a0 a1 a2 G) := by
  refine ct_of (plainFor_of_name (by decide)) hi (Nat.le_refl _) (Nat.le_refl _) (Nat.le_of_ble_eq_true rfl) (fun cx F hd hn0 hnE hl hQ => ?_)
  subst hl
  have F : Fx cx x RX12 cX12_takeOne 4 (some .int) := F
  show Y cx x 4 (some .int) 129 0 [(0, vR a0), (1, vI a1), (2, vI a2)] [] G _
  unfold fX12_takeOne
  refine x_aload_n F dX12_takeOne_0 rfl rfl rfl ?_
  refine s_getI F flX12_157 ha0 rfl dX12_takeOne_1 rfl ?_
  refine x_jn (fun (K2 : Int → RT) => ∀ (v1 : Int), Y cx x 4 (some .int) 129 17 [(0, vR a0)] [vI v1] G (K2 v1)) ?_ (fun K2 hK2 => ?_)
  · intro v1
    refine x_istore_n F dX12_takeOne_17 rfl (by decide) rfl rfl (fun v3 => ?_)
    show Y cx x _ _ _ _ [(0, vR a0), (3, vI v3)] _ _ _
    refine x_aload_n F dX12_takeOne_18 rfl rfl rfl ?_
    refine s_getI F flX12_157 ha0 rfl dX12_takeOne_19 rfl ?_
    refine x_jn (fun (K5 : Hp → RT) => ∀ (G4 : Hp), Y cx x 4 (some .int) 129 34 [(0, vR a0), (3, vI v3)] [] G4 (K5 G4)) ?_ (fun K5 hK5 => ?_)
    · intro G4
      refine x_aload_n F dX12_takeOne_34 rfl rfl rfl ?_
      refine x_dup F dX12_takeOne_35 rfl rfl ?_
      refine s_getI F flX12_154 ha0 rfl dX12_takeOne_36 rfl ?_
      refine x_aload_n F dX12_takeOne_39 rfl rfl rfl ?_
      refine s_getI F flX12_157 ha0 rfl dX12_takeOne_40 rfl ?_
      refine x_jn (fun (K7 : Int → RT) => ∀ (v6 : Int), Y cx x 4 (some .int) 129 51 [(0, vR a0), (3, vI v3)] [vI v6, vI (G4 a0 7), vR a0] G4 (K7 v6)) ?_ (fun K7 hK7 => ?_)
      · intro v6
        refine x_iadd F dX12_takeOne_51 rfl ?_
        refine s_putI F fpX12_154 ha0 rfl dX12_takeOne_52 rfl (fun G8 => ?_)
        refine x_aload_n F dX12_takeOne_55 rfl rfl rfl ?_
        refine s_getI F flX12_157 ha0 rfl dX12_takeOne_56 rfl ?_
        refine x_ifle (pt := 66) F dX12_takeOne_59 rfl rfl ?_ ?_
        · refine x_iconst F dX12_takeOne_62 ⟨by decide, by decide⟩ rfl ?_
          refine x_goto (pc' := 67) F dX12_takeOne_63 rfl ?_
          exact x_iret F hnE hQ dX12_takeOne_67
        · refine x_iload_n F dX12_takeOne_66 rfl rfl rfl ?_
          exact x_iret F hnE hQ dX12_takeOne_67
      · refine x_ifle (pt := 50) F dX12_takeOne_43 rfl rfl ?_ ?_
        · refine x_iconst F dX12_takeOne_46 ⟨by decide, by decide⟩ rfl ?_
          refine x_goto (pc' := 51) F dX12_takeOne_47 rfl ?_
          exact hK7 0
        · refine x_iconst F dX12_takeOne_50 ⟨by decide, by decide⟩ rfl ?_
          exact hK7 1
    · refine x_ifne (pt := 34) F dX12_takeOne_22 rfl rfl ?_ ?_
      · refine x_iload_n F dX12_takeOne_25 rfl rfl rfl ?_
        refine x_ifge (pt := 34) F dX12_takeOne_26 rfl rfl ?_ ?_
        · refine x_aload_n F dX12_takeOne_29 rfl rfl rfl ?_
          refine x_iconst F dX12_takeOne_30 ⟨by decide, by decide⟩ rfl ?_
          refine s_callVv F [vI 1] [] lkX12_163 mX12_wrong rfl ha0 rfl hnE hn0 hd (tX12_wrong cx.l x hi G a0 1 ha0) rfl rfl dX12_takeOne_31 rfl rfl (fun _ G9 => ?_)
          exact hK5 G9
        · exact hK5 G
      · exact hK5 G
  · refine x_ifle (pt := 11) F dX12_takeOne_4 rfl rfl ?_ ?_
    · refine x_iconst F dX12_takeOne_7 ⟨by decide, by decide⟩ rfl ?_
      refine x_goto (pc' := 17) F dX12_takeOne_8 rfl ?_
      refine x_dp (L' := [(0, vR a0)]) [0] rfl ?_
      exact hK2 ((-1))
    · refine x_aload_n F dX12_takeOne_11 rfl rfl rfl ?_
      refine x_iload_n F dX12_takeOne_12 rfl rfl rfl ?_
      refine x_iload_n F dX12_takeOne_13 rfl rfl rfl ?_
      refine s_callVP F [vI a1, vI a2] [] lkX12_179 mX12_wordHere rfl ha0 rfl hnE hn0 hd pX12_wordHere (tX12_wordHere cx.l x hi G a0 a1 a2 ha0) rfl rfl dX12_takeOne_14 rfl rfl (fun v11 => ?_)
      refine x_dp (L' := [(0, vR a0)]) [0] rfl ?_
      exact hK2 v11
theorem dX12_isName_0 : decode cX12_isName 0 = .ok (.aload_n 0, 1) := by decide +kernel
theorem dX12_isName_1 : decode cX12_isName 1 = .ok (.getfield 157, 3) := by decide +kernel
theorem dX12_isName_4 : decode cX12_isName 4 = .ok (.ifCond .ne 30, 3) := by decide +kernel
theorem dX12_isName_7 : decode cX12_isName 7 = .ok (.aload_n 0, 1) := by decide +kernel
theorem dX12_isName_8 : decode cX12_isName 8 = .ok (.getfield 24, 3) := by decide +kernel
theorem dX12_isName_11 : decode cX12_isName 11 = .ok (.aload_n 0, 1) := by decide +kernel
theorem dX12_isName_12 : decode cX12_isName 12 = .ok (.getfield 154, 3) := by decide +kernel
theorem dX12_isName_15 : decode cX12_isName 15 = .ok (.iaload, 1) := by decide +kernel
theorem dX12_isName_16 : decode cX12_isName 16 = .ok (.iconst 1, 1) := by decide +kernel
theorem dX12_isName_17 : decode cX12_isName 17 = .ok (.if_icmp .ne 17, 3) := by decide +kernel
theorem dX12_isName_20 : decode cX12_isName 20 = .ok (.aload_n 0, 1) := by decide +kernel
theorem dX12_isName_21 : decode cX12_isName 21 = .ok (.iconst 0, 1) := by decide +kernel
theorem dX12_isName_22 : decode cX12_isName 22 = .ok (.bipush 22, 2) := by decide +kernel
theorem dX12_isName_24 : decode cX12_isName 24 = .ok (.invokevirtual 179, 3) := by decide +kernel
theorem dX12_isName_27 : decode cX12_isName 27 = .ok (.ifCond .ge 7, 3) := by decide +kernel
theorem dX12_isName_30 : decode cX12_isName 30 = .ok (.iconst 1, 1) := by decide +kernel
theorem dX12_isName_31 : decode cX12_isName 31 = .ok (.goto 4, 3) := by decide +kernel
theorem dX12_isName_34 : decode cX12_isName 34 = .ok (.iconst 0, 1) := by decide +kernel
theorem dX12_isName_35 : decode cX12_isName 35 = .ok (.ireturn, 1) := by decide +kernel
def fX12_isName (a0 : Nat) (G : Hp) : RT := if (G a0 8) = 0 then (br (rd G ((rf a0 4)) 1002 (G a0 7)) fun v1 => if v1 = 1 then (bp (fX12_wordHere a0 0 22 G) fun v2 => if v2 < 0 then rz 1 G else rz 0 G) else rz 0 G) else rz 0 G
theorem pX12_isName {G : Hp} {a0 : Nat} : PU G (fX12_isName a0 G) := by
  unfold fX12_isName
  refine PU_ite ?_ ?_
  · refine PU_br (fun v1 => ?_)
    refine PU_ite ?_ ?_
    · refine PU_bp (fun v2 => ?_)
      refine PU_ite ?_ ?_
      · exact PU_rz
      · exact PU_rz
    · exact PU_rz
  · exact PU_rz
set_option maxRecDepth 20000 in
set_option maxHeartbeats 4000000 in
theorem tX12_isName (l : Launch) (x : WX) (hi : Inj x.2.2) (G : Hp) (a0 : Nat) (ha0 : kd a0 = 12) : Ct l x yX12_isName cX12_isName 1 (some .boolean) 2 129 129 [vR a0] G (fX12_isName a0 G) := by
  refine ct_of (plainFor_of_name (by decide)) hi (Nat.le_refl _) (Nat.le_refl _) (Nat.le_of_ble_eq_true rfl) (fun cx F hd hn0 hnE hl hQ => ?_)
  subst hl
  have F : Fx cx x RX12 cX12_isName 1 (some .boolean) := F
  show Y cx x 1 (some .boolean) 129 0 [(0, vR a0)] [] G _
  unfold fX12_isName
  refine x_aload_n F dX12_isName_0 rfl rfl rfl ?_
  refine s_getI F flX12_157 ha0 rfl dX12_isName_1 rfl ?_
  refine x_ifne (pt := 34) F dX12_isName_4 rfl rfl ?_ ?_
  · refine x_aload_n F dX12_isName_7 rfl rfl rfl ?_
    refine x_getR F flX12_24 ha0 rfl dX12_isName_8 rfl ?_
    refine x_aload_n F dX12_isName_11 rfl rfl rfl ?_
    refine s_getI F flX12_154 ha0 rfl dX12_isName_12 rfl ?_
    refine s_iald F (tf12_4 ha0).1 (tf12_4 ha0).2 dX12_isName_15 rfl (fun v1 => ?_)
    refine x_iconst F dX12_isName_16 ⟨by decide, by decide⟩ rfl ?_
    refine x_icmpne (pt := 34) F dX12_isName_17 rfl rfl ?_ ?_
    · refine x_aload_n F dX12_isName_20 rfl rfl rfl ?_
      refine x_iconst F dX12_isName_21 ⟨by decide, by decide⟩ rfl ?_
      refine x_bipush F dX12_isName_22 ⟨by decide, by decide⟩ (by decide) rfl ?_
      refine s_callVP F [vI 0, vI 22] [] lkX12_179 mX12_wordHere rfl ha0 rfl hnE hn0 hd pX12_wordHere (tX12_wordHere cx.l x hi G a0 0 22 ha0) rfl rfl dX12_isName_24 rfl rfl (fun v2 => ?_)
      refine x_ifge (pt := 34) F dX12_isName_27 rfl rfl ?_ ?_
      · refine x_iconst F dX12_isName_30 ⟨by decide, by decide⟩ rfl ?_
        refine x_goto (pc' := 35) F dX12_isName_31 rfl ?_
        exact x_zret F hnE hQ dX12_isName_35
      · refine x_iconst F dX12_isName_34 ⟨by decide, by decide⟩ rfl ?_
        exact x_zret F hnE hQ dX12_isName_35
    · refine x_iconst F dX12_isName_34 ⟨by decide, by decide⟩ rfl ?_
      exact x_zret F hnE hQ dX12_isName_35
  · refine x_iconst F dX12_isName_34 ⟨by decide, by decide⟩ rfl ?_
    exact x_zret F hnE hQ dX12_isName_35
theorem dX12_liesAll_0 : decode cX12_liesAll 0 = .ok (.iconst 0, 1) := by decide +kernel
theorem dX12_liesAll_1 : decode cX12_liesAll 1 = .ok (.istore_n 1, 1) := by decide +kernel
theorem dX12_liesAll_2 : decode cX12_liesAll 2 = .ok (.iload_n 1, 1) := by decide +kernel
theorem dX12_liesAll_3 : decode cX12_liesAll 3 = .ok (.aload_n 0, 1) := by decide +kernel
theorem dX12_liesAll_4 : decode cX12_liesAll 4 = .ok (.invokevirtual 229, 3) := by decide +kernel
theorem dX12_liesAll_7 : decode cX12_liesAll 7 = .ok (.if_icmp .ge 118, 3) := by decide +kernel
theorem dX12_liesAll_10 : decode cX12_liesAll 10 = .ok (.aload_n 0, 1) := by decide +kernel
theorem dX12_liesAll_11 : decode cX12_liesAll 11 = .ok (.getfield 99, 3) := by decide +kernel
theorem dX12_liesAll_14 : decode cX12_liesAll 14 = .ok (.iconst 0, 1) := by decide +kernel
theorem dX12_liesAll_15 : decode cX12_liesAll 15 = .ok (.aload_n 0, 1) := by decide +kernel
theorem dX12_liesAll_16 : decode cX12_liesAll 16 = .ok (.getfield 87, 3) := by decide +kernel
theorem dX12_liesAll_19 : decode cX12_liesAll 19 = .ok (.bipush 22, 2) := by decide +kernel
theorem dX12_liesAll_21 : decode cX12_liesAll 21 = .ok (.iload_n 1, 1) := by decide +kernel
theorem dX12_liesAll_22 : decode cX12_liesAll 22 = .ok (.iadd, 1) := by decide +kernel
theorem dX12_liesAll_23 : decode cX12_liesAll 23 = .ok (.iaload, 1) := by decide +kernel
theorem dX12_liesAll_24 : decode cX12_liesAll 24 = .ok (.iastore, 1) := by decide +kernel
theorem dX12_liesAll_25 : decode cX12_liesAll 25 = .ok (.aload_n 0, 1) := by decide +kernel
theorem dX12_liesAll_26 : decode cX12_liesAll 26 = .ok (.getfield 99, 3) := by decide +kernel
theorem dX12_liesAll_29 : decode cX12_liesAll 29 = .ok (.iconst 1, 1) := by decide +kernel
theorem dX12_liesAll_30 : decode cX12_liesAll 30 = .ok (.iload_n 1, 1) := by decide +kernel
theorem dX12_liesAll_31 : decode cX12_liesAll 31 = .ok (.iastore, 1) := by decide +kernel
theorem dX12_liesAll_32 : decode cX12_liesAll 32 = .ok (.aload_n 0, 1) := by decide +kernel
theorem dX12_liesAll_33 : decode cX12_liesAll 33 = .ok (.getfield 99, 3) := by decide +kernel
theorem dX12_liesAll_36 : decode cX12_liesAll 36 = .ok (.iconst 2, 1) := by decide +kernel
theorem dX12_liesAll_37 : decode cX12_liesAll 37 = .ok (.aload_n 0, 1) := by decide +kernel
theorem dX12_liesAll_38 : decode cX12_liesAll 38 = .ok (.invokevirtual 257, 3) := by decide +kernel
theorem dX12_liesAll_41 : decode cX12_liesAll 41 = .ok (.iastore, 1) := by decide +kernel
theorem dX12_liesAll_42 : decode cX12_liesAll 42 = .ok (.aload_n 0, 1) := by decide +kernel
theorem dX12_liesAll_43 : decode cX12_liesAll 43 = .ok (.getfield 99, 3) := by decide +kernel
theorem dX12_liesAll_46 : decode cX12_liesAll 46 = .ok (.iconst 3, 1) := by decide +kernel
theorem dX12_liesAll_47 : decode cX12_liesAll 47 = .ok (.aload_n 0, 1) := by decide +kernel
theorem dX12_liesAll_48 : decode cX12_liesAll 48 = .ok (.invokevirtual 236, 3) := by decide +kernel
theorem dX12_liesAll_51 : decode cX12_liesAll 51 = .ok (.iastore, 1) := by decide +kernel
theorem dX12_liesAll_52 : decode cX12_liesAll 52 = .ok (.aload_n 0, 1) := by decide +kernel
theorem dX12_liesAll_53 : decode cX12_liesAll 53 = .ok (.getfield 87, 3) := by decide +kernel
theorem dX12_liesAll_56 : decode cX12_liesAll 56 = .ok (.iconst 4, 1) := by decide +kernel
theorem dX12_liesAll_57 : decode cX12_liesAll 57 = .ok (.iaload, 1) := by decide +kernel
theorem dX12_liesAll_58 : decode cX12_liesAll 58 = .ok (.ifCond .ge 12, 3) := by decide +kernel
theorem dX12_liesAll_61 : decode cX12_liesAll 61 = .ok (.aload_n 0, 1) := by decide +kernel
theorem dX12_liesAll_62 : decode cX12_liesAll 62 = .ok (.getfield 99, 3) := by decide +kernel
theorem dX12_liesAll_65 : decode cX12_liesAll 65 = .ok (.iconst 0, 1) := by decide +kernel
theorem dX12_liesAll_66 : decode cX12_liesAll 66 = .ok (.iaload, 1) := by decide +kernel
theorem dX12_liesAll_67 : decode cX12_liesAll 67 = .ok (.goto 13, 3) := by decide +kernel
theorem dX12_liesAll_70 : decode cX12_liesAll 70 = .ok (.aload_n 0, 1) := by decide +kernel
theorem dX12_liesAll_71 : decode cX12_liesAll 71 = .ok (.aload_n 0, 1) := by decide +kernel
theorem dX12_liesAll_72 : decode cX12_liesAll 72 = .ok (.getfield 87, 3) := by decide +kernel
theorem dX12_liesAll_75 : decode cX12_liesAll 75 = .ok (.iconst 4, 1) := by decide +kernel
theorem dX12_liesAll_76 : decode cX12_liesAll 76 = .ok (.iaload, 1) := by decide +kernel
theorem dX12_liesAll_77 : decode cX12_liesAll 77 = .ok (.invokevirtual 260, 3) := by decide +kernel
theorem dX12_liesAll_80 : decode cX12_liesAll 80 = .ok (.istore_n 2, 1) := by decide +kernel
theorem dX12_liesAll_81 : decode cX12_liesAll 81 = .ok (.aload_n 0, 1) := by decide +kernel
theorem dX12_liesAll_82 : decode cX12_liesAll 82 = .ok (.invokevirtual 257, 3) := by decide +kernel
theorem dX12_liesAll_85 : decode cX12_liesAll 85 = .ok (.ifCond .ne 7, 3) := by decide +kernel
theorem dX12_liesAll_88 : decode cX12_liesAll 88 = .ok (.iconst 0, 1) := by decide +kernel
theorem dX12_liesAll_89 : decode cX12_liesAll 89 = .ok (.goto 9, 3) := by decide +kernel
theorem dX12_liesAll_92 : decode cX12_liesAll 92 = .ok (.iload_n 2, 1) := by decide +kernel
theorem dX12_liesAll_93 : decode cX12_liesAll 93 = .ok (.aload_n 0, 1) := by decide +kernel
theorem dX12_liesAll_94 : decode cX12_liesAll 94 = .ok (.invokevirtual 257, 3) := by decide +kernel
theorem dX12_liesAll_97 : decode cX12_liesAll 97 = .ok (.irem, 1) := by decide +kernel
theorem dX12_liesAll_98 : decode cX12_liesAll 98 = .ok (.istore_n 3, 1) := by decide +kernel
theorem dX12_liesAll_99 : decode cX12_liesAll 99 = .ok (.aload_n 0, 1) := by decide +kernel
theorem dX12_liesAll_100 : decode cX12_liesAll 100 = .ok (.getfield 112, 3) := by decide +kernel
theorem dX12_liesAll_103 : decode cX12_liesAll 103 = .ok (.iload_n 1, 1) := by decide +kernel
theorem dX12_liesAll_104 : decode cX12_liesAll 104 = .ok (.iload_n 3, 1) := by decide +kernel
theorem dX12_liesAll_105 : decode cX12_liesAll 105 = .ok (.ifCond .ge 12, 3) := by decide +kernel
theorem dX12_liesAll_108 : decode cX12_liesAll 108 = .ok (.iload_n 3, 1) := by decide +kernel
theorem dX12_liesAll_109 : decode cX12_liesAll 109 = .ok (.aload_n 0, 1) := by decide +kernel
theorem dX12_liesAll_110 : decode cX12_liesAll 110 = .ok (.invokevirtual 257, 3) := by decide +kernel
theorem dX12_liesAll_113 : decode cX12_liesAll 113 = .ok (.iadd, 1) := by decide +kernel
theorem dX12_liesAll_114 : decode cX12_liesAll 114 = .ok (.goto 4, 3) := by decide +kernel
theorem dX12_liesAll_117 : decode cX12_liesAll 117 = .ok (.iload_n 3, 1) := by decide +kernel
theorem dX12_liesAll_118 : decode cX12_liesAll 118 = .ok (.iastore, 1) := by decide +kernel
theorem dX12_liesAll_119 : decode cX12_liesAll 119 = .ok (.iinc 1 1, 3) := by decide +kernel
theorem dX12_liesAll_122 : decode cX12_liesAll 122 = .ok (.goto (-120), 3) := by decide +kernel
theorem dX12_liesAll_125 : decode cX12_liesAll 125 = .ok (.return_, 1) := by decide +kernel
def fX12_liesAll (a0 : Nat) (G : Hp) : RT := bd 0 fun v1 => (lp (fun (_ : Int) (_ : Hp) => (none : RT)) 5000 (fun (rc4 : Int → Hp → RT) (v2 : Int) (G3 : Hp) => bp (fX12_keys a0 G3) fun v5 => if v2 < v5 then (br (rd G3 ((rf a0 10)) 64 (iadd 22 v2)) fun v6 => bs (wr G3 ((rf a0 15)) 4 0 v6) fun G7 => bs (wr G7 ((rf a0 15)) 4 1 v2) fun G8 => bp (fX12_circle a0 G8) fun v9 => bs (wr G8 ((rf a0 15)) 4 2 v9) fun G10 => bp (fX12_nodes a0 G10) fun v11 => bs (wr G10 ((rf a0 15)) 4 3 v11) fun G12 => br (rd G12 ((rf a0 10)) 64 4) fun v13 => jn (fun (v14 : Int) (G15 : Hp) => bd v14 fun v17 => bp (fX12_circle a0 G15) fun v18 => jn (fun (v19 : Int) => bd v19 fun v21 => jn (fun (v22 : Int) => bs (wr G15 ((rf a0 20)) 10 v2 v22) fun G24 => bd (iadd v2 1) fun v25 => rc4 v25 G24) fun (K23 : Int → RT) => if v21 < 0 then (bp (fX12_circle a0 G15) fun v26 => K23 (iadd v21 v26)) else K23 v21) fun (K20 : Int → RT) => if v18 = 0 then K20 0 else (bp (fX12_circle a0 G15) fun v27 => nz v27 (K20 (irem v17 v27)))) fun (K16 : Int → Hp → RT) => if v13 < 0 then (br (rd G12 ((rf a0 15)) 4 0) fun v31 => K16 v31 G12) else (br (rd G12 ((rf a0 10)) 64 4) fun v28 => bn (fX12_worthAt a0 v28 G12) fun v29 G30 => K16 v29 G30)) else rt 0 G3)) v1 G
set_option maxRecDepth 20000 in
set_option maxHeartbeats 4000000 in
theorem tX12_liesAll (l : Launch) (x : WX) (hi : Inj x.2.2) (G : Hp) (a0 : Nat) (ha0 : kd a0 = 12) : Ct l x yX12_liesAll cX12_liesAll 4 none 2 129 129 [vR a0] G (fX12_liesAll a0 G) := by
  refine ct_of (plainFor_of_name (by decide)) hi (Nat.le_refl _) (Nat.le_refl _) (Nat.le_of_ble_eq_true rfl) (fun cx F hd hn0 hnE hl hQ => ?_)
  subst hl
  have F : Fx cx x RX12 cX12_liesAll 4 none := F
  show Y cx x 4 none 129 0 [(0, vR a0)] [] G _
  unfold fX12_liesAll
  refine x_iconst F dX12_liesAll_0 ⟨by decide, by decide⟩ rfl ?_
  refine x_istore_n F dX12_liesAll_1 rfl (by decide) rfl rfl (fun v1 => ?_)
  show Y cx x _ _ _ _ [(0, vR a0), (1, vI v1)] _ _ _
  refine x_lp (fun (rc4 : Int → Hp → RT) => ∀ (v2 : Int) (G3 : Hp), Y cx x 4 none 129 2 [(0, vR a0), (1, vI v2)] [] G3 (rc4 v2 G3)) (fun _ _ => Y_none) (fun rc4 hrc4 v2 G3 => ?_) 5000 v1 G
  refine x_iload_n F dX12_liesAll_2 rfl rfl rfl ?_
  refine x_aload_n F dX12_liesAll_3 rfl rfl rfl ?_
  refine s_callVP F [] [vI v2] lkX12_229 mX12_keys rfl ha0 rfl hnE hn0 hd pX12_keys (tX12_keys cx.l x hi G3 a0 ha0) rfl rfl dX12_liesAll_4 rfl rfl (fun v5 => ?_)
  refine x_icmpge (pt := 125) F dX12_liesAll_7 rfl rfl ?_ ?_
  · refine x_aload_n F dX12_liesAll_10 rfl rfl rfl ?_
    refine x_getR F flX12_99 ha0 rfl dX12_liesAll_11 rfl ?_
    refine x_iconst F dX12_liesAll_14 ⟨by decide, by decide⟩ rfl ?_
    refine x_aload_n F dX12_liesAll_15 rfl rfl rfl ?_
    refine x_getR F flX12_87 ha0 rfl dX12_liesAll_16 rfl ?_
    refine x_bipush F dX12_liesAll_19 ⟨by decide, by decide⟩ (by decide) rfl ?_
    refine x_iload_n F dX12_liesAll_21 rfl rfl rfl ?_
    refine x_iadd F dX12_liesAll_22 rfl ?_
    refine s_iald F (tf12_10 ha0).1 (tf12_10 ha0).2 dX12_liesAll_23 rfl (fun v6 => ?_)
    refine s_iast F (tf12_15 ha0).1 (tf12_15 ha0).2 dX12_liesAll_24 rfl (fun G7 => ?_)
    refine x_aload_n F dX12_liesAll_25 rfl rfl rfl ?_
    refine x_getR F flX12_99 ha0 rfl dX12_liesAll_26 rfl ?_
    refine x_iconst F dX12_liesAll_29 ⟨by decide, by decide⟩ rfl ?_
    refine x_iload_n F dX12_liesAll_30 rfl rfl rfl ?_
    refine s_iast F (tf12_15 ha0).1 (tf12_15 ha0).2 dX12_liesAll_31 rfl (fun G8 => ?_)
    refine x_aload_n F dX12_liesAll_32 rfl rfl rfl ?_
    refine x_getR F flX12_99 ha0 rfl dX12_liesAll_33 rfl ?_
    refine x_iconst F dX12_liesAll_36 ⟨by decide, by decide⟩ rfl ?_
    refine x_aload_n F dX12_liesAll_37 rfl rfl rfl ?_
    refine s_callVP F [] [vI 2, vR ((rf a0 15))] lkX12_257 mX12_circle rfl ha0 rfl hnE hn0 hd pX12_circle (tX12_circle cx.l x hi G8 a0 ha0) rfl rfl dX12_liesAll_38 rfl rfl (fun v9 => ?_)
    refine s_iast F (tf12_15 ha0).1 (tf12_15 ha0).2 dX12_liesAll_41 rfl (fun G10 => ?_)
    refine x_aload_n F dX12_liesAll_42 rfl rfl rfl ?_
    refine x_getR F flX12_99 ha0 rfl dX12_liesAll_43 rfl ?_
    refine x_iconst F dX12_liesAll_46 ⟨by decide, by decide⟩ rfl ?_
    refine x_aload_n F dX12_liesAll_47 rfl rfl rfl ?_
    refine s_callVP F [] [vI 3, vR ((rf a0 15))] lkX12_236 mX12_nodes rfl ha0 rfl hnE hn0 hd pX12_nodes (tX12_nodes cx.l x hi G10 a0 ha0) rfl rfl dX12_liesAll_48 rfl rfl (fun v11 => ?_)
    refine s_iast F (tf12_15 ha0).1 (tf12_15 ha0).2 dX12_liesAll_51 rfl (fun G12 => ?_)
    refine x_aload_n F dX12_liesAll_52 rfl rfl rfl ?_
    refine x_getR F flX12_87 ha0 rfl dX12_liesAll_53 rfl ?_
    refine x_iconst F dX12_liesAll_56 ⟨by decide, by decide⟩ rfl ?_
    refine s_iald F (tf12_10 ha0).1 (tf12_10 ha0).2 dX12_liesAll_57 rfl (fun v13 => ?_)
    refine x_jn (fun (K16 : Int → Hp → RT) => ∀ (v14 : Int) (G15 : Hp), Y cx x 4 none 129 80 [(0, vR a0), (1, vI v2)] [vI v14] G15 (K16 v14 G15)) ?_ (fun K16 hK16 => ?_)
    · intro v14 G15
      refine x_istore_n F dX12_liesAll_80 rfl (by decide) rfl rfl (fun v17 => ?_)
      show Y cx x _ _ _ _ [(0, vR a0), (1, vI v2), (2, vI v17)] _ _ _
      refine x_aload_n F dX12_liesAll_81 rfl rfl rfl ?_
      refine s_callVP F [] [] lkX12_257 mX12_circle rfl ha0 rfl hnE hn0 hd pX12_circle (tX12_circle cx.l x hi G15 a0 ha0) rfl rfl dX12_liesAll_82 rfl rfl (fun v18 => ?_)
      refine x_jn (fun (K20 : Int → RT) => ∀ (v19 : Int), Y cx x 4 none 129 98 [(0, vR a0), (1, vI v2)] [vI v19] G15 (K20 v19)) ?_ (fun K20 hK20 => ?_)
      · intro v19
        refine x_istore_n F dX12_liesAll_98 rfl (by decide) rfl rfl (fun v21 => ?_)
        show Y cx x _ _ _ _ [(0, vR a0), (1, vI v2), (3, vI v21)] _ _ _
        refine x_aload_n F dX12_liesAll_99 rfl rfl rfl ?_
        refine x_getR F flX12_112 ha0 rfl dX12_liesAll_100 rfl ?_
        refine x_iload_n F dX12_liesAll_103 rfl rfl rfl ?_
        refine x_iload_n F dX12_liesAll_104 rfl rfl rfl ?_
        refine x_jn (fun (K23 : Int → RT) => ∀ (v22 : Int), Y cx x 4 none 129 118 [(0, vR a0), (1, vI v2)] [vI v22, vI v2, vR ((rf a0 20))] G15 (K23 v22)) ?_ (fun K23 hK23 => ?_)
        · intro v22
          refine s_iast F (tf12_20 ha0).1 (tf12_20 ha0).2 dX12_liesAll_118 rfl (fun G24 => ?_)
          refine x_iinc F dX12_liesAll_119 rfl (by decide) rfl rfl (fun v25 => ?_)
          show Y cx x _ _ _ _ [(0, vR a0), (1, vI v25)] _ _ _
          refine x_goto (pc' := 2) F dX12_liesAll_122 rfl ?_
          exact hrc4 v25 G24
        · refine x_ifge (pt := 117) F dX12_liesAll_105 rfl rfl ?_ ?_
          · refine x_iload_n F dX12_liesAll_108 rfl rfl rfl ?_
            refine x_aload_n F dX12_liesAll_109 rfl rfl rfl ?_
            refine s_callVP F [] [vI v21, vI v2, vR ((rf a0 20))] lkX12_257 mX12_circle rfl ha0 rfl hnE hn0 hd pX12_circle (tX12_circle cx.l x hi G15 a0 ha0) rfl rfl dX12_liesAll_110 rfl rfl (fun v26 => ?_)
            refine x_iadd F dX12_liesAll_113 rfl ?_
            refine x_goto (pc' := 118) F dX12_liesAll_114 rfl ?_
            refine x_dp (L' := [(0, vR a0), (1, vI v2)]) [0, 1] rfl ?_
            exact hK23 (iadd v21 v26)
          · refine x_iload_n F dX12_liesAll_117 rfl rfl rfl ?_
            refine x_dp (L' := [(0, vR a0), (1, vI v2)]) [0, 1] rfl ?_
            exact hK23 v21
      · refine x_ifne (pt := 92) F dX12_liesAll_85 rfl rfl ?_ ?_
        · refine x_iconst F dX12_liesAll_88 ⟨by decide, by decide⟩ rfl ?_
          refine x_goto (pc' := 98) F dX12_liesAll_89 rfl ?_
          refine x_dp (L' := [(0, vR a0), (1, vI v2)]) [0, 1] rfl ?_
          exact hK20 0
        · refine x_iload_n F dX12_liesAll_92 rfl rfl rfl ?_
          refine x_aload_n F dX12_liesAll_93 rfl rfl rfl ?_
          refine s_callVP F [] [vI v17] lkX12_257 mX12_circle rfl ha0 rfl hnE hn0 hd pX12_circle (tX12_circle cx.l x hi G15 a0 ha0) rfl rfl dX12_liesAll_94 rfl rfl (fun v27 => ?_)
          refine x_irem F dX12_liesAll_97 rfl ?_
          refine x_dp (L' := [(0, vR a0), (1, vI v2)]) [0, 1] rfl ?_
          exact hK20 (irem v17 v27)
    · refine x_ifge (pt := 70) F dX12_liesAll_58 rfl rfl ?_ ?_
      · refine x_aload_n F dX12_liesAll_61 rfl rfl rfl ?_
        refine x_getR F flX12_99 ha0 rfl dX12_liesAll_62 rfl ?_
        refine x_iconst F dX12_liesAll_65 ⟨by decide, by decide⟩ rfl ?_
        refine s_iald F (tf12_15 ha0).1 (tf12_15 ha0).2 dX12_liesAll_66 rfl (fun v31 => ?_)
        refine x_goto (pc' := 80) F dX12_liesAll_67 rfl ?_
        exact hK16 v31 G12
      · refine x_aload_n F dX12_liesAll_70 rfl rfl rfl ?_
        refine x_aload_n F dX12_liesAll_71 rfl rfl rfl ?_
        refine x_getR F flX12_87 ha0 rfl dX12_liesAll_72 rfl ?_
        refine x_iconst F dX12_liesAll_75 ⟨by decide, by decide⟩ rfl ?_
        refine s_iald F (tf12_10 ha0).1 (tf12_10 ha0).2 dX12_liesAll_76 rfl (fun v28 => ?_)
        refine s_callV F [vI v28] [] lkX12_260 mX12_worthAt rfl ha0 rfl hnE hn0 hd (tX12_worthAt cx.l x hi G12 a0 v28 ha0) rfl rfl dX12_liesAll_77 rfl rfl (fun v29 G30 => ?_)
        exact hK16 v29 G30
  · exact x_vret F hnE hQ dX12_liesAll_125
theorem dX12_wayTo_0 : decode cX12_wayTo 0 = .ok (.aload_n 0, 1) := by decide +kernel
theorem dX12_wayTo_1 : decode cX12_wayTo 1 = .ok (.aload_n 0, 1) := by decide +kernel
theorem dX12_wayTo_2 : decode cX12_wayTo 2 = .ok (.iload_n 1, 1) := by decide +kernel
theorem dX12_wayTo_3 : decode cX12_wayTo 3 = .ok (.invokevirtual 282, 3) := by decide +kernel
theorem dX12_wayTo_6 : decode cX12_wayTo 6 = .ok (.aload_n 0, 1) := by decide +kernel
theorem dX12_wayTo_7 : decode cX12_wayTo 7 = .ok (.iload_n 2, 1) := by decide +kernel
theorem dX12_wayTo_8 : decode cX12_wayTo 8 = .ok (.invokevirtual 282, 3) := by decide +kernel
theorem dX12_wayTo_11 : decode cX12_wayTo 11 = .ok (.invokevirtual 285, 3) := by decide +kernel
theorem dX12_wayTo_14 : decode cX12_wayTo 14 = .ok (.ireturn, 1) := by decide +kernel
def fX12_wayTo (a0 : Nat) (a1 : Int) (a2 : Int) (G : Hp) : RT := bp (fX12_placeOf a0 a1 G) fun v1 => bp (fX12_placeOf a0 a2 G) fun v2 => bp (fX12_way a0 v1 v2 G) fun v3 => rt v3 G
theorem pX12_wayTo {G : Hp} {a0 : Nat} {a1 : Int} {a2 : Int} : PU G (fX12_wayTo a0 a1 a2 G) := by
  unfold fX12_wayTo
  refine PU_bp (fun v1 => ?_)
  refine PU_bp (fun v2 => ?_)
  refine PU_bp (fun v3 => ?_)
  exact PU_rt
set_option maxRecDepth 20000 in
set_option maxHeartbeats 4000000 in
theorem tX12_wayTo (l : Launch) (x : WX) (hi : Inj x.2.2) (G : Hp) (a0 : Nat) (a1 : Int) (a2 : Int) (ha0 : kd a0 = 12) : Ct l x yX12_wayTo cX12_wayTo 3 (some .int) 2 129 129 [vR a0, vI a1, vI a2] G (fX12_wayTo a0 a1 a2 G) := by
  refine ct_of (plainFor_of_name (by decide)) hi (Nat.le_refl _) (Nat.le_refl _) (Nat.le_of_ble_eq_true rfl) (fun cx F hd hn0 hnE hl hQ => ?_)
  subst hl
  have F : Fx cx x RX12 cX12_wayTo 3 (some .int) := F
  show Y cx x 3 (some .int) 129 0 [(0, vR a0), (1, vI a1), (2, vI a2)] [] G _
  unfold fX12_wayTo
  refine x_aload_n F dX12_wayTo_0 rfl rfl rfl ?_
  refine x_aload_n F dX12_wayTo_1 rfl rfl rfl ?_
  refine x_iload_n F dX12_wayTo_2 rfl rfl rfl ?_
  refine s_callVP F [vI a1] [vR a0] lkX12_282 mX12_placeOf rfl ha0 rfl hnE hn0 hd pX12_placeOf (tX12_placeOf cx.l x hi G a0 a1 ha0) rfl rfl dX12_wayTo_3 rfl rfl (fun v1 => ?_)
  refine x_aload_n F dX12_wayTo_6 rfl rfl rfl ?_
  refine x_iload_n F dX12_wayTo_7 rfl rfl rfl ?_
  refine s_callVP F [vI a2] [vI v1, vR a0] lkX12_282 mX12_placeOf rfl ha0 rfl hnE hn0 hd pX12_placeOf (tX12_placeOf cx.l x hi G a0 a2 ha0) rfl rfl dX12_wayTo_8 rfl rfl (fun v2 => ?_)
  refine s_callVP F [vI v1, vI v2] [] lkX12_285 mX12_way rfl ha0 rfl hnE hn0 hd pX12_way (tX12_way cx.l x hi G a0 v1 v2 ha0) rfl rfl dX12_wayTo_11 rfl rfl (fun v3 => ?_)
  exact x_iret F hnE hQ dX12_wayTo_14
theorem dX12_metFrom_0 : decode cX12_metFrom 0 = .ok (.iconst (-1), 1) := by decide +kernel
theorem dX12_metFrom_1 : decode cX12_metFrom 1 = .ok (.istore_n 3, 1) := by decide +kernel
theorem dX12_metFrom_2 : decode cX12_metFrom 2 = .ok (.iconst 0, 1) := by decide +kernel
theorem dX12_metFrom_3 : decode cX12_metFrom 3 = .ok (.istore 4, 2) := by decide +kernel
theorem dX12_metFrom_5 : decode cX12_metFrom 5 = .ok (.iload 4, 2) := by decide +kernel
theorem dX12_metFrom_7 : decode cX12_metFrom 7 = .ok (.aload_n 0, 1) := by decide +kernel
theorem dX12_metFrom_8 : decode cX12_metFrom 8 = .ok (.invokevirtual 257, 3) := by decide +kernel
theorem dX12_metFrom_11 : decode cX12_metFrom 11 = .ok (.if_icmp .ge 23, 3) := by decide +kernel
theorem dX12_metFrom_14 : decode cX12_metFrom 14 = .ok (.iload_n 3, 1) := by decide +kernel
theorem dX12_metFrom_15 : decode cX12_metFrom 15 = .ok (.ifCond .ge 19, 3) := by decide +kernel
theorem dX12_metFrom_18 : decode cX12_metFrom 18 = .ok (.aload_n 0, 1) := by decide +kernel
theorem dX12_metFrom_19 : decode cX12_metFrom 19 = .ok (.iload_n 1, 1) := by decide +kernel
theorem dX12_metFrom_20 : decode cX12_metFrom 20 = .ok (.iload_n 2, 1) := by decide +kernel
theorem dX12_metFrom_21 : decode cX12_metFrom 21 = .ok (.iload 4, 2) := by decide +kernel
theorem dX12_metFrom_23 : decode cX12_metFrom 23 = .ok (.iadd, 1) := by decide +kernel
theorem dX12_metFrom_24 : decode cX12_metFrom 24 = .ok (.invokevirtual 288, 3) := by decide +kernel
theorem dX12_metFrom_27 : decode cX12_metFrom 27 = .ok (.istore_n 3, 1) := by decide +kernel
theorem dX12_metFrom_28 : decode cX12_metFrom 28 = .ok (.iinc 4 1, 3) := by decide +kernel
theorem dX12_metFrom_31 : decode cX12_metFrom 31 = .ok (.goto (-26), 3) := by decide +kernel
theorem dX12_metFrom_34 : decode cX12_metFrom 34 = .ok (.iload_n 3, 1) := by decide +kernel
theorem dX12_metFrom_35 : decode cX12_metFrom 35 = .ok (.ireturn, 1) := by decide +kernel
def fX12_metFrom (a0 : Nat) (a1 : Int) (a2 : Int) (G : Hp) : RT := bd ((-1)) fun v1 => bd 0 fun v2 => (lp (fun (_ : Int) (_ : Int) => (none : RT)) 5000 (fun (rc5 : Int → Int → RT) (v3 : Int) (v4 : Int) => bp (fX12_circle a0 G) fun v6 => if v4 < v6 then (if v3 < 0 then (bp (fX12_inAt a0 a1 (iadd a2 v4) G) fun v7 => bd v7 fun v8 => bd (iadd v4 1) fun v9 => rc5 v8 v9) else rt v3 G) else rt v3 G)) v1 v2
theorem pX12_metFrom {G : Hp} {a0 : Nat} {a1 : Int} {a2 : Int} : PU G (fX12_metFrom a0 a1 a2 G) := by
  unfold fX12_metFrom
  refine PU_bd (fun v1 => ?_)
  refine PU_bd (fun v2 => ?_)
  refine x_lp (fun (rc5 : Int → Int → RT) => ∀ (v3 : Int) (v4 : Int), PU G (rc5 v3 v4)) (fun _ _ => PU_none) (fun rc5 phrc5 v3 v4 => ?_) 5000 v1 v2
  refine PU_bp (fun v6 => ?_)
  refine PU_ite ?_ ?_
  · refine PU_ite ?_ ?_
    · refine PU_bp (fun v7 => ?_)
      refine PU_bd (fun v8 => ?_)
      refine PU_bd (fun v9 => ?_)
      exact phrc5 v8 v9
    · exact PU_rt
  · exact PU_rt
set_option maxRecDepth 20000 in
set_option maxHeartbeats 4000000 in
theorem tX12_metFrom (l : Launch) (x : WX) (hi : Inj x.2.2) (G : Hp) (a0 : Nat) (a1 : Int) (a2 : Int) (ha0 : kd a0 = 12) : Ct l x yX12_metFrom cX12_metFrom 5 (some .int) 2 129 129 [vR a0, vI a1, vI a2] G (fX12_metFrom a0 a1 a2 G) := by
  refine ct_of (plainFor_of_name (by decide)) hi (Nat.le_refl _) (Nat.le_refl _) (Nat.le_of_ble_eq_true rfl) (fun cx F hd hn0 hnE hl hQ => ?_)
  subst hl
  have F : Fx cx x RX12 cX12_metFrom 5 (some .int) := F
  show Y cx x 5 (some .int) 129 0 [(0, vR a0), (1, vI a1), (2, vI a2)] [] G _
  unfold fX12_metFrom
  refine x_iconst F dX12_metFrom_0 ⟨by decide, by decide⟩ rfl ?_
  refine x_istore_n F dX12_metFrom_1 rfl (by decide) rfl rfl (fun v1 => ?_)
  show Y cx x _ _ _ _ [(0, vR a0), (1, vI a1), (2, vI a2), (3, vI v1)] _ _ _
  refine x_iconst F dX12_metFrom_2 ⟨by decide, by decide⟩ rfl ?_
  refine x_istore F dX12_metFrom_3 (by decide) rfl rfl (fun v2 => ?_)
  show Y cx x _ _ _ _ [(0, vR a0), (1, vI a1), (2, vI a2), (3, vI v1), (4, vI v2)] _ _ _
  refine x_lp (fun (rc5 : Int → Int → RT) => ∀ (v3 : Int) (v4 : Int), Y cx x 5 (some .int) 129 5 [(0, vR a0), (1, vI a1), (2, vI a2), (3, vI v3), (4, vI v4)] [] G (rc5 v3 v4)) (fun _ _ => Y_none) (fun rc5 hrc5 v3 v4 => ?_) 5000 v1 v2
  refine x_iload F dX12_metFrom_5 rfl rfl ?_
  refine x_aload_n F dX12_metFrom_7 rfl rfl rfl ?_
  refine s_callVP F [] [vI v4] lkX12_257 mX12_circle rfl ha0 rfl hnE hn0 hd pX12_circle (tX12_circle cx.l x hi G a0 ha0) rfl rfl dX12_metFrom_8 rfl rfl (fun v6 => ?_)
  refine x_icmpge (pt := 34) F dX12_metFrom_11 rfl rfl ?_ ?_
  · refine x_iload_n F dX12_metFrom_14 rfl rfl rfl ?_
    refine x_ifge (pt := 34) F dX12_metFrom_15 rfl rfl ?_ ?_
    · refine x_aload_n F dX12_metFrom_18 rfl rfl rfl ?_
      refine x_iload_n F dX12_metFrom_19 rfl rfl rfl ?_
      refine x_iload_n F dX12_metFrom_20 rfl rfl rfl ?_
      refine x_iload F dX12_metFrom_21 rfl rfl ?_
      refine x_iadd F dX12_metFrom_23 rfl ?_
      refine s_callVP F [vI a1, vI (iadd a2 v4)] [] lkX12_288 mX12_inAt rfl ha0 rfl hnE hn0 hd pX12_inAt (tX12_inAt cx.l x hi G a0 a1 (iadd a2 v4) ha0) rfl rfl dX12_metFrom_24 rfl rfl (fun v7 => ?_)
      refine x_istore_n F dX12_metFrom_27 rfl (by decide) rfl rfl (fun v8 => ?_)
      show Y cx x _ _ _ _ [(0, vR a0), (1, vI a1), (2, vI a2), (3, vI v8), (4, vI v4)] _ _ _
      refine x_iinc F dX12_metFrom_28 rfl (by decide) rfl rfl (fun v9 => ?_)
      show Y cx x _ _ _ _ [(0, vR a0), (1, vI a1), (2, vI a2), (3, vI v8), (4, vI v9)] _ _ _
      refine x_goto (pc' := 5) F dX12_metFrom_31 rfl ?_
      exact hrc5 v8 v9
    · refine x_iload_n F dX12_metFrom_34 rfl rfl rfl ?_
      exact x_iret F hnE hQ dX12_metFrom_35
  · refine x_iload_n F dX12_metFrom_34 rfl rfl rfl ?_
    exact x_iret F hnE hQ dX12_metFrom_35
theorem dX12_metBack_0 : decode cX12_metBack 0 = .ok (.iconst (-1), 1) := by decide +kernel
theorem dX12_metBack_1 : decode cX12_metBack 1 = .ok (.istore_n 3, 1) := by decide +kernel
theorem dX12_metBack_2 : decode cX12_metBack 2 = .ok (.iconst 1, 1) := by decide +kernel
theorem dX12_metBack_3 : decode cX12_metBack 3 = .ok (.istore 4, 2) := by decide +kernel
theorem dX12_metBack_5 : decode cX12_metBack 5 = .ok (.iload 4, 2) := by decide +kernel
theorem dX12_metBack_7 : decode cX12_metBack 7 = .ok (.aload_n 0, 1) := by decide +kernel
theorem dX12_metBack_8 : decode cX12_metBack 8 = .ok (.invokevirtual 257, 3) := by decide +kernel
theorem dX12_metBack_11 : decode cX12_metBack 11 = .ok (.if_icmp .gt 32, 3) := by decide +kernel
theorem dX12_metBack_14 : decode cX12_metBack 14 = .ok (.iload_n 3, 1) := by decide +kernel
theorem dX12_metBack_15 : decode cX12_metBack 15 = .ok (.ifCond .ge 28, 3) := by decide +kernel
theorem dX12_metBack_18 : decode cX12_metBack 18 = .ok (.aload_n 0, 1) := by decide +kernel
theorem dX12_metBack_19 : decode cX12_metBack 19 = .ok (.iload_n 1, 1) := by decide +kernel
theorem dX12_metBack_20 : decode cX12_metBack 20 = .ok (.aload_n 0, 1) := by decide +kernel
theorem dX12_metBack_21 : decode cX12_metBack 21 = .ok (.iload_n 2, 1) := by decide +kernel
theorem dX12_metBack_22 : decode cX12_metBack 22 = .ok (.invokevirtual 282, 3) := by decide +kernel
theorem dX12_metBack_25 : decode cX12_metBack 25 = .ok (.aload_n 0, 1) := by decide +kernel
theorem dX12_metBack_26 : decode cX12_metBack 26 = .ok (.invokevirtual 257, 3) := by decide +kernel
theorem dX12_metBack_29 : decode cX12_metBack 29 = .ok (.iadd, 1) := by decide +kernel
theorem dX12_metBack_30 : decode cX12_metBack 30 = .ok (.iload 4, 2) := by decide +kernel
theorem dX12_metBack_32 : decode cX12_metBack 32 = .ok (.isub, 1) := by decide +kernel
theorem dX12_metBack_33 : decode cX12_metBack 33 = .ok (.invokevirtual 288, 3) := by decide +kernel
theorem dX12_metBack_36 : decode cX12_metBack 36 = .ok (.istore_n 3, 1) := by decide +kernel
theorem dX12_metBack_37 : decode cX12_metBack 37 = .ok (.iinc 4 1, 3) := by decide +kernel
theorem dX12_metBack_40 : decode cX12_metBack 40 = .ok (.goto (-35), 3) := by decide +kernel
theorem dX12_metBack_43 : decode cX12_metBack 43 = .ok (.iload_n 3, 1) := by decide +kernel
theorem dX12_metBack_44 : decode cX12_metBack 44 = .ok (.ireturn, 1) := by decide +kernel
def fX12_metBack (a0 : Nat) (a1 : Int) (a2 : Int) (G : Hp) : RT := bd ((-1)) fun v1 => bd 1 fun v2 => (lp (fun (_ : Int) (_ : Int) => (none : RT)) 5000 (fun (rc5 : Int → Int → RT) (v3 : Int) (v4 : Int) => bp (fX12_circle a0 G) fun v6 => if v6 < v4 then rt v3 G else (if v3 < 0 then (bp (fX12_placeOf a0 a2 G) fun v7 => bp (fX12_circle a0 G) fun v8 => bp (fX12_inAt a0 a1 (isub (iadd v7 v8) v4) G) fun v9 => bd v9 fun v10 => bd (iadd v4 1) fun v11 => rc5 v10 v11) else rt v3 G))) v1 v2
theorem pX12_metBack {G : Hp} {a0 : Nat} {a1 : Int} {a2 : Int} : PU G (fX12_metBack a0 a1 a2 G) := by
  unfold fX12_metBack
  refine PU_bd (fun v1 => ?_)
  refine PU_bd (fun v2 => ?_)
  refine x_lp (fun (rc5 : Int → Int → RT) => ∀ (v3 : Int) (v4 : Int), PU G (rc5 v3 v4)) (fun _ _ => PU_none) (fun rc5 phrc5 v3 v4 => ?_) 5000 v1 v2
  refine PU_bp (fun v6 => ?_)
  refine PU_ite ?_ ?_
  · exact PU_rt
  · refine PU_ite ?_ ?_
    · refine PU_bp (fun v7 => ?_)
      refine PU_bp (fun v8 => ?_)
      refine PU_bp (fun v9 => ?_)
      refine PU_bd (fun v10 => ?_)
      refine PU_bd (fun v11 => ?_)
      exact phrc5 v10 v11
    · exact PU_rt
set_option maxRecDepth 20000 in
set_option maxHeartbeats 4000000 in
theorem tX12_metBack (l : Launch) (x : WX) (hi : Inj x.2.2) (G : Hp) (a0 : Nat) (a1 : Int) (a2 : Int) (ha0 : kd a0 = 12) : Ct l x yX12_metBack cX12_metBack 5 (some .int) 2 129 129 [vR a0, vI a1, vI a2] G (fX12_metBack a0 a1 a2 G) := by
  refine ct_of (plainFor_of_name (by decide)) hi (Nat.le_refl _) (Nat.le_refl _) (Nat.le_of_ble_eq_true rfl) (fun cx F hd hn0 hnE hl hQ => ?_)
  subst hl
  have F : Fx cx x RX12 cX12_metBack 5 (some .int) := F
  show Y cx x 5 (some .int) 129 0 [(0, vR a0), (1, vI a1), (2, vI a2)] [] G _
  unfold fX12_metBack
  refine x_iconst F dX12_metBack_0 ⟨by decide, by decide⟩ rfl ?_
  refine x_istore_n F dX12_metBack_1 rfl (by decide) rfl rfl (fun v1 => ?_)
  show Y cx x _ _ _ _ [(0, vR a0), (1, vI a1), (2, vI a2), (3, vI v1)] _ _ _
  refine x_iconst F dX12_metBack_2 ⟨by decide, by decide⟩ rfl ?_
  refine x_istore F dX12_metBack_3 (by decide) rfl rfl (fun v2 => ?_)
  show Y cx x _ _ _ _ [(0, vR a0), (1, vI a1), (2, vI a2), (3, vI v1), (4, vI v2)] _ _ _
  refine x_lp (fun (rc5 : Int → Int → RT) => ∀ (v3 : Int) (v4 : Int), Y cx x 5 (some .int) 129 5 [(0, vR a0), (1, vI a1), (2, vI a2), (3, vI v3), (4, vI v4)] [] G (rc5 v3 v4)) (fun _ _ => Y_none) (fun rc5 hrc5 v3 v4 => ?_) 5000 v1 v2
  refine x_iload F dX12_metBack_5 rfl rfl ?_
  refine x_aload_n F dX12_metBack_7 rfl rfl rfl ?_
  refine s_callVP F [] [vI v4] lkX12_257 mX12_circle rfl ha0 rfl hnE hn0 hd pX12_circle (tX12_circle cx.l x hi G a0 ha0) rfl rfl dX12_metBack_8 rfl rfl (fun v6 => ?_)
  refine x_icmpgt (pt := 43) F dX12_metBack_11 rfl rfl ?_ ?_
  · refine x_iload_n F dX12_metBack_43 rfl rfl rfl ?_
    exact x_iret F hnE hQ dX12_metBack_44
  · refine x_iload_n F dX12_metBack_14 rfl rfl rfl ?_
    refine x_ifge (pt := 43) F dX12_metBack_15 rfl rfl ?_ ?_
    · refine x_aload_n F dX12_metBack_18 rfl rfl rfl ?_
      refine x_iload_n F dX12_metBack_19 rfl rfl rfl ?_
      refine x_aload_n F dX12_metBack_20 rfl rfl rfl ?_
      refine x_iload_n F dX12_metBack_21 rfl rfl rfl ?_
      refine s_callVP F [vI a2] [vI a1, vR a0] lkX12_282 mX12_placeOf rfl ha0 rfl hnE hn0 hd pX12_placeOf (tX12_placeOf cx.l x hi G a0 a2 ha0) rfl rfl dX12_metBack_22 rfl rfl (fun v7 => ?_)
      refine x_aload_n F dX12_metBack_25 rfl rfl rfl ?_
      refine s_callVP F [] [vI v7, vI a1, vR a0] lkX12_257 mX12_circle rfl ha0 rfl hnE hn0 hd pX12_circle (tX12_circle cx.l x hi G a0 ha0) rfl rfl dX12_metBack_26 rfl rfl (fun v8 => ?_)
      refine x_iadd F dX12_metBack_29 rfl ?_
      refine x_iload F dX12_metBack_30 rfl rfl ?_
      refine x_isub F dX12_metBack_32 rfl ?_
      refine s_callVP F [vI a1, vI (isub (iadd v7 v8) v4)] [] lkX12_288 mX12_inAt rfl ha0 rfl hnE hn0 hd pX12_inAt (tX12_inAt cx.l x hi G a0 a1 (isub (iadd v7 v8) v4) ha0) rfl rfl dX12_metBack_33 rfl rfl (fun v9 => ?_)
      refine x_istore_n F dX12_metBack_36 rfl (by decide) rfl rfl (fun v10 => ?_)
      show Y cx x _ _ _ _ [(0, vR a0), (1, vI a1), (2, vI a2), (3, vI v10), (4, vI v4)] _ _ _
      refine x_iinc F dX12_metBack_37 rfl (by decide) rfl rfl (fun v11 => ?_)
      show Y cx x _ _ _ _ [(0, vR a0), (1, vI a1), (2, vI a2), (3, vI v10), (4, vI v11)] _ _ _
      refine x_goto (pc' := 5) F dX12_metBack_40 rfl ?_
      exact hrc5 v10 v11
    · refine x_iload_n F dX12_metBack_43 rfl rfl rfl ?_
      exact x_iret F hnE hQ dX12_metBack_44
theorem dX12_begun_0 : decode cX12_begun 0 = .ok (.aload_n 0, 1) := by decide +kernel
theorem dX12_begun_1 : decode cX12_begun 1 = .ok (.iload_n 1, 1) := by decide +kernel
theorem dX12_begun_2 : decode cX12_begun 2 = .ok (.invokevirtual 316, 3) := by decide +kernel
theorem dX12_begun_5 : decode cX12_begun 5 = .ok (.ifCond .eq 5, 3) := by decide +kernel
theorem dX12_begun_8 : decode cX12_begun 8 = .ok (.iconst 0, 1) := by decide +kernel
theorem dX12_begun_9 : decode cX12_begun 9 = .ok (.ireturn, 1) := by decide +kernel
theorem dX12_begun_10 : decode cX12_begun 10 = .ok (.aload_n 0, 1) := by decide +kernel
theorem dX12_begun_11 : decode cX12_begun 11 = .ok (.iload_n 1, 1) := by decide +kernel
theorem dX12_begun_12 : decode cX12_begun 12 = .ok (.iload_n 2, 1) := by decide +kernel
theorem dX12_begun_13 : decode cX12_begun 13 = .ok (.invokevirtual 263, 3) := by decide +kernel
theorem dX12_begun_16 : decode cX12_begun 16 = .ok (.aload_n 0, 1) := by decide +kernel
theorem dX12_begun_17 : decode cX12_begun 17 = .ok (.getfield 105, 3) := by decide +kernel
theorem dX12_begun_20 : decode cX12_begun 20 = .ok (.iload_n 1, 1) := by decide +kernel
theorem dX12_begun_21 : decode cX12_begun 21 = .ok (.bipush 15, 2) := by decide +kernel
theorem dX12_begun_23 : decode cX12_begun 23 = .ok (.iload_n 2, 1) := by decide +kernel
theorem dX12_begun_24 : decode cX12_begun 24 = .ok (.imul, 1) := by decide +kernel
theorem dX12_begun_25 : decode cX12_begun 25 = .ok (.iadd, 1) := by decide +kernel
theorem dX12_begun_26 : decode cX12_begun 26 = .ok (.iconst 0, 1) := by decide +kernel
theorem dX12_begun_27 : decode cX12_begun 27 = .ok (.iadd, 1) := by decide +kernel
theorem dX12_begun_28 : decode cX12_begun 28 = .ok (.iconst 1, 1) := by decide +kernel
theorem dX12_begun_29 : decode cX12_begun 29 = .ok (.iastore, 1) := by decide +kernel
theorem dX12_begun_30 : decode cX12_begun 30 = .ok (.aload_n 0, 1) := by decide +kernel
theorem dX12_begun_31 : decode cX12_begun 31 = .ok (.getfield 105, 3) := by decide +kernel
theorem dX12_begun_34 : decode cX12_begun 34 = .ok (.iload_n 1, 1) := by decide +kernel
theorem dX12_begun_35 : decode cX12_begun 35 = .ok (.bipush 15, 2) := by decide +kernel
theorem dX12_begun_37 : decode cX12_begun 37 = .ok (.iload_n 2, 1) := by decide +kernel
theorem dX12_begun_38 : decode cX12_begun 38 = .ok (.imul, 1) := by decide +kernel
theorem dX12_begun_39 : decode cX12_begun 39 = .ok (.iadd, 1) := by decide +kernel
theorem dX12_begun_40 : decode cX12_begun 40 = .ok (.iconst 1, 1) := by decide +kernel
theorem dX12_begun_41 : decode cX12_begun 41 = .ok (.iadd, 1) := by decide +kernel
theorem dX12_begun_42 : decode cX12_begun 42 = .ok (.iconst 1, 1) := by decide +kernel
theorem dX12_begun_43 : decode cX12_begun 43 = .ok (.iastore, 1) := by decide +kernel
theorem dX12_begun_44 : decode cX12_begun 44 = .ok (.aload_n 0, 1) := by decide +kernel
theorem dX12_begun_45 : decode cX12_begun 45 = .ok (.getfield 105, 3) := by decide +kernel
theorem dX12_begun_48 : decode cX12_begun 48 = .ok (.iload_n 1, 1) := by decide +kernel
theorem dX12_begun_49 : decode cX12_begun 49 = .ok (.bipush 15, 2) := by decide +kernel
theorem dX12_begun_51 : decode cX12_begun 51 = .ok (.iload_n 2, 1) := by decide +kernel
theorem dX12_begun_52 : decode cX12_begun 52 = .ok (.imul, 1) := by decide +kernel
theorem dX12_begun_53 : decode cX12_begun 53 = .ok (.iadd, 1) := by decide +kernel
theorem dX12_begun_54 : decode cX12_begun 54 = .ok (.iconst 2, 1) := by decide +kernel
theorem dX12_begun_55 : decode cX12_begun 55 = .ok (.iadd, 1) := by decide +kernel
theorem dX12_begun_56 : decode cX12_begun 56 = .ok (.iload_n 2, 1) := by decide +kernel
theorem dX12_begun_57 : decode cX12_begun 57 = .ok (.iastore, 1) := by decide +kernel
theorem dX12_begun_58 : decode cX12_begun 58 = .ok (.iconst 1, 1) := by decide +kernel
theorem dX12_begun_59 : decode cX12_begun 59 = .ok (.ireturn, 1) := by decide +kernel
def fX12_begun (a0 : Nat) (a1 : Int) (a2 : Int) (G : Hp) : RT := bp (fX12_inSet a0 a1 G) fun v1 => if v1 = 0 then (bn (fX12_goesOut a0 a1 a2 G) fun _ G2 => bs (wr G2 ((rf a0 17)) 3565 (iadd (iadd a1 (imul 15 a2)) 0) 1) fun G3 => bs (wr G3 ((rf a0 17)) 3565 (iadd (iadd a1 (imul 15 a2)) 1) 1) fun G4 => bs (wr G4 ((rf a0 17)) 3565 (iadd (iadd a1 (imul 15 a2)) 2) a2) fun G5 => rz 1 G5) else rz 0 G
set_option maxRecDepth 20000 in
set_option maxHeartbeats 4000000 in
theorem tX12_begun (l : Launch) (x : WX) (hi : Inj x.2.2) (G : Hp) (a0 : Nat) (a1 : Int) (a2 : Int) (ha0 : kd a0 = 12) : Ct l x yX12_begun cX12_begun 3 (some .boolean) 2 129 129 [vR a0, vI a1, vI a2] G (fX12_begun a0 a1 a2 G) := by
  refine ct_of (plainFor_of_name (by decide)) hi (Nat.le_refl _) (Nat.le_refl _) (Nat.le_of_ble_eq_true rfl) (fun cx F hd hn0 hnE hl hQ => ?_)
  subst hl
  have F : Fx cx x RX12 cX12_begun 3 (some .boolean) := F
  show Y cx x 3 (some .boolean) 129 0 [(0, vR a0), (1, vI a1), (2, vI a2)] [] G _
  unfold fX12_begun
  refine x_aload_n F dX12_begun_0 rfl rfl rfl ?_
  refine x_iload_n F dX12_begun_1 rfl rfl rfl ?_
  refine s_callVP F [vI a1] [] lkX12_316 mX12_inSet rfl ha0 rfl hnE hn0 hd pX12_inSet (tX12_inSet cx.l x hi G a0 a1 ha0) rfl rfl dX12_begun_2 rfl rfl (fun v1 => ?_)
  refine x_ifeq (pt := 10) F dX12_begun_5 rfl rfl ?_ ?_
  · refine x_aload_n F dX12_begun_10 rfl rfl rfl ?_
    refine x_iload_n F dX12_begun_11 rfl rfl rfl ?_
    refine x_iload_n F dX12_begun_12 rfl rfl rfl ?_
    refine s_callVv F [vI a1, vI a2] [] lkX12_263 mX12_goesOut rfl ha0 rfl hnE hn0 hd (tX12_goesOut cx.l x hi G a0 a1 a2 ha0) rfl rfl dX12_begun_13 rfl rfl (fun _ G2 => ?_)
    refine x_aload_n F dX12_begun_16 rfl rfl rfl ?_
    refine x_getR F flX12_105 ha0 rfl dX12_begun_17 rfl ?_
    refine x_iload_n F dX12_begun_20 rfl rfl rfl ?_
    refine x_bipush F dX12_begun_21 ⟨by decide, by decide⟩ (by decide) rfl ?_
    refine x_iload_n F dX12_begun_23 rfl rfl rfl ?_
    refine x_imul F dX12_begun_24 rfl ?_
    refine x_iadd F dX12_begun_25 rfl ?_
    refine x_iconst F dX12_begun_26 ⟨by decide, by decide⟩ rfl ?_
    refine x_iadd F dX12_begun_27 rfl ?_
    refine x_iconst F dX12_begun_28 ⟨by decide, by decide⟩ rfl ?_
    refine s_iast F (tf12_17 ha0).1 (tf12_17 ha0).2 dX12_begun_29 rfl (fun G3 => ?_)
    refine x_aload_n F dX12_begun_30 rfl rfl rfl ?_
    refine x_getR F flX12_105 ha0 rfl dX12_begun_31 rfl ?_
    refine x_iload_n F dX12_begun_34 rfl rfl rfl ?_
    refine x_bipush F dX12_begun_35 ⟨by decide, by decide⟩ (by decide) rfl ?_
    refine x_iload_n F dX12_begun_37 rfl rfl rfl ?_
    refine x_imul F dX12_begun_38 rfl ?_
    refine x_iadd F dX12_begun_39 rfl ?_
    refine x_iconst F dX12_begun_40 ⟨by decide, by decide⟩ rfl ?_
    refine x_iadd F dX12_begun_41 rfl ?_
    refine x_iconst F dX12_begun_42 ⟨by decide, by decide⟩ rfl ?_
    refine s_iast F (tf12_17 ha0).1 (tf12_17 ha0).2 dX12_begun_43 rfl (fun G4 => ?_)
    refine x_aload_n F dX12_begun_44 rfl rfl rfl ?_
    refine x_getR F flX12_105 ha0 rfl dX12_begun_45 rfl ?_
    refine x_iload_n F dX12_begun_48 rfl rfl rfl ?_
    refine x_bipush F dX12_begun_49 ⟨by decide, by decide⟩ (by decide) rfl ?_
    refine x_iload_n F dX12_begun_51 rfl rfl rfl ?_
    refine x_imul F dX12_begun_52 rfl ?_
    refine x_iadd F dX12_begun_53 rfl ?_
    refine x_iconst F dX12_begun_54 ⟨by decide, by decide⟩ rfl ?_
    refine x_iadd F dX12_begun_55 rfl ?_
    refine x_iload_n F dX12_begun_56 rfl rfl rfl ?_
    refine s_iast F (tf12_17 ha0).1 (tf12_17 ha0).2 dX12_begun_57 rfl (fun G5 => ?_)
    refine x_iconst F dX12_begun_58 ⟨by decide, by decide⟩ rfl ?_
    exact x_zret F hnE hQ dX12_begun_59
  · refine x_iconst F dX12_begun_8 ⟨by decide, by decide⟩ rfl ?_
    exact x_zret F hnE hQ dX12_begun_9
theorem dX12_left_0 : decode cX12_left 0 = .ok (.aload_n 0, 1) := by decide +kernel
theorem dX12_left_1 : decode cX12_left 1 = .ok (.iload_n 1, 1) := by decide +kernel
theorem dX12_left_2 : decode cX12_left 2 = .ok (.iload_n 2, 1) := by decide +kernel
theorem dX12_left_3 : decode cX12_left 3 = .ok (.invokevirtual 278, 3) := by decide +kernel
theorem dX12_left_6 : decode cX12_left 6 = .ok (.ifCond .eq 12, 3) := by decide +kernel
theorem dX12_left_9 : decode cX12_left 9 = .ok (.aload_n 0, 1) := by decide +kernel
theorem dX12_left_10 : decode cX12_left 10 = .ok (.iload_n 1, 1) := by decide +kernel
theorem dX12_left_11 : decode cX12_left 11 = .ok (.iload_n 2, 1) := by decide +kernel
theorem dX12_left_12 : decode cX12_left 12 = .ok (.invokevirtual 310, 3) := by decide +kernel
theorem dX12_left_15 : decode cX12_left 15 = .ok (.goto 4, 3) := by decide +kernel
theorem dX12_left_18 : decode cX12_left 18 = .ok (.iconst (-1), 1) := by decide +kernel
theorem dX12_left_19 : decode cX12_left 19 = .ok (.istore_n 3, 1) := by decide +kernel
theorem dX12_left_20 : decode cX12_left 20 = .ok (.iload_n 3, 1) := by decide +kernel
theorem dX12_left_21 : decode cX12_left 21 = .ok (.ifCond .lt 8, 3) := by decide +kernel
theorem dX12_left_24 : decode cX12_left 24 = .ok (.iload_n 3, 1) := by decide +kernel
theorem dX12_left_25 : decode cX12_left 25 = .ok (.iload_n 2, 1) := by decide +kernel
theorem dX12_left_26 : decode cX12_left 26 = .ok (.if_icmp .ne 5, 3) := by decide +kernel
theorem dX12_left_29 : decode cX12_left 29 = .ok (.iconst 0, 1) := by decide +kernel
theorem dX12_left_30 : decode cX12_left 30 = .ok (.ireturn, 1) := by decide +kernel
theorem dX12_left_31 : decode cX12_left 31 = .ok (.aload_n 0, 1) := by decide +kernel
theorem dX12_left_32 : decode cX12_left 32 = .ok (.iload_n 1, 1) := by decide +kernel
theorem dX12_left_33 : decode cX12_left 33 = .ok (.iload_n 2, 1) := by decide +kernel
theorem dX12_left_34 : decode cX12_left 34 = .ok (.iload_n 3, 1) := by decide +kernel
theorem dX12_left_35 : decode cX12_left 35 = .ok (.invokevirtual 334, 3) := by decide +kernel
theorem dX12_left_38 : decode cX12_left 38 = .ok (.aload_n 0, 1) := by decide +kernel
theorem dX12_left_39 : decode cX12_left 39 = .ok (.iload_n 1, 1) := by decide +kernel
theorem dX12_left_40 : decode cX12_left 40 = .ok (.iload_n 2, 1) := by decide +kernel
theorem dX12_left_41 : decode cX12_left 41 = .ok (.invokevirtual 263, 3) := by decide +kernel
theorem dX12_left_44 : decode cX12_left 44 = .ok (.iconst 1, 1) := by decide +kernel
theorem dX12_left_45 : decode cX12_left 45 = .ok (.ireturn, 1) := by decide +kernel
def fX12_left (a0 : Nat) (a1 : Int) (a2 : Int) (G : Hp) : RT := bp (fX12_isIn a0 a1 a2 G) fun v1 => jn (fun (v2 : Int) => bd v2 fun v4 => if v4 < 0 then rz 0 G else (if v4 = a2 then rz 0 G else (bn (fX12_giveAll a0 a1 a2 v4 G) fun _ G5 => bn (fX12_goesOut a0 a1 a2 G5) fun _ G6 => rz 1 G6))) fun (K3 : Int → RT) => if v1 = 0 then (K3 ((-1))) else (bp (fX12_firstOf a0 a1 a2 G) fun v9 => K3 v9)
set_option maxRecDepth 20000 in
set_option maxHeartbeats 4000000 in
theorem tX12_left (l : Launch) (x : WX) (hi : Inj x.2.2) (G : Hp) (a0 : Nat) (a1 : Int) (a2 : Int) (ha0 : kd a0 = 12) : Ct l x yX12_left cX12_left 4 (some .boolean) 2 129 129 [vR a0, vI a1, vI a2] G (fX12_left a0 a1 a2 G) := by
  refine ct_of (plainFor_of_name (by decide)) hi (Nat.le_refl _) (Nat.le_refl _) (Nat.le_of_ble_eq_true rfl) (fun cx F hd hn0 hnE hl hQ => ?_)
  subst hl
  have F : Fx cx x RX12 cX12_left 4 (some .boolean) := F
  show Y cx x 4 (some .boolean) 129 0 [(0, vR a0), (1, vI a1), (2, vI a2)] [] G _
  unfold fX12_left
  refine x_aload_n F dX12_left_0 rfl rfl rfl ?_
  refine x_iload_n F dX12_left_1 rfl rfl rfl ?_
  refine x_iload_n F dX12_left_2 rfl rfl rfl ?_
  refine s_callVP F [vI a1, vI a2] [] lkX12_278 mX12_isIn rfl ha0 rfl hnE hn0 hd pX12_isIn (tX12_isIn cx.l x hi G a0 a1 a2 ha0) rfl rfl dX12_left_3 rfl rfl (fun v1 => ?_)
  refine x_jn (fun (K3 : Int → RT) => ∀ (v2 : Int), Y cx x 4 (some .boolean) 129 19 [(0, vR a0), (1, vI a1), (2, vI a2)] [vI v2] G (K3 v2)) ?_ (fun K3 hK3 => ?_)
  · intro v2
    refine x_istore_n F dX12_left_19 rfl (by decide) rfl rfl (fun v4 => ?_)
    show Y cx x _ _ _ _ [(0, vR a0), (1, vI a1), (2, vI a2), (3, vI v4)] _ _ _
    refine x_iload_n F dX12_left_20 rfl rfl rfl ?_
    refine x_iflt (pt := 29) F dX12_left_21 rfl rfl ?_ ?_
    · refine x_iconst F dX12_left_29 ⟨by decide, by decide⟩ rfl ?_
      exact x_zret F hnE hQ dX12_left_30
    · refine x_iload_n F dX12_left_24 rfl rfl rfl ?_
      refine x_iload_n F dX12_left_25 rfl rfl rfl ?_
      refine x_icmpne (pt := 31) F dX12_left_26 rfl rfl ?_ ?_
      · refine x_iconst F dX12_left_29 ⟨by decide, by decide⟩ rfl ?_
        exact x_zret F hnE hQ dX12_left_30
      · refine x_aload_n F dX12_left_31 rfl rfl rfl ?_
        refine x_iload_n F dX12_left_32 rfl rfl rfl ?_
        refine x_iload_n F dX12_left_33 rfl rfl rfl ?_
        refine x_iload_n F dX12_left_34 rfl rfl rfl ?_
        refine s_callVv F [vI a1, vI a2, vI v4] [] lkX12_334 mX12_giveAll rfl ha0 rfl hnE hn0 hd (tX12_giveAll cx.l x hi G a0 a1 a2 v4 ha0) rfl rfl dX12_left_35 rfl rfl (fun _ G5 => ?_)
        refine x_aload_n F dX12_left_38 rfl rfl rfl ?_
        refine x_iload_n F dX12_left_39 rfl rfl rfl ?_
        refine x_iload_n F dX12_left_40 rfl rfl rfl ?_
        refine s_callVv F [vI a1, vI a2] [] lkX12_263 mX12_goesOut rfl ha0 rfl hnE hn0 hd (tX12_goesOut cx.l x hi G5 a0 a1 a2 ha0) rfl rfl dX12_left_41 rfl rfl (fun _ G6 => ?_)
        refine x_iconst F dX12_left_44 ⟨by decide, by decide⟩ rfl ?_
        exact x_zret F hnE hQ dX12_left_45
  · refine x_ifeq (pt := 18) F dX12_left_6 rfl rfl ?_ ?_
    · refine x_iconst F dX12_left_18 ⟨by decide, by decide⟩ rfl ?_
      exact hK3 ((-1))
    · refine x_aload_n F dX12_left_9 rfl rfl rfl ?_
      refine x_iload_n F dX12_left_10 rfl rfl rfl ?_
      refine x_iload_n F dX12_left_11 rfl rfl rfl ?_
      refine s_callVP F [vI a1, vI a2] [] lkX12_310 mX12_firstOf rfl ha0 rfl hnE hn0 hd pX12_firstOf (tX12_firstOf cx.l x hi G a0 a1 a2 ha0) rfl rfl dX12_left_12 rfl rfl (fun v9 => ?_)
      refine x_goto (pc' := 19) F dX12_left_15 rfl ?_
      exact hK3 v9
theorem dX12_failed_0 : decode cX12_failed 0 = .ok (.aload_n 0, 1) := by decide +kernel
theorem dX12_failed_1 : decode cX12_failed 1 = .ok (.iload_n 1, 1) := by decide +kernel
theorem dX12_failed_2 : decode cX12_failed 2 = .ok (.iload_n 2, 1) := by decide +kernel
theorem dX12_failed_3 : decode cX12_failed 3 = .ok (.invokevirtual 278, 3) := by decide +kernel
theorem dX12_failed_6 : decode cX12_failed 6 = .ok (.ifCond .ne 5, 3) := by decide +kernel
theorem dX12_failed_9 : decode cX12_failed 9 = .ok (.iconst (-1), 1) := by decide +kernel
theorem dX12_failed_10 : decode cX12_failed 10 = .ok (.ireturn, 1) := by decide +kernel
theorem dX12_failed_11 : decode cX12_failed 11 = .ok (.aload_n 0, 1) := by decide +kernel
theorem dX12_failed_12 : decode cX12_failed 12 = .ok (.iload_n 1, 1) := by decide +kernel
theorem dX12_failed_13 : decode cX12_failed 13 = .ok (.iload_n 2, 1) := by decide +kernel
theorem dX12_failed_14 : decode cX12_failed 14 = .ok (.invokevirtual 337, 3) := by decide +kernel
theorem dX12_failed_17 : decode cX12_failed 17 = .ok (.invokestatic 340, 3) := by decide +kernel
theorem dX12_failed_20 : decode cX12_failed 20 = .ok (.istore_n 3, 1) := by decide +kernel
theorem dX12_failed_21 : decode cX12_failed 21 = .ok (.aload_n 0, 1) := by decide +kernel
theorem dX12_failed_22 : decode cX12_failed 22 = .ok (.iload_n 1, 1) := by decide +kernel
theorem dX12_failed_23 : decode cX12_failed 23 = .ok (.iload_n 2, 1) := by decide +kernel
theorem dX12_failed_24 : decode cX12_failed 24 = .ok (.iconst (-1), 1) := by decide +kernel
theorem dX12_failed_25 : decode cX12_failed 25 = .ok (.invokevirtual 334, 3) := by decide +kernel
theorem dX12_failed_28 : decode cX12_failed 28 = .ok (.aload_n 0, 1) := by decide +kernel
theorem dX12_failed_29 : decode cX12_failed 29 = .ok (.iload_n 1, 1) := by decide +kernel
theorem dX12_failed_30 : decode cX12_failed 30 = .ok (.iload_n 2, 1) := by decide +kernel
theorem dX12_failed_31 : decode cX12_failed 31 = .ok (.invokevirtual 263, 3) := by decide +kernel
theorem dX12_failed_34 : decode cX12_failed 34 = .ok (.iload_n 3, 1) := by decide +kernel
theorem dX12_failed_35 : decode cX12_failed 35 = .ok (.ireturn, 1) := by decide +kernel
def fX12_failed (a0 : Nat) (a1 : Int) (a2 : Int) (G : Hp) : RT := bp (fX12_isIn a0 a1 a2 G) fun v1 => if v1 = 0 then (rt ((-1)) G) else (bp (fX12_heldSet a0 a1 a2 G) fun v2 => bp (fX12_manyOf v2 G) fun v3 => bd v3 fun v4 => bn (fX12_giveAll a0 a1 a2 ((-1)) G) fun _ G5 => bn (fX12_goesOut a0 a1 a2 G5) fun _ G6 => rt v4 G6)
set_option maxRecDepth 20000 in
set_option maxHeartbeats 4000000 in
theorem tX12_failed (l : Launch) (x : WX) (hi : Inj x.2.2) (G : Hp) (a0 : Nat) (a1 : Int) (a2 : Int) (ha0 : kd a0 = 12) : Ct l x yX12_failed cX12_failed 4 (some .int) 2 129 129 [vR a0, vI a1, vI a2] G (fX12_failed a0 a1 a2 G) := by
  refine ct_of (plainFor_of_name (by decide)) hi (Nat.le_refl _) (Nat.le_refl _) (Nat.le_of_ble_eq_true rfl) (fun cx F hd hn0 hnE hl hQ => ?_)
  subst hl
  have F : Fx cx x RX12 cX12_failed 4 (some .int) := F
  show Y cx x 4 (some .int) 129 0 [(0, vR a0), (1, vI a1), (2, vI a2)] [] G _
  unfold fX12_failed
  refine x_aload_n F dX12_failed_0 rfl rfl rfl ?_
  refine x_iload_n F dX12_failed_1 rfl rfl rfl ?_
  refine x_iload_n F dX12_failed_2 rfl rfl rfl ?_
  refine s_callVP F [vI a1, vI a2] [] lkX12_278 mX12_isIn rfl ha0 rfl hnE hn0 hd pX12_isIn (tX12_isIn cx.l x hi G a0 a1 a2 ha0) rfl rfl dX12_failed_3 rfl rfl (fun v1 => ?_)
  refine x_ifne (pt := 11) F dX12_failed_6 rfl rfl ?_ ?_
  · refine x_iconst F dX12_failed_9 ⟨by decide, by decide⟩ rfl ?_
    exact x_iret F hnE hQ dX12_failed_10
  · refine x_aload_n F dX12_failed_11 rfl rfl rfl ?_
    refine x_iload_n F dX12_failed_12 rfl rfl rfl ?_
    refine x_iload_n F dX12_failed_13 rfl rfl rfl ?_
    refine s_callVP F [vI a1, vI a2] [] lkX12_337 mX12_heldSet rfl ha0 rfl hnE hn0 hd pX12_heldSet (tX12_heldSet cx.l x hi G a0 a1 a2 ha0) rfl rfl dX12_failed_14 rfl rfl (fun v2 => ?_)
    refine s_callSP F [vI v2] [] lkX12_340 mX12_manyOf hnE hn0 hd pX12_manyOf (tX12_manyOf cx.l x hi G v2) rfl rfl dX12_failed_17 rfl rfl (fun v3 => ?_)
    refine x_istore_n F dX12_failed_20 rfl (by decide) rfl rfl (fun v4 => ?_)
    show Y cx x _ _ _ _ [(0, vR a0), (1, vI a1), (2, vI a2), (3, vI v4)] _ _ _
    refine x_aload_n F dX12_failed_21 rfl rfl rfl ?_
    refine x_iload_n F dX12_failed_22 rfl rfl rfl ?_
    refine x_iload_n F dX12_failed_23 rfl rfl rfl ?_
    refine x_iconst F dX12_failed_24 ⟨by decide, by decide⟩ rfl ?_
    refine s_callVv F [vI a1, vI a2, vI ((-1))] [] lkX12_334 mX12_giveAll rfl ha0 rfl hnE hn0 hd (tX12_giveAll cx.l x hi G a0 a1 a2 ((-1)) ha0) rfl rfl dX12_failed_25 rfl rfl (fun _ G5 => ?_)
    refine x_aload_n F dX12_failed_28 rfl rfl rfl ?_
    refine x_iload_n F dX12_failed_29 rfl rfl rfl ?_
    refine x_iload_n F dX12_failed_30 rfl rfl rfl ?_
    refine s_callVv F [vI a1, vI a2] [] lkX12_263 mX12_goesOut rfl ha0 rfl hnE hn0 hd (tX12_goesOut cx.l x hi G5 a0 a1 a2 ha0) rfl rfl dX12_failed_31 rfl rfl (fun _ G6 => ?_)
    refine x_iload_n F dX12_failed_34 rfl rfl rfl ?_
    exact x_iret F hnE hQ dX12_failed_35
theorem dX12_done_0 : decode cX12_done 0 = .ok (.iload_n 1, 1) := by decide +kernel
theorem dX12_done_1 : decode cX12_done 1 = .ok (.ifCond .lt 7, 3) := by decide +kernel
theorem dX12_done_4 : decode cX12_done 4 = .ok (.aload_n 0, 1) := by decide +kernel
theorem dX12_done_5 : decode cX12_done 5 = .ok (.invokevirtual 389, 3) := by decide +kernel
theorem dX12_done_8 : decode cX12_done 8 = .ok (.iload_n 1, 1) := by decide +kernel
theorem dX12_done_9 : decode cX12_done 9 = .ok (.ireturn, 1) := by decide +kernel
def fX12_done (a0 : Nat) (a1 : Int) (G : Hp) : RT := if a1 < 0 then rt a1 G else (bn (fX12_keeps a0 G) fun _ G1 => rt a1 G1)
set_option maxRecDepth 20000 in
set_option maxHeartbeats 4000000 in
theorem tX12_done (l : Launch) (x : WX) (hi : Inj x.2.2) (G : Hp) (a0 : Nat) (a1 : Int) (ha0 : kd a0 = 12) : Ct l x yX12_done cX12_done 2 (some .int) 2 129 129 [vR a0, vI a1] G (fX12_done a0 a1 G) := by
  refine ct_of (plainFor_of_name (by decide)) hi (Nat.le_refl _) (Nat.le_refl _) (Nat.le_of_ble_eq_true rfl) (fun cx F hd hn0 hnE hl hQ => ?_)
  subst hl
  have F : Fx cx x RX12 cX12_done 2 (some .int) := F
  show Y cx x 2 (some .int) 129 0 [(0, vR a0), (1, vI a1)] [] G _
  unfold fX12_done
  refine x_iload_n F dX12_done_0 rfl rfl rfl ?_
  refine x_iflt (pt := 8) F dX12_done_1 rfl rfl ?_ ?_
  · refine x_iload_n F dX12_done_8 rfl rfl rfl ?_
    exact x_iret F hnE hQ dX12_done_9
  · refine x_aload_n F dX12_done_4 rfl rfl rfl ?_
    refine s_callVv F [] [] lkX12_389 mX12_keeps rfl ha0 rfl hnE hn0 hd (tX12_keeps cx.l x hi G a0 ha0) rfl rfl dX12_done_5 rfl rfl (fun _ G1 => ?_)
    refine x_iload_n F dX12_done_8 rfl rfl rfl ?_
    exact x_iret F hnE hQ dX12_done_9
theorem dX12_node_0 : decode cX12_node 0 = .ok (.aload_n 0, 1) := by decide +kernel
theorem dX12_node_1 : decode cX12_node 1 = .ok (.iconst 0, 1) := by decide +kernel
theorem dX12_node_2 : decode cX12_node 2 = .ok (.putfield 1, 3) := by decide +kernel
theorem dX12_node_5 : decode cX12_node 5 = .ok (.aload_n 0, 1) := by decide +kernel
theorem dX12_node_6 : decode cX12_node 6 = .ok (.iload_n 1, 1) := by decide +kernel
theorem dX12_node_7 : decode cX12_node 7 = .ok (.invokevirtual 386, 3) := by decide +kernel
theorem dX12_node_10 : decode cX12_node 10 = .ok (.ifCond .ne 6, 3) := by decide +kernel
theorem dX12_node_13 : decode cX12_node 13 = .ok (.bipush (-2), 2) := by decide +kernel
theorem dX12_node_15 : decode cX12_node 15 = .ok (.ireturn, 1) := by decide +kernel
theorem dX12_node_16 : decode cX12_node 16 = .ok (.iload_n 2, 1) := by decide +kernel
theorem dX12_node_17 : decode cX12_node 17 = .ok (.tableswitch 87 0 5 #[39, 45, 51, 66, 73, 80], 39) := by decide +kernel
theorem dX12_node_56 : decode cX12_node 56 = .ok (.aload_n 0, 1) := by decide +kernel
theorem dX12_node_57 : decode cX12_node 57 = .ok (.iload_n 1, 1) := by decide +kernel
theorem dX12_node_58 : decode cX12_node 58 = .ok (.invokevirtual 319, 3) := by decide +kernel
theorem dX12_node_61 : decode cX12_node 61 = .ok (.ireturn, 1) := by decide +kernel
theorem dX12_node_62 : decode cX12_node 62 = .ok (.aload_n 0, 1) := by decide +kernel
theorem dX12_node_63 : decode cX12_node 63 = .ok (.iload_n 1, 1) := by decide +kernel
theorem dX12_node_64 : decode cX12_node 64 = .ok (.invokevirtual 282, 3) := by decide +kernel
theorem dX12_node_67 : decode cX12_node 67 = .ok (.ireturn, 1) := by decide +kernel
theorem dX12_node_68 : decode cX12_node 68 = .ok (.aload_n 0, 1) := by decide +kernel
theorem dX12_node_69 : decode cX12_node 69 = .ok (.iconst 0, 1) := by decide +kernel
theorem dX12_node_70 : decode cX12_node 70 = .ok (.iload_n 1, 1) := by decide +kernel
theorem dX12_node_71 : decode cX12_node 71 = .ok (.invokevirtual 278, 3) := by decide +kernel
theorem dX12_node_74 : decode cX12_node 74 = .ok (.ifCond .eq 7, 3) := by decide +kernel
theorem dX12_node_77 : decode cX12_node 77 = .ok (.iconst 1, 1) := by decide +kernel
theorem dX12_node_78 : decode cX12_node 78 = .ok (.goto 4, 3) := by decide +kernel
theorem dX12_node_81 : decode cX12_node 81 = .ok (.iconst 0, 1) := by decide +kernel
theorem dX12_node_82 : decode cX12_node 82 = .ok (.ireturn, 1) := by decide +kernel
theorem dX12_node_83 : decode cX12_node 83 = .ok (.aload_n 0, 1) := by decide +kernel
theorem dX12_node_84 : decode cX12_node 84 = .ok (.iconst 0, 1) := by decide +kernel
theorem dX12_node_85 : decode cX12_node 85 = .ok (.iload_n 1, 1) := by decide +kernel
theorem dX12_node_86 : decode cX12_node 86 = .ok (.invokevirtual 343, 3) := by decide +kernel
theorem dX12_node_89 : decode cX12_node 89 = .ok (.ireturn, 1) := by decide +kernel
theorem dX12_node_90 : decode cX12_node 90 = .ok (.aload_n 0, 1) := by decide +kernel
theorem dX12_node_91 : decode cX12_node 91 = .ok (.iconst 0, 1) := by decide +kernel
theorem dX12_node_92 : decode cX12_node 92 = .ok (.iload_n 1, 1) := by decide +kernel
theorem dX12_node_93 : decode cX12_node 93 = .ok (.invokevirtual 310, 3) := by decide +kernel
theorem dX12_node_96 : decode cX12_node 96 = .ok (.ireturn, 1) := by decide +kernel
theorem dX12_node_97 : decode cX12_node 97 = .ok (.aload_n 0, 1) := by decide +kernel
theorem dX12_node_98 : decode cX12_node 98 = .ok (.iconst 0, 1) := by decide +kernel
theorem dX12_node_99 : decode cX12_node 99 = .ok (.iload_n 1, 1) := by decide +kernel
theorem dX12_node_100 : decode cX12_node 100 = .ok (.invokevirtual 337, 3) := by decide +kernel
theorem dX12_node_103 : decode cX12_node 103 = .ok (.ireturn, 1) := by decide +kernel
theorem dX12_node_104 : decode cX12_node 104 = .ok (.bipush (-2), 2) := by decide +kernel
theorem dX12_node_106 : decode cX12_node 106 = .ok (.ireturn, 1) := by decide +kernel
def fX12_node (a0 : Nat) (a1 : Int) (a2 : Int) (G : Hp) : RT := bh (up G a0 0 0) fun G1 => bp (fX12_isNode a0 a1 G1) fun v2 => if v2 = 0 then (rt ((-2)) G1) else (if a2 = 0 then (bp (fX12_kindOf a0 a1 G1) fun v4 => rt v4 G1) else (if a2 = 1 then (bp (fX12_placeOf a0 a1 G1) fun v6 => rt v6 G1) else (if a2 = 2 then (bp (fX12_isIn a0 0 a1 G1) fun v8 => if v8 = 0 then rt 0 G1 else rt 1 G1) else (if a2 = 3 then (bp (fX12_aheadOf a0 0 a1 G1) fun v10 => rt v10 G1) else (if a2 = 4 then (bp (fX12_firstOf a0 0 a1 G1) fun v12 => rt v12 G1) else (if a2 = 5 then (bp (fX12_heldSet a0 0 a1 G1) fun v14 => rt v14 G1) else (rt ((-2)) G1)))))))
set_option maxRecDepth 20000 in
set_option maxHeartbeats 4000000 in
theorem tX12_node (l : Launch) (x : WX) (hi : Inj x.2.2) (G : Hp) (a0 : Nat) (a1 : Int) (a2 : Int) (ha0 : kd a0 = 12) : Ct l x yX12_node cX12_node 3 (some .int) 2 129 129 [vR a0, vI a1, vI a2] G (fX12_node a0 a1 a2 G) := by
  refine ct_of (plainFor_of_name (by decide)) hi (Nat.le_refl _) (Nat.le_refl _) (Nat.le_of_ble_eq_true rfl) (fun cx F hd hn0 hnE hl hQ => ?_)
  subst hl
  have F : Fx cx x RX12 cX12_node 3 (some .int) := F
  show Y cx x 3 (some .int) 129 0 [(0, vR a0), (1, vI a1), (2, vI a2)] [] G _
  unfold fX12_node
  refine x_aload_n F dX12_node_0 rfl rfl rfl ?_
  refine x_iconst F dX12_node_1 ⟨by decide, by decide⟩ rfl ?_
  refine s_putI F fpX12_1 ha0 rfl dX12_node_2 rfl (fun G1 => ?_)
  refine x_aload_n F dX12_node_5 rfl rfl rfl ?_
  refine x_iload_n F dX12_node_6 rfl rfl rfl ?_
  refine s_callVP F [vI a1] [] lkX12_386 mX12_isNode rfl ha0 rfl hnE hn0 hd pX12_isNode (tX12_isNode cx.l x hi G1 a0 a1 ha0) rfl rfl dX12_node_7 rfl rfl (fun v2 => ?_)
  refine x_ifne (pt := 16) F dX12_node_10 rfl rfl ?_ ?_
  · refine x_bipush F dX12_node_13 ⟨by decide, by decide⟩ (by decide) rfl ?_
    exact x_iret F hnE hQ dX12_node_15
  · refine x_iload_n F dX12_node_16 rfl rfl rfl ?_
    refine x_ite (fun h3 => ?_) (fun h3 => ?_)
    · refine x_tabIn (off := 39) (pc' := 56) F dX12_node_17 (by omega) (by omega) (by rw [h3]; rfl) rfl ?_
      refine x_aload_n F dX12_node_56 rfl rfl rfl ?_
      refine x_iload_n F dX12_node_57 rfl rfl rfl ?_
      refine s_callVP F [vI a1] [] lkX12_319 mX12_kindOf rfl ha0 rfl hnE hn0 hd pX12_kindOf (tX12_kindOf cx.l x hi G1 a0 a1 ha0) rfl rfl dX12_node_58 rfl rfl (fun v4 => ?_)
      exact x_iret F hnE hQ dX12_node_61
    · refine x_ite (fun h5 => ?_) (fun h5 => ?_)
      · refine x_tabIn (off := 45) (pc' := 62) F dX12_node_17 (by omega) (by omega) (by rw [h5]; rfl) rfl ?_
        refine x_aload_n F dX12_node_62 rfl rfl rfl ?_
        refine x_iload_n F dX12_node_63 rfl rfl rfl ?_
        refine s_callVP F [vI a1] [] lkX12_282 mX12_placeOf rfl ha0 rfl hnE hn0 hd pX12_placeOf (tX12_placeOf cx.l x hi G1 a0 a1 ha0) rfl rfl dX12_node_64 rfl rfl (fun v6 => ?_)
        exact x_iret F hnE hQ dX12_node_67
      · refine x_ite (fun h7 => ?_) (fun h7 => ?_)
        · refine x_tabIn (off := 51) (pc' := 68) F dX12_node_17 (by omega) (by omega) (by rw [h7]; rfl) rfl ?_
          refine x_aload_n F dX12_node_68 rfl rfl rfl ?_
          refine x_iconst F dX12_node_69 ⟨by decide, by decide⟩ rfl ?_
          refine x_iload_n F dX12_node_70 rfl rfl rfl ?_
          refine s_callVP F [vI 0, vI a1] [] lkX12_278 mX12_isIn rfl ha0 rfl hnE hn0 hd pX12_isIn (tX12_isIn cx.l x hi G1 a0 0 a1 ha0) rfl rfl dX12_node_71 rfl rfl (fun v8 => ?_)
          refine x_ifeq (pt := 81) F dX12_node_74 rfl rfl ?_ ?_
          · refine x_iconst F dX12_node_81 ⟨by decide, by decide⟩ rfl ?_
            exact x_iret F hnE hQ dX12_node_82
          · refine x_iconst F dX12_node_77 ⟨by decide, by decide⟩ rfl ?_
            refine x_goto (pc' := 82) F dX12_node_78 rfl ?_
            exact x_iret F hnE hQ dX12_node_82
        · refine x_ite (fun h9 => ?_) (fun h9 => ?_)
          · refine x_tabIn (off := 66) (pc' := 83) F dX12_node_17 (by omega) (by omega) (by rw [h9]; rfl) rfl ?_
            refine x_aload_n F dX12_node_83 rfl rfl rfl ?_
            refine x_iconst F dX12_node_84 ⟨by decide, by decide⟩ rfl ?_
            refine x_iload_n F dX12_node_85 rfl rfl rfl ?_
            refine s_callVP F [vI 0, vI a1] [] lkX12_343 mX12_aheadOf rfl ha0 rfl hnE hn0 hd pX12_aheadOf (tX12_aheadOf cx.l x hi G1 a0 0 a1 ha0) rfl rfl dX12_node_86 rfl rfl (fun v10 => ?_)
            exact x_iret F hnE hQ dX12_node_89
          · refine x_ite (fun h11 => ?_) (fun h11 => ?_)
            · refine x_tabIn (off := 73) (pc' := 90) F dX12_node_17 (by omega) (by omega) (by rw [h11]; rfl) rfl ?_
              refine x_aload_n F dX12_node_90 rfl rfl rfl ?_
              refine x_iconst F dX12_node_91 ⟨by decide, by decide⟩ rfl ?_
              refine x_iload_n F dX12_node_92 rfl rfl rfl ?_
              refine s_callVP F [vI 0, vI a1] [] lkX12_310 mX12_firstOf rfl ha0 rfl hnE hn0 hd pX12_firstOf (tX12_firstOf cx.l x hi G1 a0 0 a1 ha0) rfl rfl dX12_node_93 rfl rfl (fun v12 => ?_)
              exact x_iret F hnE hQ dX12_node_96
            · refine x_ite (fun h13 => ?_) (fun h13 => ?_)
              · refine x_tabIn (off := 80) (pc' := 97) F dX12_node_17 (by omega) (by omega) (by rw [h13]; rfl) rfl ?_
                refine x_aload_n F dX12_node_97 rfl rfl rfl ?_
                refine x_iconst F dX12_node_98 ⟨by decide, by decide⟩ rfl ?_
                refine x_iload_n F dX12_node_99 rfl rfl rfl ?_
                refine s_callVP F [vI 0, vI a1] [] lkX12_337 mX12_heldSet rfl ha0 rfl hnE hn0 hd pX12_heldSet (tX12_heldSet cx.l x hi G1 a0 0 a1 ha0) rfl rfl dX12_node_100 rfl rfl (fun v14 => ?_)
                exact x_iret F hnE hQ dX12_node_103
              · refine x_tabOut (pc' := 104) F dX12_node_17 (by omega) rfl ?_
                refine x_bipush F dX12_node_104 ⟨by decide, by decide⟩ (by decide) rfl ?_
                exact x_iret F hnE hQ dX12_node_106
theorem dX12_listed_0 : decode cX12_listed 0 = .ok (.aload_n 0, 1) := by decide +kernel
theorem dX12_listed_1 : decode cX12_listed 1 = .ok (.iconst 0, 1) := by decide +kernel
theorem dX12_listed_2 : decode cX12_listed 2 = .ok (.putfield 1, 3) := by decide +kernel
theorem dX12_listed_5 : decode cX12_listed 5 = .ok (.aload_n 0, 1) := by decide +kernel
theorem dX12_listed_6 : decode cX12_listed 6 = .ok (.iload_n 1, 1) := by decide +kernel
theorem dX12_listed_7 : decode cX12_listed 7 = .ok (.invokevirtual 386, 3) := by decide +kernel
theorem dX12_listed_10 : decode cX12_listed 10 = .ok (.ifCond .eq 27, 3) := by decide +kernel
theorem dX12_listed_13 : decode cX12_listed 13 = .ok (.iload_n 2, 1) := by decide +kernel
theorem dX12_listed_14 : decode cX12_listed 14 = .ok (.ifCond .lt 23, 3) := by decide +kernel
theorem dX12_listed_17 : decode cX12_listed 17 = .ok (.iload_n 2, 1) := by decide +kernel
theorem dX12_listed_18 : decode cX12_listed 18 = .ok (.aload_n 0, 1) := by decide +kernel
theorem dX12_listed_19 : decode cX12_listed 19 = .ok (.iconst 0, 1) := by decide +kernel
theorem dX12_listed_20 : decode cX12_listed 20 = .ok (.iload_n 1, 1) := by decide +kernel
theorem dX12_listed_21 : decode cX12_listed 21 = .ok (.invokevirtual 291, 3) := by decide +kernel
theorem dX12_listed_24 : decode cX12_listed 24 = .ok (.if_icmp .ge 13, 3) := by decide +kernel
theorem dX12_listed_27 : decode cX12_listed 27 = .ok (.aload_n 0, 1) := by decide +kernel
theorem dX12_listed_28 : decode cX12_listed 28 = .ok (.iconst 0, 1) := by decide +kernel
theorem dX12_listed_29 : decode cX12_listed 29 = .ok (.iload_n 1, 1) := by decide +kernel
theorem dX12_listed_30 : decode cX12_listed 30 = .ok (.iload_n 2, 1) := by decide +kernel
theorem dX12_listed_31 : decode cX12_listed 31 = .ok (.invokevirtual 294, 3) := by decide +kernel
theorem dX12_listed_34 : decode cX12_listed 34 = .ok (.goto 4, 3) := by decide +kernel
theorem dX12_listed_37 : decode cX12_listed 37 = .ok (.iconst (-1), 1) := by decide +kernel
theorem dX12_listed_38 : decode cX12_listed 38 = .ok (.ireturn, 1) := by decide +kernel
def fX12_listed (a0 : Nat) (a1 : Int) (a2 : Int) (G : Hp) : RT := bh (up G a0 0 0) fun G1 => bp (fX12_isNode a0 a1 G1) fun v2 => if v2 = 0 then (rt ((-1)) G1) else (if a2 < 0 then (rt ((-1)) G1) else (bp (fX12_longOf a0 0 a1 G1) fun v3 => if a2 < v3 then (bp (fX12_listedOf a0 0 a1 a2 G1) fun v4 => rt v4 G1) else (rt ((-1)) G1)))
set_option maxRecDepth 20000 in
set_option maxHeartbeats 4000000 in
theorem tX12_listed (l : Launch) (x : WX) (hi : Inj x.2.2) (G : Hp) (a0 : Nat) (a1 : Int) (a2 : Int) (ha0 : kd a0 = 12) : Ct l x yX12_listed cX12_listed 3 (some .int) 2 129 129 [vR a0, vI a1, vI a2] G (fX12_listed a0 a1 a2 G) := by
  refine ct_of (plainFor_of_name (by decide)) hi (Nat.le_refl _) (Nat.le_refl _) (Nat.le_of_ble_eq_true rfl) (fun cx F hd hn0 hnE hl hQ => ?_)
  subst hl
  have F : Fx cx x RX12 cX12_listed 3 (some .int) := F
  show Y cx x 3 (some .int) 129 0 [(0, vR a0), (1, vI a1), (2, vI a2)] [] G _
  unfold fX12_listed
  refine x_aload_n F dX12_listed_0 rfl rfl rfl ?_
  refine x_iconst F dX12_listed_1 ⟨by decide, by decide⟩ rfl ?_
  refine s_putI F fpX12_1 ha0 rfl dX12_listed_2 rfl (fun G1 => ?_)
  refine x_aload_n F dX12_listed_5 rfl rfl rfl ?_
  refine x_iload_n F dX12_listed_6 rfl rfl rfl ?_
  refine s_callVP F [vI a1] [] lkX12_386 mX12_isNode rfl ha0 rfl hnE hn0 hd pX12_isNode (tX12_isNode cx.l x hi G1 a0 a1 ha0) rfl rfl dX12_listed_7 rfl rfl (fun v2 => ?_)
  refine x_ifeq (pt := 37) F dX12_listed_10 rfl rfl ?_ ?_
  · refine x_iconst F dX12_listed_37 ⟨by decide, by decide⟩ rfl ?_
    exact x_iret F hnE hQ dX12_listed_38
  · refine x_iload_n F dX12_listed_13 rfl rfl rfl ?_
    refine x_iflt (pt := 37) F dX12_listed_14 rfl rfl ?_ ?_
    · refine x_iconst F dX12_listed_37 ⟨by decide, by decide⟩ rfl ?_
      exact x_iret F hnE hQ dX12_listed_38
    · refine x_iload_n F dX12_listed_17 rfl rfl rfl ?_
      refine x_aload_n F dX12_listed_18 rfl rfl rfl ?_
      refine x_iconst F dX12_listed_19 ⟨by decide, by decide⟩ rfl ?_
      refine x_iload_n F dX12_listed_20 rfl rfl rfl ?_
      refine s_callVP F [vI 0, vI a1] [vI a2] lkX12_291 mX12_longOf rfl ha0 rfl hnE hn0 hd pX12_longOf (tX12_longOf cx.l x hi G1 a0 0 a1 ha0) rfl rfl dX12_listed_21 rfl rfl (fun v3 => ?_)
      refine x_icmpge (pt := 37) F dX12_listed_24 rfl rfl ?_ ?_
      · refine x_aload_n F dX12_listed_27 rfl rfl rfl ?_
        refine x_iconst F dX12_listed_28 ⟨by decide, by decide⟩ rfl ?_
        refine x_iload_n F dX12_listed_29 rfl rfl rfl ?_
        refine x_iload_n F dX12_listed_30 rfl rfl rfl ?_
        refine s_callVP F [vI 0, vI a1, vI a2] [] lkX12_294 mX12_listedOf rfl ha0 rfl hnE hn0 hd pX12_listedOf (tX12_listedOf cx.l x hi G1 a0 0 a1 a2 ha0) rfl rfl dX12_listed_31 rfl rfl (fun v4 => ?_)
        refine x_goto (pc' := 38) F dX12_listed_34 rfl ?_
        exact x_iret F hnE hQ dX12_listed_38
      · refine x_iconst F dX12_listed_37 ⟨by decide, by decide⟩ rfl ?_
        exact x_iret F hnE hQ dX12_listed_38
theorem dX12_finger_0 : decode cX12_finger 0 = .ok (.aload_n 0, 1) := by decide +kernel
theorem dX12_finger_1 : decode cX12_finger 1 = .ok (.iconst 0, 1) := by decide +kernel
theorem dX12_finger_2 : decode cX12_finger 2 = .ok (.putfield 1, 3) := by decide +kernel
theorem dX12_finger_5 : decode cX12_finger 5 = .ok (.aload_n 0, 1) := by decide +kernel
theorem dX12_finger_6 : decode cX12_finger 6 = .ok (.iload_n 1, 1) := by decide +kernel
theorem dX12_finger_7 : decode cX12_finger 7 = .ok (.invokevirtual 386, 3) := by decide +kernel
theorem dX12_finger_10 : decode cX12_finger 10 = .ok (.ifCond .eq 23, 3) := by decide +kernel
theorem dX12_finger_13 : decode cX12_finger 13 = .ok (.iload_n 2, 1) := by decide +kernel
theorem dX12_finger_14 : decode cX12_finger 14 = .ok (.iconst 0, 1) := by decide +kernel
theorem dX12_finger_15 : decode cX12_finger 15 = .ok (.bipush 7, 2) := by decide +kernel
theorem dX12_finger_17 : decode cX12_finger 17 = .ok (.invokestatic 401, 3) := by decide +kernel
theorem dX12_finger_20 : decode cX12_finger 20 = .ok (.ifCond .eq 13, 3) := by decide +kernel
theorem dX12_finger_23 : decode cX12_finger 23 = .ok (.aload_n 0, 1) := by decide +kernel
theorem dX12_finger_24 : decode cX12_finger 24 = .ok (.iconst 0, 1) := by decide +kernel
theorem dX12_finger_25 : decode cX12_finger 25 = .ok (.iload_n 1, 1) := by decide +kernel
theorem dX12_finger_26 : decode cX12_finger 26 = .ok (.iload_n 2, 1) := by decide +kernel
theorem dX12_finger_27 : decode cX12_finger 27 = .ok (.invokevirtual 304, 3) := by decide +kernel
theorem dX12_finger_30 : decode cX12_finger 30 = .ok (.goto 4, 3) := by decide +kernel
theorem dX12_finger_33 : decode cX12_finger 33 = .ok (.iconst (-1), 1) := by decide +kernel
theorem dX12_finger_34 : decode cX12_finger 34 = .ok (.ireturn, 1) := by decide +kernel
def fX12_finger (a0 : Nat) (a1 : Int) (a2 : Int) (G : Hp) : RT := bh (up G a0 0 0) fun G1 => bp (fX12_isNode a0 a1 G1) fun v2 => if v2 = 0 then (rt ((-1)) G1) else (bp (fX12_within a2 0 7 G1) fun v3 => if v3 = 0 then (rt ((-1)) G1) else (bp (fX12_fingerOf a0 0 a1 a2 G1) fun v4 => rt v4 G1))
set_option maxRecDepth 20000 in
set_option maxHeartbeats 4000000 in
theorem tX12_finger (l : Launch) (x : WX) (hi : Inj x.2.2) (G : Hp) (a0 : Nat) (a1 : Int) (a2 : Int) (ha0 : kd a0 = 12) : Ct l x yX12_finger cX12_finger 3 (some .int) 2 129 129 [vR a0, vI a1, vI a2] G (fX12_finger a0 a1 a2 G) := by
  refine ct_of (plainFor_of_name (by decide)) hi (Nat.le_refl _) (Nat.le_refl _) (Nat.le_of_ble_eq_true rfl) (fun cx F hd hn0 hnE hl hQ => ?_)
  subst hl
  have F : Fx cx x RX12 cX12_finger 3 (some .int) := F
  show Y cx x 3 (some .int) 129 0 [(0, vR a0), (1, vI a1), (2, vI a2)] [] G _
  unfold fX12_finger
  refine x_aload_n F dX12_finger_0 rfl rfl rfl ?_
  refine x_iconst F dX12_finger_1 ⟨by decide, by decide⟩ rfl ?_
  refine s_putI F fpX12_1 ha0 rfl dX12_finger_2 rfl (fun G1 => ?_)
  refine x_aload_n F dX12_finger_5 rfl rfl rfl ?_
  refine x_iload_n F dX12_finger_6 rfl rfl rfl ?_
  refine s_callVP F [vI a1] [] lkX12_386 mX12_isNode rfl ha0 rfl hnE hn0 hd pX12_isNode (tX12_isNode cx.l x hi G1 a0 a1 ha0) rfl rfl dX12_finger_7 rfl rfl (fun v2 => ?_)
  refine x_ifeq (pt := 33) F dX12_finger_10 rfl rfl ?_ ?_
  · refine x_iconst F dX12_finger_33 ⟨by decide, by decide⟩ rfl ?_
    exact x_iret F hnE hQ dX12_finger_34
  · refine x_iload_n F dX12_finger_13 rfl rfl rfl ?_
    refine x_iconst F dX12_finger_14 ⟨by decide, by decide⟩ rfl ?_
    refine x_bipush F dX12_finger_15 ⟨by decide, by decide⟩ (by decide) rfl ?_
    refine s_callSP F [vI a2, vI 0, vI 7] [] lkX12_401 mX12_within hnE hn0 hd pX12_within (tX12_within cx.l x hi G1 a2 0 7) rfl rfl dX12_finger_17 rfl rfl (fun v3 => ?_)
    refine x_ifeq (pt := 33) F dX12_finger_20 rfl rfl ?_ ?_
    · refine x_iconst F dX12_finger_33 ⟨by decide, by decide⟩ rfl ?_
      exact x_iret F hnE hQ dX12_finger_34
    · refine x_aload_n F dX12_finger_23 rfl rfl rfl ?_
      refine x_iconst F dX12_finger_24 ⟨by decide, by decide⟩ rfl ?_
      refine x_iload_n F dX12_finger_25 rfl rfl rfl ?_
      refine x_iload_n F dX12_finger_26 rfl rfl rfl ?_
      refine s_callVP F [vI 0, vI a1, vI a2] [] lkX12_304 mX12_fingerOf rfl ha0 rfl hnE hn0 hd pX12_fingerOf (tX12_fingerOf cx.l x hi G1 a0 0 a1 a2 ha0) rfl rfl dX12_finger_27 rfl rfl (fun v4 => ?_)
      refine x_goto (pc' := 34) F dX12_finger_30 rfl ?_
      exact x_iret F hnE hQ dX12_finger_34
theorem dX12_canFind_0 : decode cX12_canFind 0 = .ok (.aload_n 0, 1) := by decide +kernel
theorem dX12_canFind_1 : decode cX12_canFind 1 = .ok (.iload_n 1, 1) := by decide +kernel
theorem dX12_canFind_2 : decode cX12_canFind 2 = .ok (.invokevirtual 386, 3) := by decide +kernel
theorem dX12_canFind_5 : decode cX12_canFind 5 = .ok (.ifCond .eq 24, 3) := by decide +kernel
theorem dX12_canFind_8 : decode cX12_canFind 8 = .ok (.aload_n 0, 1) := by decide +kernel
theorem dX12_canFind_9 : decode cX12_canFind 9 = .ok (.iload_n 2, 1) := by decide +kernel
theorem dX12_canFind_10 : decode cX12_canFind 10 = .ok (.invokevirtual 417, 3) := by decide +kernel
theorem dX12_canFind_13 : decode cX12_canFind 13 = .ok (.ifCond .eq 16, 3) := by decide +kernel
theorem dX12_canFind_16 : decode cX12_canFind 16 = .ok (.aload_n 0, 1) := by decide +kernel
theorem dX12_canFind_17 : decode cX12_canFind 17 = .ok (.iconst 0, 1) := by decide +kernel
theorem dX12_canFind_18 : decode cX12_canFind 18 = .ok (.iload_n 1, 1) := by decide +kernel
theorem dX12_canFind_19 : decode cX12_canFind 19 = .ok (.invokevirtual 278, 3) := by decide +kernel
theorem dX12_canFind_22 : decode cX12_canFind 22 = .ok (.ifCond .eq 7, 3) := by decide +kernel
theorem dX12_canFind_25 : decode cX12_canFind 25 = .ok (.iconst 1, 1) := by decide +kernel
theorem dX12_canFind_26 : decode cX12_canFind 26 = .ok (.goto 4, 3) := by decide +kernel
theorem dX12_canFind_29 : decode cX12_canFind 29 = .ok (.iconst 0, 1) := by decide +kernel
theorem dX12_canFind_30 : decode cX12_canFind 30 = .ok (.ireturn, 1) := by decide +kernel
def fX12_canFind (a0 : Nat) (a1 : Int) (a2 : Int) (G : Hp) : RT := bp (fX12_isNode a0 a1 G) fun v1 => if v1 = 0 then rz 0 G else (bp (fX12_isPlace a0 a2 G) fun v2 => if v2 = 0 then rz 0 G else (bp (fX12_isIn a0 0 a1 G) fun v3 => if v3 = 0 then rz 0 G else rz 1 G))
theorem pX12_canFind {G : Hp} {a0 : Nat} {a1 : Int} {a2 : Int} : PU G (fX12_canFind a0 a1 a2 G) := by
  unfold fX12_canFind
  refine PU_bp (fun v1 => ?_)
  refine PU_ite ?_ ?_
  · exact PU_rz
  · refine PU_bp (fun v2 => ?_)
    refine PU_ite ?_ ?_
    · exact PU_rz
    · refine PU_bp (fun v3 => ?_)
      refine PU_ite ?_ ?_
      · exact PU_rz
      · exact PU_rz
set_option maxRecDepth 20000 in
set_option maxHeartbeats 4000000 in
theorem tX12_canFind (l : Launch) (x : WX) (hi : Inj x.2.2) (G : Hp) (a0 : Nat) (a1 : Int) (a2 : Int) (ha0 : kd a0 = 12) : Ct l x yX12_canFind cX12_canFind 3 (some .boolean) 2 129 129 [vR a0, vI a1, vI a2] G (fX12_canFind a0 a1 a2 G) := by
  refine ct_of (plainFor_of_name (by decide)) hi (Nat.le_refl _) (Nat.le_refl _) (Nat.le_of_ble_eq_true rfl) (fun cx F hd hn0 hnE hl hQ => ?_)
  subst hl
  have F : Fx cx x RX12 cX12_canFind 3 (some .boolean) := F
  show Y cx x 3 (some .boolean) 129 0 [(0, vR a0), (1, vI a1), (2, vI a2)] [] G _
  unfold fX12_canFind
  refine x_aload_n F dX12_canFind_0 rfl rfl rfl ?_
  refine x_iload_n F dX12_canFind_1 rfl rfl rfl ?_
  refine s_callVP F [vI a1] [] lkX12_386 mX12_isNode rfl ha0 rfl hnE hn0 hd pX12_isNode (tX12_isNode cx.l x hi G a0 a1 ha0) rfl rfl dX12_canFind_2 rfl rfl (fun v1 => ?_)
  refine x_ifeq (pt := 29) F dX12_canFind_5 rfl rfl ?_ ?_
  · refine x_iconst F dX12_canFind_29 ⟨by decide, by decide⟩ rfl ?_
    exact x_zret F hnE hQ dX12_canFind_30
  · refine x_aload_n F dX12_canFind_8 rfl rfl rfl ?_
    refine x_iload_n F dX12_canFind_9 rfl rfl rfl ?_
    refine s_callVP F [vI a2] [] lkX12_417 mX12_isPlace rfl ha0 rfl hnE hn0 hd pX12_isPlace (tX12_isPlace cx.l x hi G a0 a2 ha0) rfl rfl dX12_canFind_10 rfl rfl (fun v2 => ?_)
    refine x_ifeq (pt := 29) F dX12_canFind_13 rfl rfl ?_ ?_
    · refine x_iconst F dX12_canFind_29 ⟨by decide, by decide⟩ rfl ?_
      exact x_zret F hnE hQ dX12_canFind_30
    · refine x_aload_n F dX12_canFind_16 rfl rfl rfl ?_
      refine x_iconst F dX12_canFind_17 ⟨by decide, by decide⟩ rfl ?_
      refine x_iload_n F dX12_canFind_18 rfl rfl rfl ?_
      refine s_callVP F [vI 0, vI a1] [] lkX12_278 mX12_isIn rfl ha0 rfl hnE hn0 hd pX12_isIn (tX12_isIn cx.l x hi G a0 0 a1 ha0) rfl rfl dX12_canFind_19 rfl rfl (fun v3 => ?_)
      refine x_ifeq (pt := 29) F dX12_canFind_22 rfl rfl ?_ ?_
      · refine x_iconst F dX12_canFind_29 ⟨by decide, by decide⟩ rfl ?_
        exact x_zret F hnE hQ dX12_canFind_30
      · refine x_iconst F dX12_canFind_25 ⟨by decide, by decide⟩ rfl ?_
        refine x_goto (pc' := 30) F dX12_canFind_26 rfl ?_
        exact x_zret F hnE hQ dX12_canFind_30
theorem dX12_lost_0 : decode cX12_lost 0 = .ok (.aload_n 0, 1) := by decide +kernel
theorem dX12_lost_1 : decode cX12_lost 1 = .ok (.iconst 0, 1) := by decide +kernel
theorem dX12_lost_2 : decode cX12_lost 2 = .ok (.putfield 1, 3) := by decide +kernel
theorem dX12_lost_5 : decode cX12_lost 5 = .ok (.aload_n 0, 1) := by decide +kernel
theorem dX12_lost_6 : decode cX12_lost 6 = .ok (.iconst 0, 1) := by decide +kernel
theorem dX12_lost_7 : decode cX12_lost 7 = .ok (.iconst (-1), 1) := by decide +kernel
theorem dX12_lost_8 : decode cX12_lost 8 = .ok (.invokevirtual 337, 3) := by decide +kernel
theorem dX12_lost_11 : decode cX12_lost 11 = .ok (.ireturn, 1) := by decide +kernel
def fX12_lost (a0 : Nat) (G : Hp) : RT := bh (up G a0 0 0) fun G1 => bp (fX12_heldSet a0 0 ((-1)) G1) fun v2 => rt v2 G1
set_option maxRecDepth 20000 in
set_option maxHeartbeats 4000000 in
theorem tX12_lost (l : Launch) (x : WX) (hi : Inj x.2.2) (G : Hp) (a0 : Nat) (ha0 : kd a0 = 12) : Ct l x yX12_lost cX12_lost 1 (some .int) 2 129 129 [vR a0] G (fX12_lost a0 G) := by
  refine ct_of (plainFor_of_name (by decide)) hi (Nat.le_refl _) (Nat.le_refl _) (Nat.le_of_ble_eq_true rfl) (fun cx F hd hn0 hnE hl hQ => ?_)
  subst hl
  have F : Fx cx x RX12 cX12_lost 1 (some .int) := F
  show Y cx x 1 (some .int) 129 0 [(0, vR a0)] [] G _
  unfold fX12_lost
  refine x_aload_n F dX12_lost_0 rfl rfl rfl ?_
  refine x_iconst F dX12_lost_1 ⟨by decide, by decide⟩ rfl ?_
  refine s_putI F fpX12_1 ha0 rfl dX12_lost_2 rfl (fun G1 => ?_)
  refine x_aload_n F dX12_lost_5 rfl rfl rfl ?_
  refine x_iconst F dX12_lost_6 ⟨by decide, by decide⟩ rfl ?_
  refine x_iconst F dX12_lost_7 ⟨by decide, by decide⟩ rfl ?_
  refine s_callVP F [vI 0, vI ((-1))] [] lkX12_337 mX12_heldSet rfl ha0 rfl hnE hn0 hd pX12_heldSet (tX12_heldSet cx.l x hi G1 a0 0 ((-1)) ha0) rfl rfl dX12_lost_8 rfl rfl (fun v2 => ?_)
  exact x_iret F hnE hQ dX12_lost_11
theorem dX12_comesTo_0 : decode cX12_comesTo 0 = .ok (.iload_n 2, 1) := by decide +kernel
theorem dX12_comesTo_1 : decode cX12_comesTo 1 = .ok (.istore 4, 2) := by decide +kernel
theorem dX12_comesTo_3 : decode cX12_comesTo 3 = .ok (.iconst 0, 1) := by decide +kernel
theorem dX12_comesTo_4 : decode cX12_comesTo 4 = .ok (.istore 5, 2) := by decide +kernel
theorem dX12_comesTo_6 : decode cX12_comesTo 6 = .ok (.iload 5, 2) := by decide +kernel
theorem dX12_comesTo_8 : decode cX12_comesTo 8 = .ok (.iload_n 3, 1) := by decide +kernel
theorem dX12_comesTo_9 : decode cX12_comesTo 9 = .ok (.if_icmp .ge 27, 3) := by decide +kernel
theorem dX12_comesTo_12 : decode cX12_comesTo 12 = .ok (.iload 4, 2) := by decide +kernel
theorem dX12_comesTo_14 : decode cX12_comesTo 14 = .ok (.ifCond .ge 7, 3) := by decide +kernel
theorem dX12_comesTo_17 : decode cX12_comesTo 17 = .ok (.iconst (-1), 1) := by decide +kernel
theorem dX12_comesTo_18 : decode cX12_comesTo 18 = .ok (.goto 10, 3) := by decide +kernel
theorem dX12_comesTo_21 : decode cX12_comesTo 21 = .ok (.aload_n 0, 1) := by decide +kernel
theorem dX12_comesTo_22 : decode cX12_comesTo 22 = .ok (.iload_n 1, 1) := by decide +kernel
theorem dX12_comesTo_23 : decode cX12_comesTo 23 = .ok (.iload 4, 2) := by decide +kernel
theorem dX12_comesTo_25 : decode cX12_comesTo 25 = .ok (.invokevirtual 310, 3) := by decide +kernel
theorem dX12_comesTo_28 : decode cX12_comesTo 28 = .ok (.istore 4, 2) := by decide +kernel
theorem dX12_comesTo_30 : decode cX12_comesTo 30 = .ok (.iinc 5 1, 3) := by decide +kernel
theorem dX12_comesTo_33 : decode cX12_comesTo 33 = .ok (.goto (-27), 3) := by decide +kernel
theorem dX12_comesTo_36 : decode cX12_comesTo 36 = .ok (.iload 4, 2) := by decide +kernel
theorem dX12_comesTo_38 : decode cX12_comesTo 38 = .ok (.ireturn, 1) := by decide +kernel
def fX12_comesTo (a0 : Nat) (a1 : Int) (a2 : Int) (a3 : Int) (G : Hp) : RT := bd a2 fun v1 => bd 0 fun v2 => (lp (fun (_ : Int) (_ : Int) => (none : RT)) 5000 (fun (rc5 : Int → Int → RT) (v3 : Int) (v4 : Int) => if v4 < a3 then (jn (fun (v6 : Int) => bd v6 fun v8 => bd (iadd v4 1) fun v9 => rc5 v8 v9) fun (K7 : Int → RT) => if v3 < 0 then (K7 ((-1))) else (bp (fX12_firstOf a0 a1 v3 G) fun v10 => K7 v10)) else rt v3 G)) v1 v2
theorem pX12_comesTo {G : Hp} {a0 : Nat} {a1 : Int} {a2 : Int} {a3 : Int} : PU G (fX12_comesTo a0 a1 a2 a3 G) := by
  unfold fX12_comesTo
  refine PU_bd (fun v1 => ?_)
  refine PU_bd (fun v2 => ?_)
  refine x_lp (fun (rc5 : Int → Int → RT) => ∀ (v3 : Int) (v4 : Int), PU G (rc5 v3 v4)) (fun _ _ => PU_none) (fun rc5 phrc5 v3 v4 => ?_) 5000 v1 v2
  refine PU_ite ?_ ?_
  · refine PU_jn (fun (K7 : Int → RT) => ∀ (v6 : Int), PU G (K7 v6)) ?_ (fun K7 phK7 => ?_)
    · intro v6
      refine PU_bd (fun v8 => ?_)
      refine PU_bd (fun v9 => ?_)
      exact phrc5 v8 v9
    · refine PU_ite ?_ ?_
      · exact phK7 ((-1))
      · refine PU_bp (fun v10 => ?_)
        exact phK7 v10
  · exact PU_rt
set_option maxRecDepth 20000 in
set_option maxHeartbeats 4000000 in
theorem tX12_comesTo (l : Launch) (x : WX) (hi : Inj x.2.2) (G : Hp) (a0 : Nat) (a1 : Int) (a2 : Int) (a3 : Int) (ha0 : kd a0 = 12) : Ct l x yX12_comesTo cX12_comesTo 6 (some .int) 2 129 129 [vR a0, vI a1, vI a2, vI a3] G (fX12_comesTo a0 a1 a2 a3 G) := by
  refine ct_of (plainFor_of_name (by decide)) hi (Nat.le_refl _) (Nat.le_refl _) (Nat.le_of_ble_eq_true rfl) (fun cx F hd hn0 hnE hl hQ => ?_)
  subst hl
  have F : Fx cx x RX12 cX12_comesTo 6 (some .int) := F
  show Y cx x 6 (some .int) 129 0 [(0, vR a0), (1, vI a1), (2, vI a2), (3, vI a3)] [] G _
  unfold fX12_comesTo
  refine x_iload_n F dX12_comesTo_0 rfl rfl rfl ?_
  refine x_dp (L' := [(0, vR a0), (1, vI a1), (3, vI a3)]) [0, 1, 3] rfl ?_
  refine x_istore F dX12_comesTo_1 (by decide) rfl rfl (fun v1 => ?_)
  show Y cx x _ _ _ _ [(0, vR a0), (1, vI a1), (3, vI a3), (4, vI v1)] _ _ _
  refine x_iconst F dX12_comesTo_3 ⟨by decide, by decide⟩ rfl ?_
  refine x_istore F dX12_comesTo_4 (by decide) rfl rfl (fun v2 => ?_)
  show Y cx x _ _ _ _ [(0, vR a0), (1, vI a1), (3, vI a3), (4, vI v1), (5, vI v2)] _ _ _
  refine x_lp (fun (rc5 : Int → Int → RT) => ∀ (v3 : Int) (v4 : Int), Y cx x 6 (some .int) 129 6 [(0, vR a0), (1, vI a1), (3, vI a3), (4, vI v3), (5, vI v4)] [] G (rc5 v3 v4)) (fun _ _ => Y_none) (fun rc5 hrc5 v3 v4 => ?_) 5000 v1 v2
  refine x_iload F dX12_comesTo_6 rfl rfl ?_
  refine x_iload_n F dX12_comesTo_8 rfl rfl rfl ?_
  refine x_icmpge (pt := 36) F dX12_comesTo_9 rfl rfl ?_ ?_
  · refine x_iload F dX12_comesTo_12 rfl rfl ?_
    refine x_jn (fun (K7 : Int → RT) => ∀ (v6 : Int), Y cx x 6 (some .int) 129 28 [(0, vR a0), (1, vI a1), (3, vI a3), (5, vI v4)] [vI v6] G (K7 v6)) ?_ (fun K7 hK7 => ?_)
    · intro v6
      refine x_istore F dX12_comesTo_28 (by decide) rfl rfl (fun v8 => ?_)
      show Y cx x _ _ _ _ [(0, vR a0), (1, vI a1), (3, vI a3), (5, vI v4), (4, vI v8)] _ _ _
      refine x_iinc F dX12_comesTo_30 rfl (by decide) rfl rfl (fun v9 => ?_)
      show Y cx x _ _ _ _ [(0, vR a0), (1, vI a1), (3, vI a3), (5, vI v9), (4, vI v8)] _ _ _
      refine x_goto (pc' := 6) F dX12_comesTo_33 rfl ?_
      refine x_dp (L' := [(0, vR a0), (1, vI a1), (3, vI a3), (4, vI v8), (5, vI v9)]) [0, 1, 2, 4, 3] rfl ?_
      exact hrc5 v8 v9
    · refine x_ifge (pt := 21) F dX12_comesTo_14 rfl rfl ?_ ?_
      · refine x_iconst F dX12_comesTo_17 ⟨by decide, by decide⟩ rfl ?_
        refine x_goto (pc' := 28) F dX12_comesTo_18 rfl ?_
        refine x_dp (L' := [(0, vR a0), (1, vI a1), (3, vI a3), (5, vI v4)]) [0, 1, 2, 4] rfl ?_
        exact hK7 ((-1))
      · refine x_aload_n F dX12_comesTo_21 rfl rfl rfl ?_
        refine x_iload_n F dX12_comesTo_22 rfl rfl rfl ?_
        refine x_iload F dX12_comesTo_23 rfl rfl ?_
        refine s_callVP F [vI a1, vI v3] [] lkX12_310 mX12_firstOf rfl ha0 rfl hnE hn0 hd pX12_firstOf (tX12_firstOf cx.l x hi G a0 a1 v3 ha0) rfl rfl dX12_comesTo_25 rfl rfl (fun v10 => ?_)
        refine x_dp (L' := [(0, vR a0), (1, vI a1), (3, vI a3), (5, vI v4)]) [0, 1, 2, 4] rfl ?_
        exact hK7 v10
  · refine x_iload F dX12_comesTo_36 rfl rfl ?_
    exact x_iret F hnE hQ dX12_comesTo_38
theorem dX12_isThere_0 : decode cX12_isThere 0 = .ok (.aload_n 0, 1) := by decide +kernel
theorem dX12_isThere_1 : decode cX12_isThere 1 = .ok (.iload_n 1, 1) := by decide +kernel
theorem dX12_isThere_2 : decode cX12_isThere 2 = .ok (.invokevirtual 386, 3) := by decide +kernel
theorem dX12_isThere_5 : decode cX12_isThere 5 = .ok (.ifCond .eq 16, 3) := by decide +kernel
theorem dX12_isThere_8 : decode cX12_isThere 8 = .ok (.aload_n 0, 1) := by decide +kernel
theorem dX12_isThere_9 : decode cX12_isThere 9 = .ok (.iconst 0, 1) := by decide +kernel
theorem dX12_isThere_10 : decode cX12_isThere 10 = .ok (.iload_n 1, 1) := by decide +kernel
theorem dX12_isThere_11 : decode cX12_isThere 11 = .ok (.invokevirtual 278, 3) := by decide +kernel
theorem dX12_isThere_14 : decode cX12_isThere 14 = .ok (.ifCond .eq 7, 3) := by decide +kernel
theorem dX12_isThere_17 : decode cX12_isThere 17 = .ok (.iconst 1, 1) := by decide +kernel
theorem dX12_isThere_18 : decode cX12_isThere 18 = .ok (.goto 4, 3) := by decide +kernel
theorem dX12_isThere_21 : decode cX12_isThere 21 = .ok (.iconst 0, 1) := by decide +kernel
theorem dX12_isThere_22 : decode cX12_isThere 22 = .ok (.ireturn, 1) := by decide +kernel
def fX12_isThere (a0 : Nat) (a1 : Int) (G : Hp) : RT := bp (fX12_isNode a0 a1 G) fun v1 => if v1 = 0 then rz 0 G else (bp (fX12_isIn a0 0 a1 G) fun v2 => if v2 = 0 then rz 0 G else rz 1 G)
theorem pX12_isThere {G : Hp} {a0 : Nat} {a1 : Int} : PU G (fX12_isThere a0 a1 G) := by
  unfold fX12_isThere
  refine PU_bp (fun v1 => ?_)
  refine PU_ite ?_ ?_
  · exact PU_rz
  · refine PU_bp (fun v2 => ?_)
    refine PU_ite ?_ ?_
    · exact PU_rz
    · exact PU_rz
set_option maxRecDepth 20000 in
set_option maxHeartbeats 4000000 in
theorem tX12_isThere (l : Launch) (x : WX) (hi : Inj x.2.2) (G : Hp) (a0 : Nat) (a1 : Int) (ha0 : kd a0 = 12) : Ct l x yX12_isThere cX12_isThere 2 (some .boolean) 2 129 129 [vR a0, vI a1] G (fX12_isThere a0 a1 G) := by
  refine ct_of (plainFor_of_name (by decide)) hi (Nat.le_refl _) (Nat.le_refl _) (Nat.le_of_ble_eq_true rfl) (fun cx F hd hn0 hnE hl hQ => ?_)
  subst hl
  have F : Fx cx x RX12 cX12_isThere 2 (some .boolean) := F
  show Y cx x 2 (some .boolean) 129 0 [(0, vR a0), (1, vI a1)] [] G _
  unfold fX12_isThere
  refine x_aload_n F dX12_isThere_0 rfl rfl rfl ?_
  refine x_iload_n F dX12_isThere_1 rfl rfl rfl ?_
  refine s_callVP F [vI a1] [] lkX12_386 mX12_isNode rfl ha0 rfl hnE hn0 hd pX12_isNode (tX12_isNode cx.l x hi G a0 a1 ha0) rfl rfl dX12_isThere_2 rfl rfl (fun v1 => ?_)
  refine x_ifeq (pt := 21) F dX12_isThere_5 rfl rfl ?_ ?_
  · refine x_iconst F dX12_isThere_21 ⟨by decide, by decide⟩ rfl ?_
    exact x_zret F hnE hQ dX12_isThere_22
  · refine x_aload_n F dX12_isThere_8 rfl rfl rfl ?_
    refine x_iconst F dX12_isThere_9 ⟨by decide, by decide⟩ rfl ?_
    refine x_iload_n F dX12_isThere_10 rfl rfl rfl ?_
    refine s_callVP F [vI 0, vI a1] [] lkX12_278 mX12_isIn rfl ha0 rfl hnE hn0 hd pX12_isIn (tX12_isIn cx.l x hi G a0 0 a1 ha0) rfl rfl dX12_isThere_11 rfl rfl (fun v2 => ?_)
    refine x_ifeq (pt := 21) F dX12_isThere_14 rfl rfl ?_ ?_
    · refine x_iconst F dX12_isThere_21 ⟨by decide, by decide⟩ rfl ?_
      exact x_zret F hnE hQ dX12_isThere_22
    · refine x_iconst F dX12_isThere_17 ⟨by decide, by decide⟩ rfl ?_
      refine x_goto (pc' := 22) F dX12_isThere_18 rfl ?_
      exact x_zret F hnE hQ dX12_isThere_22
theorem dX12_hosts_0 : decode cX12_hosts 0 = .ok (.aload_n 0, 1) := by decide +kernel
theorem dX12_hosts_1 : decode cX12_hosts 1 = .ok (.iconst 0, 1) := by decide +kernel
theorem dX12_hosts_2 : decode cX12_hosts 2 = .ok (.putfield 1, 3) := by decide +kernel
theorem dX12_hosts_5 : decode cX12_hosts 5 = .ok (.aload_n 0, 1) := by decide +kernel
theorem dX12_hosts_6 : decode cX12_hosts 6 = .ok (.iload_n 1, 1) := by decide +kernel
theorem dX12_hosts_7 : decode cX12_hosts 7 = .ok (.invokevirtual 386, 3) := by decide +kernel
theorem dX12_hosts_10 : decode cX12_hosts 10 = .ok (.ifCond .ne 5, 3) := by decide +kernel
theorem dX12_hosts_13 : decode cX12_hosts 13 = .ok (.iconst (-1), 1) := by decide +kernel
theorem dX12_hosts_14 : decode cX12_hosts 14 = .ok (.ireturn, 1) := by decide +kernel
theorem dX12_hosts_15 : decode cX12_hosts 15 = .ok (.iconst 0, 1) := by decide +kernel
theorem dX12_hosts_16 : decode cX12_hosts 16 = .ok (.istore_n 2, 1) := by decide +kernel
theorem dX12_hosts_17 : decode cX12_hosts 17 = .ok (.iconst 0, 1) := by decide +kernel
theorem dX12_hosts_18 : decode cX12_hosts 18 = .ok (.istore_n 3, 1) := by decide +kernel
theorem dX12_hosts_19 : decode cX12_hosts 19 = .ok (.iload_n 3, 1) := by decide +kernel
theorem dX12_hosts_20 : decode cX12_hosts 20 = .ok (.aload_n 0, 1) := by decide +kernel
theorem dX12_hosts_21 : decode cX12_hosts 21 = .ok (.invokevirtual 236, 3) := by decide +kernel
theorem dX12_hosts_24 : decode cX12_hosts 24 = .ok (.if_icmp .ge 37, 3) := by decide +kernel
theorem dX12_hosts_27 : decode cX12_hosts 27 = .ok (.iload_n 2, 1) := by decide +kernel
theorem dX12_hosts_28 : decode cX12_hosts 28 = .ok (.aload_n 0, 1) := by decide +kernel
theorem dX12_hosts_29 : decode cX12_hosts 29 = .ok (.iconst 0, 1) := by decide +kernel
theorem dX12_hosts_30 : decode cX12_hosts 30 = .ok (.iload_n 3, 1) := by decide +kernel
theorem dX12_hosts_31 : decode cX12_hosts 31 = .ok (.invokevirtual 278, 3) := by decide +kernel
theorem dX12_hosts_34 : decode cX12_hosts 34 = .ok (.ifCond .eq 18, 3) := by decide +kernel
theorem dX12_hosts_37 : decode cX12_hosts 37 = .ok (.aload_n 0, 1) := by decide +kernel
theorem dX12_hosts_38 : decode cX12_hosts 38 = .ok (.iload_n 3, 1) := by decide +kernel
theorem dX12_hosts_39 : decode cX12_hosts 39 = .ok (.iload_n 1, 1) := by decide +kernel
theorem dX12_hosts_40 : decode cX12_hosts 40 = .ok (.invokevirtual 471, 3) := by decide +kernel
theorem dX12_hosts_43 : decode cX12_hosts 43 = .ok (.ifCond .eq 9, 3) := by decide +kernel
theorem dX12_hosts_46 : decode cX12_hosts 46 = .ok (.iconst 1, 1) := by decide +kernel
theorem dX12_hosts_47 : decode cX12_hosts 47 = .ok (.iload_n 3, 1) := by decide +kernel
theorem dX12_hosts_48 : decode cX12_hosts 48 = .ok (.ishl, 1) := by decide +kernel
theorem dX12_hosts_49 : decode cX12_hosts 49 = .ok (.goto 4, 3) := by decide +kernel
theorem dX12_hosts_52 : decode cX12_hosts 52 = .ok (.iconst 0, 1) := by decide +kernel
theorem dX12_hosts_53 : decode cX12_hosts 53 = .ok (.ior, 1) := by decide +kernel
theorem dX12_hosts_54 : decode cX12_hosts 54 = .ok (.istore_n 2, 1) := by decide +kernel
theorem dX12_hosts_55 : decode cX12_hosts 55 = .ok (.iinc 3 1, 3) := by decide +kernel
theorem dX12_hosts_58 : decode cX12_hosts 58 = .ok (.goto (-39), 3) := by decide +kernel
theorem dX12_hosts_61 : decode cX12_hosts 61 = .ok (.iload_n 2, 1) := by decide +kernel
theorem dX12_hosts_62 : decode cX12_hosts 62 = .ok (.ireturn, 1) := by decide +kernel
def fX12_hosts (a0 : Nat) (a1 : Int) (G : Hp) : RT := bh (up G a0 0 0) fun G1 => bp (fX12_isNode a0 a1 G1) fun v2 => if v2 = 0 then (rt ((-1)) G1) else (bd 0 fun v3 => bd 0 fun v4 => (lp (fun (_ : Int) (_ : Int) => (none : RT)) 5000 (fun (rc7 : Int → Int → RT) (v5 : Int) (v6 : Int) => bp (fX12_nodes a0 G1) fun v8 => if v6 < v8 then (bp (fX12_isIn a0 0 v6 G1) fun v9 => jn (fun (v10 : Int) => bd (ior v5 v10) fun v12 => bd (iadd v6 1) fun v13 => rc7 v12 v13) fun (K11 : Int → RT) => jn (K11 0) fun (K14 : RT) => if v9 = 0 then K14 else (bp (fX12_isListed a0 v6 a1 G1) fun v15 => if v15 = 0 then K14 else (K11 (ishl 1 v6)))) else rt v5 G1)) v3 v4)
set_option maxRecDepth 20000 in
set_option maxHeartbeats 4000000 in
theorem tX12_hosts (l : Launch) (x : WX) (hi : Inj x.2.2) (G : Hp) (a0 : Nat) (a1 : Int) (ha0 : kd a0 = 12) : Ct l x yX12_hosts cX12_hosts 4 (some .int) 2 129 129 [vR a0, vI a1] G (fX12_hosts a0 a1 G) := by
  refine ct_of (plainFor_of_name (by decide)) hi (Nat.le_refl _) (Nat.le_refl _) (Nat.le_of_ble_eq_true rfl) (fun cx F hd hn0 hnE hl hQ => ?_)
  subst hl
  have F : Fx cx x RX12 cX12_hosts 4 (some .int) := F
  show Y cx x 4 (some .int) 129 0 [(0, vR a0), (1, vI a1)] [] G _
  unfold fX12_hosts
  refine x_aload_n F dX12_hosts_0 rfl rfl rfl ?_
  refine x_iconst F dX12_hosts_1 ⟨by decide, by decide⟩ rfl ?_
  refine s_putI F fpX12_1 ha0 rfl dX12_hosts_2 rfl (fun G1 => ?_)
  refine x_aload_n F dX12_hosts_5 rfl rfl rfl ?_
  refine x_iload_n F dX12_hosts_6 rfl rfl rfl ?_
  refine s_callVP F [vI a1] [] lkX12_386 mX12_isNode rfl ha0 rfl hnE hn0 hd pX12_isNode (tX12_isNode cx.l x hi G1 a0 a1 ha0) rfl rfl dX12_hosts_7 rfl rfl (fun v2 => ?_)
  refine x_ifne (pt := 15) F dX12_hosts_10 rfl rfl ?_ ?_
  · refine x_iconst F dX12_hosts_13 ⟨by decide, by decide⟩ rfl ?_
    exact x_iret F hnE hQ dX12_hosts_14
  · refine x_iconst F dX12_hosts_15 ⟨by decide, by decide⟩ rfl ?_
    refine x_istore_n F dX12_hosts_16 rfl (by decide) rfl rfl (fun v3 => ?_)
    show Y cx x _ _ _ _ [(0, vR a0), (1, vI a1), (2, vI v3)] _ _ _
    refine x_iconst F dX12_hosts_17 ⟨by decide, by decide⟩ rfl ?_
    refine x_istore_n F dX12_hosts_18 rfl (by decide) rfl rfl (fun v4 => ?_)
    show Y cx x _ _ _ _ [(0, vR a0), (1, vI a1), (2, vI v3), (3, vI v4)] _ _ _
    refine x_lp (fun (rc7 : Int → Int → RT) => ∀ (v5 : Int) (v6 : Int), Y cx x 4 (some .int) 129 19 [(0, vR a0), (1, vI a1), (2, vI v5), (3, vI v6)] [] G1 (rc7 v5 v6)) (fun _ _ => Y_none) (fun rc7 hrc7 v5 v6 => ?_) 5000 v3 v4
    refine x_iload_n F dX12_hosts_19 rfl rfl rfl ?_
    refine x_aload_n F dX12_hosts_20 rfl rfl rfl ?_
    refine s_callVP F [] [vI v6] lkX12_236 mX12_nodes rfl ha0 rfl hnE hn0 hd pX12_nodes (tX12_nodes cx.l x hi G1 a0 ha0) rfl rfl dX12_hosts_21 rfl rfl (fun v8 => ?_)
    refine x_icmpge (pt := 61) F dX12_hosts_24 rfl rfl ?_ ?_
    · refine x_iload_n F dX12_hosts_27 rfl rfl rfl ?_
      refine x_aload_n F dX12_hosts_28 rfl rfl rfl ?_
      refine x_iconst F dX12_hosts_29 ⟨by decide, by decide⟩ rfl ?_
      refine x_iload_n F dX12_hosts_30 rfl rfl rfl ?_
      refine s_callVP F [vI 0, vI v6] [vI v5] lkX12_278 mX12_isIn rfl ha0 rfl hnE hn0 hd pX12_isIn (tX12_isIn cx.l x hi G1 a0 0 v6 ha0) rfl rfl dX12_hosts_31 rfl rfl (fun v9 => ?_)
      refine x_jn (fun (K11 : Int → RT) => ∀ (v10 : Int), Y cx x 4 (some .int) 129 53 [(0, vR a0), (1, vI a1), (3, vI v6)] [vI v10, vI v5] G1 (K11 v10)) ?_ (fun K11 hK11 => ?_)
      · intro v10
        refine x_ior F dX12_hosts_53 rfl ?_
        refine x_istore_n F dX12_hosts_54 rfl (by decide) rfl rfl (fun v12 => ?_)
        show Y cx x _ _ _ _ [(0, vR a0), (1, vI a1), (3, vI v6), (2, vI v12)] _ _ _
        refine x_iinc F dX12_hosts_55 rfl (by decide) rfl rfl (fun v13 => ?_)
        show Y cx x _ _ _ _ [(0, vR a0), (1, vI a1), (3, vI v13), (2, vI v12)] _ _ _
        refine x_goto (pc' := 19) F dX12_hosts_58 rfl ?_
        refine x_dp (L' := [(0, vR a0), (1, vI a1), (2, vI v12), (3, vI v13)]) [0, 1, 3, 2] rfl ?_
        exact hrc7 v12 v13
      · refine x_jn (fun (K14 : RT) => Y cx x 4 (some .int) 129 52 [(0, vR a0), (1, vI a1), (3, vI v6)] [vI v5] G1 K14) ?_ (fun K14 hK14 => ?_)
        · refine x_iconst F dX12_hosts_52 ⟨by decide, by decide⟩ rfl ?_
          exact hK11 0
        · refine x_ifeq (pt := 52) F dX12_hosts_34 rfl rfl ?_ ?_
          · refine x_dp (L' := [(0, vR a0), (1, vI a1), (3, vI v6)]) [0, 1, 3] rfl ?_
            exact hK14
          · refine x_aload_n F dX12_hosts_37 rfl rfl rfl ?_
            refine x_iload_n F dX12_hosts_38 rfl rfl rfl ?_
            refine x_iload_n F dX12_hosts_39 rfl rfl rfl ?_
            refine s_callVP F [vI v6, vI a1] [vI v5] lkX12_471 mX12_isListed rfl ha0 rfl hnE hn0 hd pX12_isListed (tX12_isListed cx.l x hi G1 a0 v6 a1 ha0) rfl rfl dX12_hosts_40 rfl rfl (fun v15 => ?_)
            refine x_ifeq (pt := 52) F dX12_hosts_43 rfl rfl ?_ ?_
            · refine x_dp (L' := [(0, vR a0), (1, vI a1), (3, vI v6)]) [0, 1, 3] rfl ?_
              exact hK14
            · refine x_iconst F dX12_hosts_46 ⟨by decide, by decide⟩ rfl ?_
              refine x_iload_n F dX12_hosts_47 rfl rfl rfl ?_
              refine x_ishl F dX12_hosts_48 rfl ?_
              refine x_goto (pc' := 53) F dX12_hosts_49 rfl ?_
              refine x_dp (L' := [(0, vR a0), (1, vI a1), (3, vI v6)]) [0, 1, 3] rfl ?_
              exact hK11 (ishl 1 v6)
    · refine x_iload_n F dX12_hosts_61 rfl rfl rfl ?_
      exact x_iret F hnE hQ dX12_hosts_62
theorem dX12_knows_0 : decode cX12_knows 0 = .ok (.aload_n 0, 1) := by decide +kernel
theorem dX12_knows_1 : decode cX12_knows 1 = .ok (.iload_n 1, 1) := by decide +kernel
theorem dX12_knows_2 : decode cX12_knows 2 = .ok (.iload_n 2, 1) := by decide +kernel
theorem dX12_knows_3 : decode cX12_knows 3 = .ok (.invokevirtual 471, 3) := by decide +kernel
theorem dX12_knows_6 : decode cX12_knows 6 = .ok (.ifCond .ne 13, 3) := by decide +kernel
theorem dX12_knows_9 : decode cX12_knows 9 = .ok (.aload_n 0, 1) := by decide +kernel
theorem dX12_knows_10 : decode cX12_knows 10 = .ok (.iconst 0, 1) := by decide +kernel
theorem dX12_knows_11 : decode cX12_knows 11 = .ok (.iload_n 1, 1) := by decide +kernel
theorem dX12_knows_12 : decode cX12_knows 12 = .ok (.invokevirtual 343, 3) := by decide +kernel
theorem dX12_knows_15 : decode cX12_knows 15 = .ok (.iload_n 2, 1) := by decide +kernel
theorem dX12_knows_16 : decode cX12_knows 16 = .ok (.if_icmp .ne 7, 3) := by decide +kernel
theorem dX12_knows_19 : decode cX12_knows 19 = .ok (.iconst 1, 1) := by decide +kernel
theorem dX12_knows_20 : decode cX12_knows 20 = .ok (.goto 4, 3) := by decide +kernel
theorem dX12_knows_23 : decode cX12_knows 23 = .ok (.iconst 0, 1) := by decide +kernel
theorem dX12_knows_24 : decode cX12_knows 24 = .ok (.istore_n 3, 1) := by decide +kernel
theorem dX12_knows_25 : decode cX12_knows 25 = .ok (.iconst 0, 1) := by decide +kernel
theorem dX12_knows_26 : decode cX12_knows 26 = .ok (.istore 4, 2) := by decide +kernel
theorem dX12_knows_28 : decode cX12_knows 28 = .ok (.iload 4, 2) := by decide +kernel
theorem dX12_knows_30 : decode cX12_knows 30 = .ok (.bipush 8, 2) := by decide +kernel
theorem dX12_knows_32 : decode cX12_knows 32 = .ok (.if_icmp .ge 31, 3) := by decide +kernel
theorem dX12_knows_35 : decode cX12_knows 35 = .ok (.iload_n 3, 1) := by decide +kernel
theorem dX12_knows_36 : decode cX12_knows 36 = .ok (.ifCond .ne 15, 3) := by decide +kernel
theorem dX12_knows_39 : decode cX12_knows 39 = .ok (.aload_n 0, 1) := by decide +kernel
theorem dX12_knows_40 : decode cX12_knows 40 = .ok (.iconst 0, 1) := by decide +kernel
theorem dX12_knows_41 : decode cX12_knows 41 = .ok (.iload_n 1, 1) := by decide +kernel
theorem dX12_knows_42 : decode cX12_knows 42 = .ok (.iload 4, 2) := by decide +kernel
theorem dX12_knows_44 : decode cX12_knows 44 = .ok (.invokevirtual 304, 3) := by decide +kernel
theorem dX12_knows_47 : decode cX12_knows 47 = .ok (.iload_n 2, 1) := by decide +kernel
theorem dX12_knows_48 : decode cX12_knows 48 = .ok (.if_icmp .ne 7, 3) := by decide +kernel
theorem dX12_knows_51 : decode cX12_knows 51 = .ok (.iconst 1, 1) := by decide +kernel
theorem dX12_knows_52 : decode cX12_knows 52 = .ok (.goto 4, 3) := by decide +kernel
theorem dX12_knows_55 : decode cX12_knows 55 = .ok (.iconst 0, 1) := by decide +kernel
theorem dX12_knows_56 : decode cX12_knows 56 = .ok (.istore_n 3, 1) := by decide +kernel
theorem dX12_knows_57 : decode cX12_knows 57 = .ok (.iinc 4 1, 3) := by decide +kernel
theorem dX12_knows_60 : decode cX12_knows 60 = .ok (.goto (-32), 3) := by decide +kernel
theorem dX12_knows_63 : decode cX12_knows 63 = .ok (.iload_n 3, 1) := by decide +kernel
theorem dX12_knows_64 : decode cX12_knows 64 = .ok (.ifCond .eq 16, 3) := by decide +kernel
theorem dX12_knows_67 : decode cX12_knows 67 = .ok (.aload_n 0, 1) := by decide +kernel
theorem dX12_knows_68 : decode cX12_knows 68 = .ok (.iconst 0, 1) := by decide +kernel
theorem dX12_knows_69 : decode cX12_knows 69 = .ok (.iload_n 2, 1) := by decide +kernel
theorem dX12_knows_70 : decode cX12_knows 70 = .ok (.invokevirtual 278, 3) := by decide +kernel
theorem dX12_knows_73 : decode cX12_knows 73 = .ok (.ifCond .eq 7, 3) := by decide +kernel
theorem dX12_knows_76 : decode cX12_knows 76 = .ok (.iconst 1, 1) := by decide +kernel
theorem dX12_knows_77 : decode cX12_knows 77 = .ok (.goto 4, 3) := by decide +kernel
theorem dX12_knows_80 : decode cX12_knows 80 = .ok (.iconst 0, 1) := by decide +kernel
theorem dX12_knows_81 : decode cX12_knows 81 = .ok (.ireturn, 1) := by decide +kernel
def fX12_knows (a0 : Nat) (a1 : Int) (a2 : Int) (G : Hp) : RT := bp (fX12_isListed a0 a1 a2 G) fun v1 => jn (fun (v2 : Int) => bd v2 fun v4 => bd 0 fun v5 => (lp (fun (_ : Int) (_ : Int) => (none : RT)) 5000 (fun (rc8 : Int → Int → RT) (v6 : Int) (v7 : Int) => if v7 < 8 then (jn (fun (v10 : Int) => bd v10 fun v12 => bd (iadd v7 1) fun v13 => rc8 v12 v13) fun (K11 : Int → RT) => jn (K11 1) fun (K14 : RT) => if v6 = 0 then (bp (fX12_fingerOf a0 0 a1 v7 G) fun v15 => if v15 = a2 then K14 else K11 0) else K14) else (if v6 = 0 then rz 0 G else (bp (fX12_isIn a0 0 a2 G) fun v9 => if v9 = 0 then rz 0 G else rz 1 G)))) v4 v5) fun (K3 : Int → RT) => jn (K3 1) fun (K16 : RT) => if v1 = 0 then (bp (fX12_aheadOf a0 0 a1 G) fun v17 => if v17 = a2 then K16 else K3 0) else K16
theorem pX12_knows {G : Hp} {a0 : Nat} {a1 : Int} {a2 : Int} : PU G (fX12_knows a0 a1 a2 G) := by
  unfold fX12_knows
  refine PU_bp (fun v1 => ?_)
  refine PU_jn (fun (K3 : Int → RT) => ∀ (v2 : Int), PU G (K3 v2)) ?_ (fun K3 phK3 => ?_)
  · intro v2
    refine PU_bd (fun v4 => ?_)
    refine PU_bd (fun v5 => ?_)
    refine x_lp (fun (rc8 : Int → Int → RT) => ∀ (v6 : Int) (v7 : Int), PU G (rc8 v6 v7)) (fun _ _ => PU_none) (fun rc8 phrc8 v6 v7 => ?_) 5000 v4 v5
    refine PU_ite ?_ ?_
    · refine PU_jn (fun (K11 : Int → RT) => ∀ (v10 : Int), PU G (K11 v10)) ?_ (fun K11 phK11 => ?_)
      · intro v10
        refine PU_bd (fun v12 => ?_)
        refine PU_bd (fun v13 => ?_)
        exact phrc8 v12 v13
      · refine PU_jn (fun (K14 : RT) => PU G (K14)) ?_ (fun K14 phK14 => ?_)
        · exact phK11 1
        · refine PU_ite ?_ ?_
          · refine PU_bp (fun v15 => ?_)
            refine PU_ite ?_ ?_
            · exact phK14
            · exact phK11 0
          · exact phK14
    · refine PU_ite ?_ ?_
      · exact PU_rz
      · refine PU_bp (fun v9 => ?_)
        refine PU_ite ?_ ?_
        · exact PU_rz
        · exact PU_rz
  · refine PU_jn (fun (K16 : RT) => PU G (K16)) ?_ (fun K16 phK16 => ?_)
    · exact phK3 1
    · refine PU_ite ?_ ?_
      · refine PU_bp (fun v17 => ?_)
        refine PU_ite ?_ ?_
        · exact phK16
        · exact phK3 0
      · exact phK16
set_option maxRecDepth 20000 in
set_option maxHeartbeats 4000000 in
theorem tX12_knows (l : Launch) (x : WX) (hi : Inj x.2.2) (G : Hp) (a0 : Nat) (a1 : Int) (a2 : Int) (ha0 : kd a0 = 12) : Ct l x yX12_knows cX12_knows 5 (some .boolean) 2 129 129 [vR a0, vI a1, vI a2] G (fX12_knows a0 a1 a2 G) := by
  refine ct_of (plainFor_of_name (by decide)) hi (Nat.le_refl _) (Nat.le_refl _) (Nat.le_of_ble_eq_true rfl) (fun cx F hd hn0 hnE hl hQ => ?_)
  subst hl
  have F : Fx cx x RX12 cX12_knows 5 (some .boolean) := F
  show Y cx x 5 (some .boolean) 129 0 [(0, vR a0), (1, vI a1), (2, vI a2)] [] G _
  unfold fX12_knows
  refine x_aload_n F dX12_knows_0 rfl rfl rfl ?_
  refine x_iload_n F dX12_knows_1 rfl rfl rfl ?_
  refine x_iload_n F dX12_knows_2 rfl rfl rfl ?_
  refine s_callVP F [vI a1, vI a2] [] lkX12_471 mX12_isListed rfl ha0 rfl hnE hn0 hd pX12_isListed (tX12_isListed cx.l x hi G a0 a1 a2 ha0) rfl rfl dX12_knows_3 rfl rfl (fun v1 => ?_)
  refine x_jn (fun (K3 : Int → RT) => ∀ (v2 : Int), Y cx x 5 (some .boolean) 129 24 [(0, vR a0), (1, vI a1), (2, vI a2)] [vI v2] G (K3 v2)) ?_ (fun K3 hK3 => ?_)
  · intro v2
    refine x_istore_n F dX12_knows_24 rfl (by decide) rfl rfl (fun v4 => ?_)
    show Y cx x _ _ _ _ [(0, vR a0), (1, vI a1), (2, vI a2), (3, vI v4)] _ _ _
    refine x_iconst F dX12_knows_25 ⟨by decide, by decide⟩ rfl ?_
    refine x_istore F dX12_knows_26 (by decide) rfl rfl (fun v5 => ?_)
    show Y cx x _ _ _ _ [(0, vR a0), (1, vI a1), (2, vI a2), (3, vI v4), (4, vI v5)] _ _ _
    refine x_lp (fun (rc8 : Int → Int → RT) => ∀ (v6 : Int) (v7 : Int), Y cx x 5 (some .boolean) 129 28 [(0, vR a0), (1, vI a1), (2, vI a2), (3, vI v6), (4, vI v7)] [] G (rc8 v6 v7)) (fun _ _ => Y_none) (fun rc8 hrc8 v6 v7 => ?_) 5000 v4 v5
    refine x_iload F dX12_knows_28 rfl rfl ?_
    refine x_bipush F dX12_knows_30 ⟨by decide, by decide⟩ (by decide) rfl ?_
    refine x_icmpge (pt := 63) F dX12_knows_32 rfl rfl ?_ ?_
    · refine x_iload_n F dX12_knows_35 rfl rfl rfl ?_
      refine x_jn (fun (K11 : Int → RT) => ∀ (v10 : Int), Y cx x 5 (some .boolean) 129 56 [(0, vR a0), (1, vI a1), (2, vI a2), (4, vI v7)] [vI v10] G (K11 v10)) ?_ (fun K11 hK11 => ?_)
      · intro v10
        refine x_istore_n F dX12_knows_56 rfl (by decide) rfl rfl (fun v12 => ?_)
        show Y cx x _ _ _ _ [(0, vR a0), (1, vI a1), (2, vI a2), (4, vI v7), (3, vI v12)] _ _ _
        refine x_iinc F dX12_knows_57 rfl (by decide) rfl rfl (fun v13 => ?_)
        show Y cx x _ _ _ _ [(0, vR a0), (1, vI a1), (2, vI a2), (4, vI v13), (3, vI v12)] _ _ _
        refine x_goto (pc' := 28) F dX12_knows_60 rfl ?_
        refine x_dp (L' := [(0, vR a0), (1, vI a1), (2, vI a2), (3, vI v12), (4, vI v13)]) [0, 1, 2, 4, 3] rfl ?_
        exact hrc8 v12 v13
      · refine x_jn (fun (K14 : RT) => Y cx x 5 (some .boolean) 129 51 [(0, vR a0), (1, vI a1), (2, vI a2), (4, vI v7)] [] G K14) ?_ (fun K14 hK14 => ?_)
        · refine x_iconst F dX12_knows_51 ⟨by decide, by decide⟩ rfl ?_
          refine x_goto (pc' := 56) F dX12_knows_52 rfl ?_
          exact hK11 1
        · refine x_ifne (pt := 51) F dX12_knows_36 rfl rfl ?_ ?_
          · refine x_aload_n F dX12_knows_39 rfl rfl rfl ?_
            refine x_iconst F dX12_knows_40 ⟨by decide, by decide⟩ rfl ?_
            refine x_iload_n F dX12_knows_41 rfl rfl rfl ?_
            refine x_iload F dX12_knows_42 rfl rfl ?_
            refine s_callVP F [vI 0, vI a1, vI v7] [] lkX12_304 mX12_fingerOf rfl ha0 rfl hnE hn0 hd pX12_fingerOf (tX12_fingerOf cx.l x hi G a0 0 a1 v7 ha0) rfl rfl dX12_knows_44 rfl rfl (fun v15 => ?_)
            refine x_iload_n F dX12_knows_47 rfl rfl rfl ?_
            refine x_icmpne (pt := 55) F dX12_knows_48 rfl rfl ?_ ?_
            · refine x_dp (L' := [(0, vR a0), (1, vI a1), (2, vI a2), (4, vI v7)]) [0, 1, 2, 4] rfl ?_
              exact hK14
            · refine x_iconst F dX12_knows_55 ⟨by decide, by decide⟩ rfl ?_
              refine x_dp (L' := [(0, vR a0), (1, vI a1), (2, vI a2), (4, vI v7)]) [0, 1, 2, 4] rfl ?_
              exact hK11 0
          · refine x_dp (L' := [(0, vR a0), (1, vI a1), (2, vI a2), (4, vI v7)]) [0, 1, 2, 4] rfl ?_
            exact hK14
    · refine x_iload_n F dX12_knows_63 rfl rfl rfl ?_
      refine x_ifeq (pt := 80) F dX12_knows_64 rfl rfl ?_ ?_
      · refine x_iconst F dX12_knows_80 ⟨by decide, by decide⟩ rfl ?_
        exact x_zret F hnE hQ dX12_knows_81
      · refine x_aload_n F dX12_knows_67 rfl rfl rfl ?_
        refine x_iconst F dX12_knows_68 ⟨by decide, by decide⟩ rfl ?_
        refine x_iload_n F dX12_knows_69 rfl rfl rfl ?_
        refine s_callVP F [vI 0, vI a2] [] lkX12_278 mX12_isIn rfl ha0 rfl hnE hn0 hd pX12_isIn (tX12_isIn cx.l x hi G a0 0 a2 ha0) rfl rfl dX12_knows_70 rfl rfl (fun v9 => ?_)
        refine x_ifeq (pt := 80) F dX12_knows_73 rfl rfl ?_ ?_
        · refine x_iconst F dX12_knows_80 ⟨by decide, by decide⟩ rfl ?_
          exact x_zret F hnE hQ dX12_knows_81
        · refine x_iconst F dX12_knows_76 ⟨by decide, by decide⟩ rfl ?_
          refine x_goto (pc' := 81) F dX12_knows_77 rfl ?_
          exact x_zret F hnE hQ dX12_knows_81
  · refine x_jn (fun (K16 : RT) => Y cx x 5 (some .boolean) 129 19 [(0, vR a0), (1, vI a1), (2, vI a2)] [] G K16) ?_ (fun K16 hK16 => ?_)
    · refine x_iconst F dX12_knows_19 ⟨by decide, by decide⟩ rfl ?_
      refine x_goto (pc' := 24) F dX12_knows_20 rfl ?_
      exact hK3 1
    · refine x_ifne (pt := 19) F dX12_knows_6 rfl rfl ?_ ?_
      · refine x_aload_n F dX12_knows_9 rfl rfl rfl ?_
        refine x_iconst F dX12_knows_10 ⟨by decide, by decide⟩ rfl ?_
        refine x_iload_n F dX12_knows_11 rfl rfl rfl ?_
        refine s_callVP F [vI 0, vI a1] [] lkX12_343 mX12_aheadOf rfl ha0 rfl hnE hn0 hd pX12_aheadOf (tX12_aheadOf cx.l x hi G a0 0 a1 ha0) rfl rfl dX12_knows_12 rfl rfl (fun v17 => ?_)
        refine x_iload_n F dX12_knows_15 rfl rfl rfl ?_
        refine x_icmpne (pt := 23) F dX12_knows_16 rfl rfl ?_ ?_
        · exact hK16
        · refine x_iconst F dX12_knows_23 ⟨by decide, by decide⟩ rfl ?_
          exact hK3 0
      · exact hK16
