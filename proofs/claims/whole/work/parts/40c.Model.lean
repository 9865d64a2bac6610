theorem dX12_heirs_0 : decode cX12_heirs 0 = .ok (.aload_n 0, 1) := by decide +kernel
theorem dX12_heirs_1 : decode cX12_heirs 1 = .ok (.iconst 0, 1) := by decide +kernel
theorem dX12_heirs_2 : decode cX12_heirs 2 = .ok (.putfield 1, 3) := by decide +kernel
theorem dX12_heirs_5 : decode cX12_heirs 5 = .ok (.aload_n 0, 1) := by decide +kernel
theorem dX12_heirs_6 : decode cX12_heirs 6 = .ok (.iload_n 1, 1) := by decide +kernel
theorem dX12_heirs_7 : decode cX12_heirs 7 = .ok (.invokevirtual 398, 3) := by decide +kernel
theorem dX12_heirs_10 : decode cX12_heirs 10 = .ok (.ifCond .eq 7, 3) := by decide +kernel
theorem dX12_heirs_13 : decode cX12_heirs 13 = .ok (.iload_n 2, 1) := by decide +kernel
theorem dX12_heirs_14 : decode cX12_heirs 14 = .ok (.ifCond .ge 5, 3) := by decide +kernel
theorem dX12_heirs_17 : decode cX12_heirs 17 = .ok (.iconst (-1), 1) := by decide +kernel
theorem dX12_heirs_18 : decode cX12_heirs 18 = .ok (.ireturn, 1) := by decide +kernel
theorem dX12_heirs_19 : decode cX12_heirs 19 = .ok (.iconst 0, 1) := by decide +kernel
theorem dX12_heirs_20 : decode cX12_heirs 20 = .ok (.istore_n 3, 1) := by decide +kernel
theorem dX12_heirs_21 : decode cX12_heirs 21 = .ok (.iconst 0, 1) := by decide +kernel
theorem dX12_heirs_22 : decode cX12_heirs 22 = .ok (.istore 4, 2) := by decide +kernel
theorem dX12_heirs_24 : decode cX12_heirs 24 = .ok (.iload 4, 2) := by decide +kernel
theorem dX12_heirs_26 : decode cX12_heirs 26 = .ok (.aload_n 0, 1) := by decide +kernel
theorem dX12_heirs_27 : decode cX12_heirs 27 = .ok (.invokevirtual 257, 3) := by decide +kernel
theorem dX12_heirs_30 : decode cX12_heirs 30 = .ok (.if_icmp .ge 51, 3) := by decide +kernel
theorem dX12_heirs_33 : decode cX12_heirs 33 = .ok (.aload_n 0, 1) := by decide +kernel
theorem dX12_heirs_34 : decode cX12_heirs 34 = .ok (.iconst 0, 1) := by decide +kernel
theorem dX12_heirs_35 : decode cX12_heirs 35 = .ok (.aload_n 0, 1) := by decide +kernel
theorem dX12_heirs_36 : decode cX12_heirs 36 = .ok (.getfield 112, 3) := by decide +kernel
theorem dX12_heirs_39 : decode cX12_heirs 39 = .ok (.iload_n 1, 1) := by decide +kernel
theorem dX12_heirs_40 : decode cX12_heirs 40 = .ok (.iaload, 1) := by decide +kernel
theorem dX12_heirs_41 : decode cX12_heirs 41 = .ok (.iload 4, 2) := by decide +kernel
theorem dX12_heirs_43 : decode cX12_heirs 43 = .ok (.iadd, 1) := by decide +kernel
theorem dX12_heirs_44 : decode cX12_heirs 44 = .ok (.invokevirtual 288, 3) := by decide +kernel
theorem dX12_heirs_47 : decode cX12_heirs 47 = .ok (.istore 5, 2) := by decide +kernel
theorem dX12_heirs_49 : decode cX12_heirs 49 = .ok (.iload 5, 2) := by decide +kernel
theorem dX12_heirs_51 : decode cX12_heirs 51 = .ok (.ifCond .lt 11, 3) := by decide +kernel
theorem dX12_heirs_54 : decode cX12_heirs 54 = .ok (.iload_n 3, 1) := by decide +kernel
theorem dX12_heirs_55 : decode cX12_heirs 55 = .ok (.iload_n 2, 1) := by decide +kernel
theorem dX12_heirs_56 : decode cX12_heirs 56 = .ok (.if_icmp .ne 6, 3) := by decide +kernel
theorem dX12_heirs_59 : decode cX12_heirs 59 = .ok (.iload 5, 2) := by decide +kernel
theorem dX12_heirs_61 : decode cX12_heirs 61 = .ok (.ireturn, 1) := by decide +kernel
theorem dX12_heirs_62 : decode cX12_heirs 62 = .ok (.iload_n 3, 1) := by decide +kernel
theorem dX12_heirs_63 : decode cX12_heirs 63 = .ok (.iload 5, 2) := by decide +kernel
theorem dX12_heirs_65 : decode cX12_heirs 65 = .ok (.ifCond .lt 7, 3) := by decide +kernel
theorem dX12_heirs_68 : decode cX12_heirs 68 = .ok (.iconst 1, 1) := by decide +kernel
theorem dX12_heirs_69 : decode cX12_heirs 69 = .ok (.goto 4, 3) := by decide +kernel
theorem dX12_heirs_72 : decode cX12_heirs 72 = .ok (.iconst 0, 1) := by decide +kernel
theorem dX12_heirs_73 : decode cX12_heirs 73 = .ok (.iadd, 1) := by decide +kernel
theorem dX12_heirs_74 : decode cX12_heirs 74 = .ok (.istore_n 3, 1) := by decide +kernel
theorem dX12_heirs_75 : decode cX12_heirs 75 = .ok (.iinc 4 1, 3) := by decide +kernel
theorem dX12_heirs_78 : decode cX12_heirs 78 = .ok (.goto (-54), 3) := by decide +kernel
theorem dX12_heirs_81 : decode cX12_heirs 81 = .ok (.iconst (-1), 1) := by decide +kernel
theorem dX12_heirs_82 : decode cX12_heirs 82 = .ok (.ireturn, 1) := by decide +kernel
def fX12_heirs (a0 : Nat) (a1 : Int) (a2 : Int) (G : Hp) : RT := bh (up G a0 0 0) fun G1 => bp (fX12_isKey a0 a1 G1) fun v2 => if v2 = 0 then (rt ((-1)) G1) else (if a2 < 0 then (rt ((-1)) G1) else (bd 0 fun v3 => bd 0 fun v4 => (lp (fun (_ : Int) (_ : Int) => (none : RT)) 5000 (fun (rc7 : Int → Int → RT) (v5 : Int) (v6 : Int) => bp (fX12_circle a0 G1) fun v8 => if v6 < v8 then (br (rd G1 ((rf a0 20)) 10 a1) fun v9 => bp (fX12_inAt a0 0 (iadd v9 v6) G1) fun v10 => bd v10 fun v11 => jn (jn (fun (v13 : Int) => bd (iadd v5 v13) fun v15 => bd (iadd v6 1) fun v16 => rc7 v15 v16) fun (K14 : Int → RT) => if v11 < 0 then K14 0 else K14 1) fun (K12 : RT) => if v11 < 0 then K12 else (if v5 = a2 then rt v11 G1 else K12)) else (rt ((-1)) G1))) v3 v4))
set_option maxRecDepth 20000 in
set_option maxHeartbeats 4000000 in
theorem tX12_heirs (l : Launch) (x : WX) (hi : Inj x.2.2) (G : Hp) (a0 : Nat) (a1 : Int) (a2 : Int) (ha0 : kd a0 = 12) : Ct l x yX12_heirs cX12_heirs 6 (some .int) 2 129 129 [vR a0, vI a1, vI a2] G (fX12_heirs a0 a1 a2 G) := by
  refine ct_of (plainFor_of_name (by decide)) hi (Nat.le_refl _) (Nat.le_refl _) (Nat.le_of_ble_eq_true rfl) (fun cx F hd hn0 hnE hl hQ => ?_)
  subst hl
  have F : Fx cx x RX12 cX12_heirs 6 (some .int) := F
  show Y cx x 6 (some .int) 129 0 [(0, vR a0), (1, vI a1), (2, vI a2)] [] G _
  unfold fX12_heirs
  refine x_aload_n F dX12_heirs_0 rfl rfl rfl ?_
  refine x_iconst F dX12_heirs_1 ⟨by decide, by decide⟩ rfl ?_
  refine s_putI F fpX12_1 ha0 rfl dX12_heirs_2 rfl (fun G1 => ?_)
  refine x_aload_n F dX12_heirs_5 rfl rfl rfl ?_
  refine x_iload_n F dX12_heirs_6 rfl rfl rfl ?_
  refine s_callVP F [vI a1] [] lkX12_398 mX12_isKey rfl ha0 rfl hnE hn0 hd pX12_isKey (tX12_isKey cx.l x hi G1 a0 a1 ha0) rfl rfl dX12_heirs_7 rfl rfl (fun v2 => ?_)
  refine x_ifeq (pt := 17) F dX12_heirs_10 rfl rfl ?_ ?_
  · refine x_iconst F dX12_heirs_17 ⟨by decide, by decide⟩ rfl ?_
    exact x_iret F hnE hQ dX12_heirs_18
  · refine x_iload_n F dX12_heirs_13 rfl rfl rfl ?_
    refine x_ifge (pt := 19) F dX12_heirs_14 rfl rfl ?_ ?_
    · refine x_iconst F dX12_heirs_17 ⟨by decide, by decide⟩ rfl ?_
      exact x_iret F hnE hQ dX12_heirs_18
    · refine x_iconst F dX12_heirs_19 ⟨by decide, by decide⟩ rfl ?_
      refine x_istore_n F dX12_heirs_20 rfl (by decide) rfl rfl (fun v3 => ?_)
      show Y cx x _ _ _ _ [(0, vR a0), (1, vI a1), (2, vI a2), (3, vI v3)] _ _ _
      refine x_iconst F dX12_heirs_21 ⟨by decide, by decide⟩ rfl ?_
      refine x_istore F dX12_heirs_22 (by decide) rfl rfl (fun v4 => ?_)
      show Y cx x _ _ _ _ [(0, vR a0), (1, vI a1), (2, vI a2), (3, vI v3), (4, vI v4)] _ _ _
      refine x_lp (fun (rc7 : Int → Int → RT) => ∀ (v5 : Int) (v6 : Int), Y cx x 6 (some .int) 129 24 [(0, vR a0), (1, vI a1), (2, vI a2), (3, vI v5), (4, vI v6)] [] G1 (rc7 v5 v6)) (fun _ _ => Y_none) (fun rc7 hrc7 v5 v6 => ?_) 5000 v3 v4
      refine x_iload F dX12_heirs_24 rfl rfl ?_
      refine x_aload_n F dX12_heirs_26 rfl rfl rfl ?_
      refine s_callVP F [] [vI v6] lkX12_257 mX12_circle rfl ha0 rfl hnE hn0 hd pX12_circle (tX12_circle cx.l x hi G1 a0 ha0) rfl rfl dX12_heirs_27 rfl rfl (fun v8 => ?_)
      refine x_icmpge (pt := 81) F dX12_heirs_30 rfl rfl ?_ ?_
      · refine x_aload_n F dX12_heirs_33 rfl rfl rfl ?_
        refine x_iconst F dX12_heirs_34 ⟨by decide, by decide⟩ rfl ?_
        refine x_aload_n F dX12_heirs_35 rfl rfl rfl ?_
        refine x_getR F flX12_112 ha0 rfl dX12_heirs_36 rfl ?_
        refine x_iload_n F dX12_heirs_39 rfl rfl rfl ?_
        refine s_iald F (tf12_20 ha0).1 (tf12_20 ha0).2 dX12_heirs_40 rfl (fun v9 => ?_)
        refine x_iload F dX12_heirs_41 rfl rfl ?_
        refine x_iadd F dX12_heirs_43 rfl ?_
        refine s_callVP F [vI 0, vI (iadd v9 v6)] [] lkX12_288 mX12_inAt rfl ha0 rfl hnE hn0 hd pX12_inAt (tX12_inAt cx.l x hi G1 a0 0 (iadd v9 v6) ha0) rfl rfl dX12_heirs_44 rfl rfl (fun v10 => ?_)
        refine x_istore F dX12_heirs_47 (by decide) rfl rfl (fun v11 => ?_)
        show Y cx x _ _ _ _ [(0, vR a0), (1, vI a1), (2, vI a2), (3, vI v5), (4, vI v6), (5, vI v11)] _ _ _
        refine x_iload F dX12_heirs_49 rfl rfl ?_
        refine x_jn (fun (K12 : RT) => Y cx x 6 (some .int) 129 62 [(0, vR a0), (1, vI a1), (2, vI a2), (3, vI v5), (4, vI v6), (5, vI v11)] [] G1 K12) ?_ (fun K12 hK12 => ?_)
        · refine x_iload_n F dX12_heirs_62 rfl rfl rfl ?_
          refine x_iload F dX12_heirs_63 rfl rfl ?_
          refine x_jn (fun (K14 : Int → RT) => ∀ (v13 : Int), Y cx x 6 (some .int) 129 73 [(0, vR a0), (1, vI a1), (2, vI a2), (4, vI v6)] [vI v13, vI v5] G1 (K14 v13)) ?_ (fun K14 hK14 => ?_)
          · intro v13
            refine x_iadd F dX12_heirs_73 rfl ?_
            refine x_istore_n F dX12_heirs_74 rfl (by decide) rfl rfl (fun v15 => ?_)
            show Y cx x _ _ _ _ [(0, vR a0), (1, vI a1), (2, vI a2), (4, vI v6), (3, vI v15)] _ _ _
            refine x_iinc F dX12_heirs_75 rfl (by decide) rfl rfl (fun v16 => ?_)
            show Y cx x _ _ _ _ [(0, vR a0), (1, vI a1), (2, vI a2), (4, vI v16), (3, vI v15)] _ _ _
            refine x_goto (pc' := 24) F dX12_heirs_78 rfl ?_
            refine x_dp (L' := [(0, vR a0), (1, vI a1), (2, vI a2), (3, vI v15), (4, vI v16)]) [0, 1, 2, 4, 3] rfl ?_
            exact hrc7 v15 v16
          · refine x_iflt (pt := 72) F dX12_heirs_65 rfl rfl ?_ ?_
            · refine x_iconst F dX12_heirs_72 ⟨by decide, by decide⟩ rfl ?_
              refine x_dp (L' := [(0, vR a0), (1, vI a1), (2, vI a2), (4, vI v6)]) [0, 1, 2, 4] rfl ?_
              exact hK14 0
            · refine x_iconst F dX12_heirs_68 ⟨by decide, by decide⟩ rfl ?_
              refine x_goto (pc' := 73) F dX12_heirs_69 rfl ?_
              refine x_dp (L' := [(0, vR a0), (1, vI a1), (2, vI a2), (4, vI v6)]) [0, 1, 2, 4] rfl ?_
              exact hK14 1
        · refine x_iflt (pt := 62) F dX12_heirs_51 rfl rfl ?_ ?_
          · exact hK12
          · refine x_iload_n F dX12_heirs_54 rfl rfl rfl ?_
            refine x_iload_n F dX12_heirs_55 rfl rfl rfl ?_
            refine x_icmpne (pt := 62) F dX12_heirs_56 rfl rfl ?_ ?_
            · refine x_iload F dX12_heirs_59 rfl rfl ?_
              exact x_iret F hnE hQ dX12_heirs_61
            · exact hK12
      · refine x_iconst F dX12_heirs_81 ⟨by decide, by decide⟩ rfl ?_
        exact x_iret F hnE hQ dX12_heirs_82
theorem dX12_risk_0 : decode cX12_risk 0 = .ok (.aload_n 0, 1) := by decide +kernel
theorem dX12_risk_1 : decode cX12_risk 1 = .ok (.iconst 0, 1) := by decide +kernel
theorem dX12_risk_2 : decode cX12_risk 2 = .ok (.putfield 1, 3) := by decide +kernel
theorem dX12_risk_5 : decode cX12_risk 5 = .ok (.iload_n 1, 1) := by decide +kernel
theorem dX12_risk_6 : decode cX12_risk 6 = .ok (.iconst 1, 1) := by decide +kernel
theorem dX12_risk_7 : decode cX12_risk 7 = .ok (.iconst 3, 1) := by decide +kernel
theorem dX12_risk_8 : decode cX12_risk 8 = .ok (.invokestatic 401, 3) := by decide +kernel
theorem dX12_risk_11 : decode cX12_risk 11 = .ok (.ifCond .ne 5, 3) := by decide +kernel
theorem dX12_risk_14 : decode cX12_risk 14 = .ok (.iconst (-1), 1) := by decide +kernel
theorem dX12_risk_15 : decode cX12_risk 15 = .ok (.ireturn, 1) := by decide +kernel
theorem dX12_risk_16 : decode cX12_risk 16 = .ok (.aload_n 0, 1) := by decide +kernel
theorem dX12_risk_17 : decode cX12_risk 17 = .ok (.iconst 0, 1) := by decide +kernel
theorem dX12_risk_18 : decode cX12_risk 18 = .ok (.invokevirtual 316, 3) := by decide +kernel
theorem dX12_risk_21 : decode cX12_risk 21 = .ok (.istore_n 2, 1) := by decide +kernel
theorem dX12_risk_22 : decode cX12_risk 22 = .ok (.iconst 0, 1) := by decide +kernel
theorem dX12_risk_23 : decode cX12_risk 23 = .ok (.istore_n 3, 1) := by decide +kernel
theorem dX12_risk_24 : decode cX12_risk 24 = .ok (.iconst 1, 1) := by decide +kernel
theorem dX12_risk_25 : decode cX12_risk 25 = .ok (.istore 4, 2) := by decide +kernel
theorem dX12_risk_27 : decode cX12_risk 27 = .ok (.iload 4, 2) := by decide +kernel
theorem dX12_risk_29 : decode cX12_risk 29 = .ok (.sipush 256, 3) := by decide +kernel
theorem dX12_risk_32 : decode cX12_risk 32 = .ok (.if_icmp .ge 44, 3) := by decide +kernel
theorem dX12_risk_35 : decode cX12_risk 35 = .ok (.iload_n 3, 1) := by decide +kernel
theorem dX12_risk_36 : decode cX12_risk 36 = .ok (.iload 4, 2) := by decide +kernel
theorem dX12_risk_38 : decode cX12_risk 38 = .ok (.iload_n 2, 1) := by decide +kernel
theorem dX12_risk_39 : decode cX12_risk 39 = .ok (.iconst (-1), 1) := by decide +kernel
theorem dX12_risk_40 : decode cX12_risk 40 = .ok (.ixor, 1) := by decide +kernel
theorem dX12_risk_41 : decode cX12_risk 41 = .ok (.iand, 1) := by decide +kernel
theorem dX12_risk_42 : decode cX12_risk 42 = .ok (.ifCond .ne 25, 3) := by decide +kernel
theorem dX12_risk_45 : decode cX12_risk 45 = .ok (.iload 4, 2) := by decide +kernel
theorem dX12_risk_47 : decode cX12_risk 47 = .ok (.invokestatic 340, 3) := by decide +kernel
theorem dX12_risk_50 : decode cX12_risk 50 = .ok (.iload_n 1, 1) := by decide +kernel
theorem dX12_risk_51 : decode cX12_risk 51 = .ok (.if_icmp .ne 16, 3) := by decide +kernel
theorem dX12_risk_54 : decode cX12_risk 54 = .ok (.aload_n 0, 1) := by decide +kernel
theorem dX12_risk_55 : decode cX12_risk 55 = .ok (.iload 4, 2) := by decide +kernel
theorem dX12_risk_57 : decode cX12_risk 57 = .ok (.invokevirtual 477, 3) := by decide +kernel
theorem dX12_risk_60 : decode cX12_risk 60 = .ok (.ifCond .eq 7, 3) := by decide +kernel
theorem dX12_risk_63 : decode cX12_risk 63 = .ok (.iconst 1, 1) := by decide +kernel
theorem dX12_risk_64 : decode cX12_risk 64 = .ok (.goto 4, 3) := by decide +kernel
theorem dX12_risk_67 : decode cX12_risk 67 = .ok (.iconst 0, 1) := by decide +kernel
theorem dX12_risk_68 : decode cX12_risk 68 = .ok (.iadd, 1) := by decide +kernel
theorem dX12_risk_69 : decode cX12_risk 69 = .ok (.istore_n 3, 1) := by decide +kernel
theorem dX12_risk_70 : decode cX12_risk 70 = .ok (.iinc 4 1, 3) := by decide +kernel
theorem dX12_risk_73 : decode cX12_risk 73 = .ok (.goto (-46), 3) := by decide +kernel
theorem dX12_risk_76 : decode cX12_risk 76 = .ok (.iload_n 3, 1) := by decide +kernel
theorem dX12_risk_77 : decode cX12_risk 77 = .ok (.ireturn, 1) := by decide +kernel
def fX12_risk (a0 : Nat) (a1 : Int) (G : Hp) : RT := bh (up G a0 0 0) fun G1 => bp (fX12_within a1 1 3 G1) fun v2 => if v2 = 0 then (rt ((-1)) G1) else (bp (fX12_inSet a0 0 G1) fun v3 => bd v3 fun v4 => bd 0 fun v5 => bd 1 fun v6 => (lp (fun (_ : Int) (_ : Int) => (none : RT)) 5000 (fun (rc9 : Int → Int → RT) (v7 : Int) (v8 : Int) => if v8 < 256 then (jn (fun (v10 : Int) => bd (iadd v7 v10) fun v12 => bd (iadd v8 1) fun v13 => rc9 v12 v13) fun (K11 : Int → RT) => jn (K11 0) fun (K14 : RT) => if (iand v8 (ixor v4 ((-1)))) = 0 then (bp (fX12_manyOf v8 G1) fun v15 => if v15 = a1 then (bp (fX12_strands a0 v8 G1) fun v16 => if v16 = 0 then K14 else K11 1) else K14) else K14) else rt v7 G1)) v5 v6)
set_option maxRecDepth 20000 in
set_option maxHeartbeats 4000000 in
theorem tX12_risk (l : Launch) (x : WX) (hi : Inj x.2.2) (G : Hp) (a0 : Nat) (a1 : Int) (ha0 : kd a0 = 12) : Ct l x yX12_risk cX12_risk 5 (some .int) 2 129 129 [vR a0, vI a1] G (fX12_risk a0 a1 G) := by
  refine ct_of (plainFor_of_name (by decide)) hi (Nat.le_refl _) (Nat.le_refl _) (Nat.le_of_ble_eq_true rfl) (fun cx F hd hn0 hnE hl hQ => ?_)
  subst hl
  have F : Fx cx x RX12 cX12_risk 5 (some .int) := F
  show Y cx x 5 (some .int) 129 0 [(0, vR a0), (1, vI a1)] [] G _
  unfold fX12_risk
  refine x_aload_n F dX12_risk_0 rfl rfl rfl ?_
  refine x_iconst F dX12_risk_1 ⟨by decide, by decide⟩ rfl ?_
  refine s_putI F fpX12_1 ha0 rfl dX12_risk_2 rfl (fun G1 => ?_)
  refine x_iload_n F dX12_risk_5 rfl rfl rfl ?_
  refine x_iconst F dX12_risk_6 ⟨by decide, by decide⟩ rfl ?_
  refine x_iconst F dX12_risk_7 ⟨by decide, by decide⟩ rfl ?_
  refine s_callSP F [vI a1, vI 1, vI 3] [] lkX12_401 mX12_within hnE hn0 hd pX12_within (tX12_within cx.l x hi G1 a1 1 3) rfl rfl dX12_risk_8 rfl rfl (fun v2 => ?_)
  refine x_ifne (pt := 16) F dX12_risk_11 rfl rfl ?_ ?_
  · refine x_iconst F dX12_risk_14 ⟨by decide, by decide⟩ rfl ?_
    exact x_iret F hnE hQ dX12_risk_15
  · refine x_aload_n F dX12_risk_16 rfl rfl rfl ?_
    refine x_iconst F dX12_risk_17 ⟨by decide, by decide⟩ rfl ?_
    refine s_callVP F [vI 0] [] lkX12_316 mX12_inSet rfl ha0 rfl hnE hn0 hd pX12_inSet (tX12_inSet cx.l x hi G1 a0 0 ha0) rfl rfl dX12_risk_18 rfl rfl (fun v3 => ?_)
    refine x_istore_n F dX12_risk_21 rfl (by decide) rfl rfl (fun v4 => ?_)
    show Y cx x _ _ _ _ [(0, vR a0), (1, vI a1), (2, vI v4)] _ _ _
    refine x_iconst F dX12_risk_22 ⟨by decide, by decide⟩ rfl ?_
    refine x_istore_n F dX12_risk_23 rfl (by decide) rfl rfl (fun v5 => ?_)
    show Y cx x _ _ _ _ [(0, vR a0), (1, vI a1), (2, vI v4), (3, vI v5)] _ _ _
    refine x_iconst F dX12_risk_24 ⟨by decide, by decide⟩ rfl ?_
    refine x_istore F dX12_risk_25 (by decide) rfl rfl (fun v6 => ?_)
    show Y cx x _ _ _ _ [(0, vR a0), (1, vI a1), (2, vI v4), (3, vI v5), (4, vI v6)] _ _ _
    refine x_lp (fun (rc9 : Int → Int → RT) => ∀ (v7 : Int) (v8 : Int), Y cx x 5 (some .int) 129 27 [(0, vR a0), (1, vI a1), (2, vI v4), (3, vI v7), (4, vI v8)] [] G1 (rc9 v7 v8)) (fun _ _ => Y_none) (fun rc9 hrc9 v7 v8 => ?_) 5000 v5 v6
    refine x_iload F dX12_risk_27 rfl rfl ?_
    refine x_sipush F dX12_risk_29 ⟨by decide, by decide⟩ (by decide) rfl ?_
    refine x_icmpge (pt := 76) F dX12_risk_32 rfl rfl ?_ ?_
    · refine x_iload_n F dX12_risk_35 rfl rfl rfl ?_
      refine x_iload F dX12_risk_36 rfl rfl ?_
      refine x_iload_n F dX12_risk_38 rfl rfl rfl ?_
      refine x_iconst F dX12_risk_39 ⟨by decide, by decide⟩ rfl ?_
      refine x_ixor F dX12_risk_40 rfl ?_
      refine x_iand F dX12_risk_41 rfl ?_
      refine x_jn (fun (K11 : Int → RT) => ∀ (v10 : Int), Y cx x 5 (some .int) 129 68 [(0, vR a0), (1, vI a1), (2, vI v4), (4, vI v8)] [vI v10, vI v7] G1 (K11 v10)) ?_ (fun K11 hK11 => ?_)
      · intro v10
        refine x_iadd F dX12_risk_68 rfl ?_
        refine x_istore_n F dX12_risk_69 rfl (by decide) rfl rfl (fun v12 => ?_)
        show Y cx x _ _ _ _ [(0, vR a0), (1, vI a1), (2, vI v4), (4, vI v8), (3, vI v12)] _ _ _
        refine x_iinc F dX12_risk_70 rfl (by decide) rfl rfl (fun v13 => ?_)
        show Y cx x _ _ _ _ [(0, vR a0), (1, vI a1), (2, vI v4), (4, vI v13), (3, vI v12)] _ _ _
        refine x_goto (pc' := 27) F dX12_risk_73 rfl ?_
        refine x_dp (L' := [(0, vR a0), (1, vI a1), (2, vI v4), (3, vI v12), (4, vI v13)]) [0, 1, 2, 4, 3] rfl ?_
        exact hrc9 v12 v13
      · refine x_jn (fun (K14 : RT) => Y cx x 5 (some .int) 129 67 [(0, vR a0), (1, vI a1), (2, vI v4), (4, vI v8)] [vI v7] G1 K14) ?_ (fun K14 hK14 => ?_)
        · refine x_iconst F dX12_risk_67 ⟨by decide, by decide⟩ rfl ?_
          exact hK11 0
        · refine x_ifne (pt := 67) F dX12_risk_42 rfl rfl ?_ ?_
          · refine x_iload F dX12_risk_45 rfl rfl ?_
            refine s_callSP F [vI v8] [vI v7] lkX12_340 mX12_manyOf hnE hn0 hd pX12_manyOf (tX12_manyOf cx.l x hi G1 v8) rfl rfl dX12_risk_47 rfl rfl (fun v15 => ?_)
            refine x_iload_n F dX12_risk_50 rfl rfl rfl ?_
            refine x_icmpne (pt := 67) F dX12_risk_51 rfl rfl ?_ ?_
            · refine x_aload_n F dX12_risk_54 rfl rfl rfl ?_
              refine x_iload F dX12_risk_55 rfl rfl ?_
              refine s_callVP F [vI v8] [vI v7] lkX12_477 mX12_strands rfl ha0 rfl hnE hn0 hd pX12_strands (tX12_strands cx.l x hi G1 a0 v8 ha0) rfl rfl dX12_risk_57 rfl rfl (fun v16 => ?_)
              refine x_ifeq (pt := 67) F dX12_risk_60 rfl rfl ?_ ?_
              · refine x_dp (L' := [(0, vR a0), (1, vI a1), (2, vI v4), (4, vI v8)]) [0, 1, 2, 4] rfl ?_
                exact hK14
              · refine x_iconst F dX12_risk_63 ⟨by decide, by decide⟩ rfl ?_
                refine x_goto (pc' := 68) F dX12_risk_64 rfl ?_
                refine x_dp (L' := [(0, vR a0), (1, vI a1), (2, vI v4), (4, vI v8)]) [0, 1, 2, 4] rfl ?_
                exact hK11 1
            · refine x_dp (L' := [(0, vR a0), (1, vI a1), (2, vI v4), (4, vI v8)]) [0, 1, 2, 4] rfl ?_
              exact hK14
          · refine x_dp (L' := [(0, vR a0), (1, vI a1), (2, vI v4), (4, vI v8)]) [0, 1, 2, 4] rfl ?_
            exact hK14
    · refine x_iload_n F dX12_risk_76 rfl rfl rfl ?_
      exact x_iret F hnE hQ dX12_risk_77
theorem dX12_see_0 : decode cX12_see 0 = .ok (.aload_n 0, 1) := by decide +kernel
theorem dX12_see_1 : decode cX12_see 1 = .ok (.iconst 0, 1) := by decide +kernel
theorem dX12_see_2 : decode cX12_see 2 = .ok (.putfield 1, 3) := by decide +kernel
theorem dX12_see_5 : decode cX12_see 5 = .ok (.aload_n 0, 1) := by decide +kernel
theorem dX12_see_6 : decode cX12_see 6 = .ok (.iload_n 1, 1) := by decide +kernel
theorem dX12_see_7 : decode cX12_see 7 = .ok (.invokevirtual 417, 3) := by decide +kernel
theorem dX12_see_10 : decode cX12_see 10 = .ok (.ifCond .eq 26, 3) := by decide +kernel
theorem dX12_see_13 : decode cX12_see 13 = .ok (.iload_n 2, 1) := by decide +kernel
theorem dX12_see_14 : decode cX12_see 14 = .ok (.iconst 0, 1) := by decide +kernel
theorem dX12_see_15 : decode cX12_see 15 = .ok (.bipush 20, 2) := by decide +kernel
theorem dX12_see_17 : decode cX12_see 17 = .ok (.invokestatic 401, 3) := by decide +kernel
theorem dX12_see_20 : decode cX12_see 20 = .ok (.ifCond .eq 16, 3) := by decide +kernel
theorem dX12_see_23 : decode cX12_see 23 = .ok (.aload_n 0, 1) := by decide +kernel
theorem dX12_see_24 : decode cX12_see 24 = .ok (.getfield 105, 3) := by decide +kernel
theorem dX12_see_27 : decode cX12_see 27 = .ok (.sipush 130, 3) := by decide +kernel
theorem dX12_see_30 : decode cX12_see 30 = .ok (.iaload, 1) := by decide +kernel
theorem dX12_see_31 : decode cX12_see 31 = .ok (.bipush 8, 2) := by decide +kernel
theorem dX12_see_33 : decode cX12_see 33 = .ok (.if_icmp .ne 5, 3) := by decide +kernel
theorem dX12_see_36 : decode cX12_see 36 = .ok (.iconst 0, 1) := by decide +kernel
theorem dX12_see_37 : decode cX12_see 37 = .ok (.ireturn, 1) := by decide +kernel
theorem dX12_see_38 : decode cX12_see 38 = .ok (.sipush 131, 3) := by decide +kernel
theorem dX12_see_41 : decode cX12_see 41 = .ok (.iconst 3, 1) := by decide +kernel
theorem dX12_see_42 : decode cX12_see 42 = .ok (.aload_n 0, 1) := by decide +kernel
theorem dX12_see_43 : decode cX12_see 43 = .ok (.getfield 105, 3) := by decide +kernel
theorem dX12_see_46 : decode cX12_see 46 = .ok (.sipush 130, 3) := by decide +kernel
theorem dX12_see_49 : decode cX12_see 49 = .ok (.iaload, 1) := by decide +kernel
theorem dX12_see_50 : decode cX12_see 50 = .ok (.imul, 1) := by decide +kernel
theorem dX12_see_51 : decode cX12_see 51 = .ok (.iadd, 1) := by decide +kernel
theorem dX12_see_52 : decode cX12_see 52 = .ok (.istore 4, 2) := by decide +kernel
theorem dX12_see_54 : decode cX12_see 54 = .ok (.aload_n 0, 1) := by decide +kernel
theorem dX12_see_55 : decode cX12_see 55 = .ok (.getfield 105, 3) := by decide +kernel
theorem dX12_see_58 : decode cX12_see 58 = .ok (.iload 4, 2) := by decide +kernel
theorem dX12_see_60 : decode cX12_see 60 = .ok (.iload_n 1, 1) := by decide +kernel
theorem dX12_see_61 : decode cX12_see 61 = .ok (.iastore, 1) := by decide +kernel
theorem dX12_see_62 : decode cX12_see 62 = .ok (.aload_n 0, 1) := by decide +kernel
theorem dX12_see_63 : decode cX12_see 63 = .ok (.getfield 105, 3) := by decide +kernel
theorem dX12_see_66 : decode cX12_see 66 = .ok (.iload 4, 2) := by decide +kernel
theorem dX12_see_68 : decode cX12_see 68 = .ok (.iconst 1, 1) := by decide +kernel
theorem dX12_see_69 : decode cX12_see 69 = .ok (.iadd, 1) := by decide +kernel
theorem dX12_see_70 : decode cX12_see 70 = .ok (.iload_n 2, 1) := by decide +kernel
theorem dX12_see_71 : decode cX12_see 71 = .ok (.iastore, 1) := by decide +kernel
theorem dX12_see_72 : decode cX12_see 72 = .ok (.aload_n 0, 1) := by decide +kernel
theorem dX12_see_73 : decode cX12_see 73 = .ok (.getfield 105, 3) := by decide +kernel
theorem dX12_see_76 : decode cX12_see 76 = .ok (.iload 4, 2) := by decide +kernel
theorem dX12_see_78 : decode cX12_see 78 = .ok (.iconst 2, 1) := by decide +kernel
theorem dX12_see_79 : decode cX12_see 79 = .ok (.iadd, 1) := by decide +kernel
theorem dX12_see_80 : decode cX12_see 80 = .ok (.iload_n 3, 1) := by decide +kernel
theorem dX12_see_81 : decode cX12_see 81 = .ok (.ifCond .eq 7, 3) := by decide +kernel
theorem dX12_see_84 : decode cX12_see 84 = .ok (.iconst 1, 1) := by decide +kernel
theorem dX12_see_85 : decode cX12_see 85 = .ok (.goto 4, 3) := by decide +kernel
theorem dX12_see_88 : decode cX12_see 88 = .ok (.iconst 0, 1) := by decide +kernel
theorem dX12_see_89 : decode cX12_see 89 = .ok (.iastore, 1) := by decide +kernel
theorem dX12_see_90 : decode cX12_see 90 = .ok (.aload_n 0, 1) := by decide +kernel
theorem dX12_see_91 : decode cX12_see 91 = .ok (.getfield 105, 3) := by decide +kernel
theorem dX12_see_94 : decode cX12_see 94 = .ok (.sipush 130, 3) := by decide +kernel
theorem dX12_see_97 : decode cX12_see 97 = .ok (.dup2, 1) := by decide +kernel
theorem dX12_see_98 : decode cX12_see 98 = .ok (.iaload, 1) := by decide +kernel
theorem dX12_see_99 : decode cX12_see 99 = .ok (.iconst 1, 1) := by decide +kernel
theorem dX12_see_100 : decode cX12_see 100 = .ok (.iadd, 1) := by decide +kernel
theorem dX12_see_101 : decode cX12_see 101 = .ok (.iastore, 1) := by decide +kernel
theorem dX12_see_102 : decode cX12_see 102 = .ok (.iconst 1, 1) := by decide +kernel
theorem dX12_see_103 : decode cX12_see 103 = .ok (.ireturn, 1) := by decide +kernel
def fX12_see (a0 : Nat) (a1 : Int) (a2 : Int) (a3 : Int) (G : Hp) : RT := bh (up G a0 0 0) fun G1 => bp (fX12_isPlace a0 a1 G1) fun v2 => if v2 = 0 then rz 0 G1 else (bp (fX12_within a2 0 20 G1) fun v3 => if v3 = 0 then rz 0 G1 else (br (rd G1 ((rf a0 17)) 3565 130) fun v4 => if v4 = 8 then rz 0 G1 else (br (rd G1 ((rf a0 17)) 3565 130) fun v5 => bd (iadd 131 (imul 3 v5)) fun v6 => bs (wr G1 ((rf a0 17)) 3565 v6 a1) fun G7 => bs (wr G7 ((rf a0 17)) 3565 (iadd v6 1) a2) fun G8 => jn (fun (v9 : Int) => bs (wr G8 ((rf a0 17)) 3565 (iadd v6 2) v9) fun G11 => br (rd G11 ((rf a0 17)) 3565 130) fun v12 => bs (wr G11 ((rf a0 17)) 3565 130 (iadd v12 1)) fun G13 => rz 1 G13) fun (K10 : Int → RT) => if a3 = 0 then K10 0 else K10 1)))
set_option maxRecDepth 20000 in
set_option maxHeartbeats 4000000 in
theorem tX12_see (l : Launch) (x : WX) (hi : Inj x.2.2) (G : Hp) (a0 : Nat) (a1 : Int) (a2 : Int) (a3 : Int) (ha0 : kd a0 = 12) : Ct l x yX12_see cX12_see 5 (some .boolean) 2 129 129 [vR a0, vI a1, vI a2, vI a3] G (fX12_see a0 a1 a2 a3 G) := by
  refine ct_of (plainFor_of_name (by decide)) hi (Nat.le_refl _) (Nat.le_refl _) (Nat.le_of_ble_eq_true rfl) (fun cx F hd hn0 hnE hl hQ => ?_)
  subst hl
  have F : Fx cx x RX12 cX12_see 5 (some .boolean) := F
  show Y cx x 5 (some .boolean) 129 0 [(0, vR a0), (1, vI a1), (2, vI a2), (3, vI a3)] [] G _
  unfold fX12_see
  refine x_aload_n F dX12_see_0 rfl rfl rfl ?_
  refine x_iconst F dX12_see_1 ⟨by decide, by decide⟩ rfl ?_
  refine s_putI F fpX12_1 ha0 rfl dX12_see_2 rfl (fun G1 => ?_)
  refine x_aload_n F dX12_see_5 rfl rfl rfl ?_
  refine x_iload_n F dX12_see_6 rfl rfl rfl ?_
  refine s_callVP F [vI a1] [] lkX12_417 mX12_isPlace rfl ha0 rfl hnE hn0 hd pX12_isPlace (tX12_isPlace cx.l x hi G1 a0 a1 ha0) rfl rfl dX12_see_7 rfl rfl (fun v2 => ?_)
  refine x_ifeq (pt := 36) F dX12_see_10 rfl rfl ?_ ?_
  · refine x_iconst F dX12_see_36 ⟨by decide, by decide⟩ rfl ?_
    exact x_zret F hnE hQ dX12_see_37
  · refine x_iload_n F dX12_see_13 rfl rfl rfl ?_
    refine x_iconst F dX12_see_14 ⟨by decide, by decide⟩ rfl ?_
    refine x_bipush F dX12_see_15 ⟨by decide, by decide⟩ (by decide) rfl ?_
    refine s_callSP F [vI a2, vI 0, vI 20] [] lkX12_401 mX12_within hnE hn0 hd pX12_within (tX12_within cx.l x hi G1 a2 0 20) rfl rfl dX12_see_17 rfl rfl (fun v3 => ?_)
    refine x_ifeq (pt := 36) F dX12_see_20 rfl rfl ?_ ?_
    · refine x_iconst F dX12_see_36 ⟨by decide, by decide⟩ rfl ?_
      exact x_zret F hnE hQ dX12_see_37
    · refine x_aload_n F dX12_see_23 rfl rfl rfl ?_
      refine x_getR F flX12_105 ha0 rfl dX12_see_24 rfl ?_
      refine x_sipush F dX12_see_27 ⟨by decide, by decide⟩ (by decide) rfl ?_
      refine s_iald F (tf12_17 ha0).1 (tf12_17 ha0).2 dX12_see_30 rfl (fun v4 => ?_)
      refine x_bipush F dX12_see_31 ⟨by decide, by decide⟩ (by decide) rfl ?_
      refine x_icmpne (pt := 38) F dX12_see_33 rfl rfl ?_ ?_
      · refine x_iconst F dX12_see_36 ⟨by decide, by decide⟩ rfl ?_
        exact x_zret F hnE hQ dX12_see_37
      · refine x_sipush F dX12_see_38 ⟨by decide, by decide⟩ (by decide) rfl ?_
        refine x_iconst F dX12_see_41 ⟨by decide, by decide⟩ rfl ?_
        refine x_aload_n F dX12_see_42 rfl rfl rfl ?_
        refine x_getR F flX12_105 ha0 rfl dX12_see_43 rfl ?_
        refine x_sipush F dX12_see_46 ⟨by decide, by decide⟩ (by decide) rfl ?_
        refine s_iald F (tf12_17 ha0).1 (tf12_17 ha0).2 dX12_see_49 rfl (fun v5 => ?_)
        refine x_imul F dX12_see_50 rfl ?_
        refine x_iadd F dX12_see_51 rfl ?_
        refine x_istore F dX12_see_52 (by decide) rfl rfl (fun v6 => ?_)
        show Y cx x _ _ _ _ [(0, vR a0), (1, vI a1), (2, vI a2), (3, vI a3), (4, vI v6)] _ _ _
        refine x_aload_n F dX12_see_54 rfl rfl rfl ?_
        refine x_getR F flX12_105 ha0 rfl dX12_see_55 rfl ?_
        refine x_iload F dX12_see_58 rfl rfl ?_
        refine x_iload_n F dX12_see_60 rfl rfl rfl ?_
        refine s_iast F (tf12_17 ha0).1 (tf12_17 ha0).2 dX12_see_61 rfl (fun G7 => ?_)
        refine x_aload_n F dX12_see_62 rfl rfl rfl ?_
        refine x_getR F flX12_105 ha0 rfl dX12_see_63 rfl ?_
        refine x_iload F dX12_see_66 rfl rfl ?_
        refine x_iconst F dX12_see_68 ⟨by decide, by decide⟩ rfl ?_
        refine x_iadd F dX12_see_69 rfl ?_
        refine x_iload_n F dX12_see_70 rfl rfl rfl ?_
        refine s_iast F (tf12_17 ha0).1 (tf12_17 ha0).2 dX12_see_71 rfl (fun G8 => ?_)
        refine x_aload_n F dX12_see_72 rfl rfl rfl ?_
        refine x_getR F flX12_105 ha0 rfl dX12_see_73 rfl ?_
        refine x_iload F dX12_see_76 rfl rfl ?_
        refine x_iconst F dX12_see_78 ⟨by decide, by decide⟩ rfl ?_
        refine x_iadd F dX12_see_79 rfl ?_
        refine x_iload_n F dX12_see_80 rfl rfl rfl ?_
        refine x_jn (fun (K10 : Int → RT) => ∀ (v9 : Int), Y cx x 5 (some .boolean) 129 89 [(0, vR a0)] [vI v9, vI (iadd v6 2), vR ((rf a0 17))] G8 (K10 v9)) ?_ (fun K10 hK10 => ?_)
        · intro v9
          refine s_iast F (tf12_17 ha0).1 (tf12_17 ha0).2 dX12_see_89 rfl (fun G11 => ?_)
          refine x_aload_n F dX12_see_90 rfl rfl rfl ?_
          refine x_getR F flX12_105 ha0 rfl dX12_see_91 rfl ?_
          refine x_sipush F dX12_see_94 ⟨by decide, by decide⟩ (by decide) rfl ?_
          refine x_dup2 F dX12_see_97 rfl rfl rfl ?_
          refine s_iald F (tf12_17 ha0).1 (tf12_17 ha0).2 dX12_see_98 rfl (fun v12 => ?_)
          refine x_iconst F dX12_see_99 ⟨by decide, by decide⟩ rfl ?_
          refine x_iadd F dX12_see_100 rfl ?_
          refine s_iast F (tf12_17 ha0).1 (tf12_17 ha0).2 dX12_see_101 rfl (fun G13 => ?_)
          refine x_iconst F dX12_see_102 ⟨by decide, by decide⟩ rfl ?_
          exact x_zret F hnE hQ dX12_see_103
        · refine x_ifeq (pt := 88) F dX12_see_81 rfl rfl ?_ ?_
          · refine x_iconst F dX12_see_88 ⟨by decide, by decide⟩ rfl ?_
            refine x_dp (L' := [(0, vR a0)]) [0] rfl ?_
            exact hK10 0
          · refine x_iconst F dX12_see_84 ⟨by decide, by decide⟩ rfl ?_
            refine x_goto (pc' := 89) F dX12_see_85 rfl ?_
            refine x_dp (L' := [(0, vR a0)]) [0] rfl ?_
            exact hK10 1
theorem dX12_count_0 : decode cX12_count 0 = .ok (.aload_n 0, 1) := by decide +kernel
theorem dX12_count_1 : decode cX12_count 1 = .ok (.iconst 0, 1) := by decide +kernel
theorem dX12_count_2 : decode cX12_count 2 = .ok (.putfield 1, 3) := by decide +kernel
theorem dX12_count_5 : decode cX12_count 5 = .ok (.iload_n 1, 1) := by decide +kernel
theorem dX12_count_6 : decode cX12_count 6 = .ok (.tableswitch 114 0 9 #[54, 59, 66, 71, 76, 82, 88, 95, 104, 109], 54) := by decide +kernel
theorem dX12_count_60 : decode cX12_count 60 = .ok (.aload_n 0, 1) := by decide +kernel
theorem dX12_count_61 : decode cX12_count 61 = .ok (.invokevirtual 257, 3) := by decide +kernel
theorem dX12_count_64 : decode cX12_count 64 = .ok (.ireturn, 1) := by decide +kernel
theorem dX12_count_65 : decode cX12_count 65 = .ok (.aload_n 0, 1) := by decide +kernel
theorem dX12_count_66 : decode cX12_count 66 = .ok (.getfield 87, 3) := by decide +kernel
theorem dX12_count_69 : decode cX12_count 69 = .ok (.iconst 1, 1) := by decide +kernel
theorem dX12_count_70 : decode cX12_count 70 = .ok (.iaload, 1) := by decide +kernel
theorem dX12_count_71 : decode cX12_count 71 = .ok (.ireturn, 1) := by decide +kernel
theorem dX12_count_72 : decode cX12_count 72 = .ok (.aload_n 0, 1) := by decide +kernel
theorem dX12_count_73 : decode cX12_count 73 = .ok (.invokevirtual 236, 3) := by decide +kernel
theorem dX12_count_76 : decode cX12_count 76 = .ok (.ireturn, 1) := by decide +kernel
theorem dX12_count_77 : decode cX12_count 77 = .ok (.aload_n 0, 1) := by decide +kernel
theorem dX12_count_78 : decode cX12_count 78 = .ok (.invokevirtual 229, 3) := by decide +kernel
theorem dX12_count_81 : decode cX12_count 81 = .ok (.ireturn, 1) := by decide +kernel
theorem dX12_count_82 : decode cX12_count 82 = .ok (.aload_n 0, 1) := by decide +kernel
theorem dX12_count_83 : decode cX12_count 83 = .ok (.iconst 0, 1) := by decide +kernel
theorem dX12_count_84 : decode cX12_count 84 = .ok (.invokevirtual 316, 3) := by decide +kernel
theorem dX12_count_87 : decode cX12_count 87 = .ok (.ireturn, 1) := by decide +kernel
theorem dX12_count_88 : decode cX12_count 88 = .ok (.aload_n 0, 1) := by decide +kernel
theorem dX12_count_89 : decode cX12_count 89 = .ok (.iconst 0, 1) := by decide +kernel
theorem dX12_count_90 : decode cX12_count 90 = .ok (.invokevirtual 408, 3) := by decide +kernel
theorem dX12_count_93 : decode cX12_count 93 = .ok (.ireturn, 1) := by decide +kernel
theorem dX12_count_94 : decode cX12_count 94 = .ok (.aload_n 0, 1) := by decide +kernel
theorem dX12_count_95 : decode cX12_count 95 = .ok (.getfield 96, 3) := by decide +kernel
theorem dX12_count_98 : decode cX12_count 98 = .ok (.iconst 0, 1) := by decide +kernel
theorem dX12_count_99 : decode cX12_count 99 = .ok (.iaload, 1) := by decide +kernel
theorem dX12_count_100 : decode cX12_count 100 = .ok (.ireturn, 1) := by decide +kernel
theorem dX12_count_101 : decode cX12_count 101 = .ok (.aload_n 0, 1) := by decide +kernel
theorem dX12_count_102 : decode cX12_count 102 = .ok (.getfield 105, 3) := by decide +kernel
theorem dX12_count_105 : decode cX12_count 105 = .ok (.sipush 130, 3) := by decide +kernel
theorem dX12_count_108 : decode cX12_count 108 = .ok (.iaload, 1) := by decide +kernel
theorem dX12_count_109 : decode cX12_count 109 = .ok (.ireturn, 1) := by decide +kernel
theorem dX12_count_110 : decode cX12_count 110 = .ok (.aload_n 0, 1) := by decide +kernel
theorem dX12_count_111 : decode cX12_count 111 = .ok (.getfield 272, 3) := by decide +kernel
theorem dX12_count_114 : decode cX12_count 114 = .ok (.ireturn, 1) := by decide +kernel
theorem dX12_count_115 : decode cX12_count 115 = .ok (.aload_n 0, 1) := by decide +kernel
theorem dX12_count_116 : decode cX12_count 116 = .ok (.getfield 11, 3) := by decide +kernel
theorem dX12_count_119 : decode cX12_count 119 = .ok (.ireturn, 1) := by decide +kernel
theorem dX12_count_120 : decode cX12_count 120 = .ok (.iconst (-1), 1) := by decide +kernel
theorem dX12_count_121 : decode cX12_count 121 = .ok (.ireturn, 1) := by decide +kernel
def fX12_count (a0 : Nat) (a1 : Int) (G : Hp) : RT := bh (up G a0 0 0) fun G1 => if a1 = 0 then (bp (fX12_circle a0 G1) fun v3 => rt v3 G1) else (if a1 = 1 then (br (rd G1 ((rf a0 10)) 64 1) fun v5 => rt v5 G1) else (if a1 = 2 then (bp (fX12_nodes a0 G1) fun v7 => rt v7 G1) else (if a1 = 3 then (bp (fX12_keys a0 G1) fun v9 => rt v9 G1) else (if a1 = 4 then (bp (fX12_inSet a0 0 G1) fun v11 => rt v11 G1) else (if a1 = 5 then (bp (fX12_heldMany a0 0 G1) fun v13 => rt v13 G1) else (if a1 = 6 then (br (rd G1 ((rf a0 14)) 241 0) fun v15 => rt v15 G1) else (if a1 = 7 then (br (rd G1 ((rf a0 17)) 3565 130) fun v17 => rt v17 G1) else (if a1 = 8 then (rt (G1 a0 18) G1) else (if a1 = 9 then (rt (G1 a0 2) G1) else (rt ((-1)) G1))))))))))
set_option maxRecDepth 20000 in
set_option maxHeartbeats 4000000 in
theorem tX12_count (l : Launch) (x : WX) (hi : Inj x.2.2) (G : Hp) (a0 : Nat) (a1 : Int) (ha0 : kd a0 = 12) : Ct l x yX12_count cX12_count 2 (some .int) 2 129 129 [vR a0, vI a1] G (fX12_count a0 a1 G) := by
  refine ct_of (plainFor_of_name (by decide)) hi (Nat.le_refl _) (Nat.le_refl _) (Nat.le_of_ble_eq_true rfl) (fun cx F hd hn0 hnE hl hQ => ?_)
  subst hl
  have F : Fx cx x RX12 cX12_count 2 (some .int) := F
  show Y cx x 2 (some .int) 129 0 [(0, vR a0), (1, vI a1)] [] G _
  unfold fX12_count
  refine x_aload_n F dX12_count_0 rfl rfl rfl ?_
  refine x_iconst F dX12_count_1 ⟨by decide, by decide⟩ rfl ?_
  refine s_putI F fpX12_1 ha0 rfl dX12_count_2 rfl (fun G1 => ?_)
  refine x_iload_n F dX12_count_5 rfl rfl rfl ?_
  refine x_ite (fun h2 => ?_) (fun h2 => ?_)
  · refine x_tabIn (off := 54) (pc' := 60) F dX12_count_6 (by omega) (by omega) (by rw [h2]; rfl) rfl ?_
    refine x_aload_n F dX12_count_60 rfl rfl rfl ?_
    refine s_callVP F [] [] lkX12_257 mX12_circle rfl ha0 rfl hnE hn0 hd pX12_circle (tX12_circle cx.l x hi G1 a0 ha0) rfl rfl dX12_count_61 rfl rfl (fun v3 => ?_)
    exact x_iret F hnE hQ dX12_count_64
  · refine x_ite (fun h4 => ?_) (fun h4 => ?_)
    · refine x_tabIn (off := 59) (pc' := 65) F dX12_count_6 (by omega) (by omega) (by rw [h4]; rfl) rfl ?_
      refine x_aload_n F dX12_count_65 rfl rfl rfl ?_
      refine x_getR F flX12_87 ha0 rfl dX12_count_66 rfl ?_
      refine x_iconst F dX12_count_69 ⟨by decide, by decide⟩ rfl ?_
      refine s_iald F (tf12_10 ha0).1 (tf12_10 ha0).2 dX12_count_70 rfl (fun v5 => ?_)
      exact x_iret F hnE hQ dX12_count_71
    · refine x_ite (fun h6 => ?_) (fun h6 => ?_)
      · refine x_tabIn (off := 66) (pc' := 72) F dX12_count_6 (by omega) (by omega) (by rw [h6]; rfl) rfl ?_
        refine x_aload_n F dX12_count_72 rfl rfl rfl ?_
        refine s_callVP F [] [] lkX12_236 mX12_nodes rfl ha0 rfl hnE hn0 hd pX12_nodes (tX12_nodes cx.l x hi G1 a0 ha0) rfl rfl dX12_count_73 rfl rfl (fun v7 => ?_)
        exact x_iret F hnE hQ dX12_count_76
      · refine x_ite (fun h8 => ?_) (fun h8 => ?_)
        · refine x_tabIn (off := 71) (pc' := 77) F dX12_count_6 (by omega) (by omega) (by rw [h8]; rfl) rfl ?_
          refine x_aload_n F dX12_count_77 rfl rfl rfl ?_
          refine s_callVP F [] [] lkX12_229 mX12_keys rfl ha0 rfl hnE hn0 hd pX12_keys (tX12_keys cx.l x hi G1 a0 ha0) rfl rfl dX12_count_78 rfl rfl (fun v9 => ?_)
          exact x_iret F hnE hQ dX12_count_81
        · refine x_ite (fun h10 => ?_) (fun h10 => ?_)
          · refine x_tabIn (off := 76) (pc' := 82) F dX12_count_6 (by omega) (by omega) (by rw [h10]; rfl) rfl ?_
            refine x_aload_n F dX12_count_82 rfl rfl rfl ?_
            refine x_iconst F dX12_count_83 ⟨by decide, by decide⟩ rfl ?_
            refine s_callVP F [vI 0] [] lkX12_316 mX12_inSet rfl ha0 rfl hnE hn0 hd pX12_inSet (tX12_inSet cx.l x hi G1 a0 0 ha0) rfl rfl dX12_count_84 rfl rfl (fun v11 => ?_)
            exact x_iret F hnE hQ dX12_count_87
          · refine x_ite (fun h12 => ?_) (fun h12 => ?_)
            · refine x_tabIn (off := 82) (pc' := 88) F dX12_count_6 (by omega) (by omega) (by rw [h12]; rfl) rfl ?_
              refine x_aload_n F dX12_count_88 rfl rfl rfl ?_
              refine x_iconst F dX12_count_89 ⟨by decide, by decide⟩ rfl ?_
              refine s_callVP F [vI 0] [] lkX12_408 mX12_heldMany rfl ha0 rfl hnE hn0 hd pX12_heldMany (tX12_heldMany cx.l x hi G1 a0 0 ha0) rfl rfl dX12_count_90 rfl rfl (fun v13 => ?_)
              exact x_iret F hnE hQ dX12_count_93
            · refine x_ite (fun h14 => ?_) (fun h14 => ?_)
              · refine x_tabIn (off := 88) (pc' := 94) F dX12_count_6 (by omega) (by omega) (by rw [h14]; rfl) rfl ?_
                refine x_aload_n F dX12_count_94 rfl rfl rfl ?_
                refine x_getR F flX12_96 ha0 rfl dX12_count_95 rfl ?_
                refine x_iconst F dX12_count_98 ⟨by decide, by decide⟩ rfl ?_
                refine s_iald F (tf12_14 ha0).1 (tf12_14 ha0).2 dX12_count_99 rfl (fun v15 => ?_)
                exact x_iret F hnE hQ dX12_count_100
              · refine x_ite (fun h16 => ?_) (fun h16 => ?_)
                · refine x_tabIn (off := 95) (pc' := 101) F dX12_count_6 (by omega) (by omega) (by rw [h16]; rfl) rfl ?_
                  refine x_aload_n F dX12_count_101 rfl rfl rfl ?_
                  refine x_getR F flX12_105 ha0 rfl dX12_count_102 rfl ?_
                  refine x_sipush F dX12_count_105 ⟨by decide, by decide⟩ (by decide) rfl ?_
                  refine s_iald F (tf12_17 ha0).1 (tf12_17 ha0).2 dX12_count_108 rfl (fun v17 => ?_)
                  exact x_iret F hnE hQ dX12_count_109
                · refine x_ite (fun h18 => ?_) (fun h18 => ?_)
                  · refine x_tabIn (off := 104) (pc' := 110) F dX12_count_6 (by omega) (by omega) (by rw [h18]; rfl) rfl ?_
                    refine x_aload_n F dX12_count_110 rfl rfl rfl ?_
                    refine s_getI F flX12_272 ha0 rfl dX12_count_111 rfl ?_
                    exact x_iret F hnE hQ dX12_count_114
                  · refine x_ite (fun h19 => ?_) (fun h19 => ?_)
                    · refine x_tabIn (off := 109) (pc' := 115) F dX12_count_6 (by omega) (by omega) (by rw [h19]; rfl) rfl ?_
                      refine x_aload_n F dX12_count_115 rfl rfl rfl ?_
                      refine s_getI F flX12_11 ha0 rfl dX12_count_116 rfl ?_
                      exact x_iret F hnE hQ dX12_count_119
                    · refine x_tabOut (pc' := 120) F dX12_count_6 (by omega) rfl ?_
                      refine x_iconst F dX12_count_120 ⟨by decide, by decide⟩ rfl ?_
                      exact x_iret F hnE hQ dX12_count_121
theorem dX12_takeAfter_0 : decode cX12_takeAfter 0 = .ok (.aload_n 0, 1) := by decide +kernel
theorem dX12_takeAfter_1 : decode cX12_takeAfter 1 = .ok (.iload_n 1, 1) := by decide +kernel
theorem dX12_takeAfter_2 : decode cX12_takeAfter 2 = .ok (.invokevirtual 172, 3) := by decide +kernel
theorem dX12_takeAfter_5 : decode cX12_takeAfter 5 = .ok (.aload_n 0, 1) := by decide +kernel
theorem dX12_takeAfter_6 : decode cX12_takeAfter 6 = .ok (.iload_n 2, 1) := by decide +kernel
theorem dX12_takeAfter_7 : decode cX12_takeAfter 7 = .ok (.iload_n 3, 1) := by decide +kernel
theorem dX12_takeAfter_8 : decode cX12_takeAfter 8 = .ok (.invokevirtual 175, 3) := by decide +kernel
theorem dX12_takeAfter_11 : decode cX12_takeAfter 11 = .ok (.ireturn, 1) := by decide +kernel
def fX12_takeAfter (a0 : Nat) (a1 : Int) (a2 : Int) (a3 : Int) (G : Hp) : RT := bn (fX12_takeWord a0 a1 G) fun _ G1 => bn (fX12_takeNumber a0 a2 a3 G1) fun v2 G3 => rt v2 G3
set_option maxRecDepth 20000 in
set_option maxHeartbeats 4000000 in
theorem tX12_takeAfter (l : Launch) (x : WX) (hi : Inj x.2.2) (G : Hp) (a0 : Nat) (a1 : Int) (a2 : Int) (a3 : Int) (ha0 : kd a0 = 12) : Ct l x yX12_takeAfter cX12_takeAfter 4 (some .int) 3 129 129 [vR a0, vI a1, vI a2, vI a3] G (fX12_takeAfter a0 a1 a2 a3 G) := by
  refine ct_of (plainFor_of_name (by decide)) hi (Nat.le_refl _) (Nat.le_refl _) (Nat.le_of_ble_eq_true rfl) (fun cx F hd hn0 hnE hl hQ => ?_)
  subst hl
  have F : Fx cx x RX12 cX12_takeAfter 4 (some .int) := F
  show Y cx x 4 (some .int) 129 0 [(0, vR a0), (1, vI a1), (2, vI a2), (3, vI a3)] [] G _
  unfold fX12_takeAfter
  refine x_aload_n F dX12_takeAfter_0 rfl rfl rfl ?_
  refine x_iload_n F dX12_takeAfter_1 rfl rfl rfl ?_
  refine s_callVv F [vI a1] [] lkX12_172 mX12_takeWord rfl ha0 rfl hnE hn0 hd (tX12_takeWord cx.l x hi G a0 a1 ha0) rfl rfl dX12_takeAfter_2 rfl rfl (fun _ G1 => ?_)
  refine x_aload_n F dX12_takeAfter_5 rfl rfl rfl ?_
  refine x_iload_n F dX12_takeAfter_6 rfl rfl rfl ?_
  refine x_iload_n F dX12_takeAfter_7 rfl rfl rfl ?_
  refine s_callV F [vI a2, vI a3] [] lkX12_175 mX12_takeNumber rfl ha0 rfl hnE hn0 hd (tX12_takeNumber cx.l x hi G1 a0 a2 a3 ha0) rfl rfl dX12_takeAfter_8 rfl rfl (fun v2 G3 => ?_)
  exact x_iret F hnE hQ dX12_takeAfter_11
theorem dX12_takeTold_0 : decode cX12_takeTold 0 = .ok (.aload_n 0, 1) := by decide +kernel
theorem dX12_takeTold_1 : decode cX12_takeTold 1 = .ok (.getfield 157, 3) := by decide +kernel
theorem dX12_takeTold_4 : decode cX12_takeTold 4 = .ok (.ifCond .ne 15, 3) := by decide +kernel
theorem dX12_takeTold_7 : decode cX12_takeTold 7 = .ok (.aload_n 0, 1) := by decide +kernel
theorem dX12_takeTold_8 : decode cX12_takeTold 8 = .ok (.invokevirtual 182, 3) := by decide +kernel
theorem dX12_takeTold_11 : decode cX12_takeTold 11 = .ok (.ifCond .ne 8, 3) := by decide +kernel
theorem dX12_takeTold_14 : decode cX12_takeTold 14 = .ok (.aload_n 0, 1) := by decide +kernel
theorem dX12_takeTold_15 : decode cX12_takeTold 15 = .ok (.iconst 1, 1) := by decide +kernel
theorem dX12_takeTold_16 : decode cX12_takeTold 16 = .ok (.invokevirtual 163, 3) := by decide +kernel
theorem dX12_takeTold_19 : decode cX12_takeTold 19 = .ok (.aload_n 0, 1) := by decide +kernel
theorem dX12_takeTold_20 : decode cX12_takeTold 20 = .ok (.getfield 157, 3) := by decide +kernel
theorem dX12_takeTold_23 : decode cX12_takeTold 23 = .ok (.ifCond .le 7, 3) := by decide +kernel
theorem dX12_takeTold_26 : decode cX12_takeTold 26 = .ok (.iconst (-1), 1) := by decide +kernel
theorem dX12_takeTold_27 : decode cX12_takeTold 27 = .ok (.goto 9, 3) := by decide +kernel
theorem dX12_takeTold_30 : decode cX12_takeTold 30 = .ok (.aload_n 0, 1) := by decide +kernel
theorem dX12_takeTold_31 : decode cX12_takeTold 31 = .ok (.iload_n 1, 1) := by decide +kernel
theorem dX12_takeTold_32 : decode cX12_takeTold 32 = .ok (.iload_n 2, 1) := by decide +kernel
theorem dX12_takeTold_33 : decode cX12_takeTold 33 = .ok (.invokevirtual 186, 3) := by decide +kernel
theorem dX12_takeTold_36 : decode cX12_takeTold 36 = .ok (.istore_n 3, 1) := by decide +kernel
theorem dX12_takeTold_37 : decode cX12_takeTold 37 = .ok (.aload_n 0, 1) := by decide +kernel
theorem dX12_takeTold_38 : decode cX12_takeTold 38 = .ok (.getfield 157, 3) := by decide +kernel
theorem dX12_takeTold_41 : decode cX12_takeTold 41 = .ok (.ifCond .ne 12, 3) := by decide +kernel
theorem dX12_takeTold_44 : decode cX12_takeTold 44 = .ok (.iload_n 3, 1) := by decide +kernel
theorem dX12_takeTold_45 : decode cX12_takeTold 45 = .ok (.ifCond .ge 8, 3) := by decide +kernel
theorem dX12_takeTold_48 : decode cX12_takeTold 48 = .ok (.aload_n 0, 1) := by decide +kernel
theorem dX12_takeTold_49 : decode cX12_takeTold 49 = .ok (.iconst 2, 1) := by decide +kernel
theorem dX12_takeTold_50 : decode cX12_takeTold 50 = .ok (.invokevirtual 163, 3) := by decide +kernel
theorem dX12_takeTold_53 : decode cX12_takeTold 53 = .ok (.aload_n 0, 1) := by decide +kernel
theorem dX12_takeTold_54 : decode cX12_takeTold 54 = .ok (.dup, 1) := by decide +kernel
theorem dX12_takeTold_55 : decode cX12_takeTold 55 = .ok (.getfield 154, 3) := by decide +kernel
theorem dX12_takeTold_58 : decode cX12_takeTold 58 = .ok (.aload_n 0, 1) := by decide +kernel
theorem dX12_takeTold_59 : decode cX12_takeTold 59 = .ok (.getfield 157, 3) := by decide +kernel
theorem dX12_takeTold_62 : decode cX12_takeTold 62 = .ok (.ifCond .le 7, 3) := by decide +kernel
theorem dX12_takeTold_65 : decode cX12_takeTold 65 = .ok (.iconst 0, 1) := by decide +kernel
theorem dX12_takeTold_66 : decode cX12_takeTold 66 = .ok (.goto 4, 3) := by decide +kernel
theorem dX12_takeTold_69 : decode cX12_takeTold 69 = .ok (.iconst 1, 1) := by decide +kernel
theorem dX12_takeTold_70 : decode cX12_takeTold 70 = .ok (.iadd, 1) := by decide +kernel
theorem dX12_takeTold_71 : decode cX12_takeTold 71 = .ok (.putfield 154, 3) := by decide +kernel
theorem dX12_takeTold_74 : decode cX12_takeTold 74 = .ok (.aload_n 0, 1) := by decide +kernel
theorem dX12_takeTold_75 : decode cX12_takeTold 75 = .ok (.getfield 157, 3) := by decide +kernel
theorem dX12_takeTold_78 : decode cX12_takeTold 78 = .ok (.ifCond .le 7, 3) := by decide +kernel
theorem dX12_takeTold_81 : decode cX12_takeTold 81 = .ok (.iconst 0, 1) := by decide +kernel
theorem dX12_takeTold_82 : decode cX12_takeTold 82 = .ok (.goto 4, 3) := by decide +kernel
theorem dX12_takeTold_85 : decode cX12_takeTold 85 = .ok (.iload_n 3, 1) := by decide +kernel
theorem dX12_takeTold_86 : decode cX12_takeTold 86 = .ok (.ireturn, 1) := by decide +kernel
def fX12_takeTold (a0 : Nat) (a1 : Int) (a2 : Int) (G : Hp) : RT := jn (fun (G1 : Hp) => jn (fun (v3 : Int) => bd v3 fun v5 => jn (fun (G6 : Hp) => jn (fun (v8 : Int) => bh (up G6 a0 7 (iadd (G6 a0 7) v8)) fun G10 => if 0 < (G10 a0 8) then rt 0 G10 else rt v5 G10) fun (K9 : Int → RT) => if 0 < (G6 a0 8) then K9 0 else K9 1) fun (K7 : Hp → RT) => if (G1 a0 8) = 0 then (if v5 < 0 then (bn (fX12_wrong a0 2 G1) fun _ G11 => K7 G11) else K7 G1) else K7 G1) fun (K4 : Int → RT) => if 0 < (G1 a0 8) then (K4 ((-1))) else (bp (fX12_nameAt a0 a1 a2 G1) fun v13 => K4 v13)) fun (K2 : Hp → RT) => if (G a0 8) = 0 then (bp (fX12_isName a0 G) fun v14 => if v14 = 0 then (bn (fX12_wrong a0 1 G) fun _ G15 => K2 G15) else K2 G) else K2 G
set_option maxRecDepth 20000 in
set_option maxHeartbeats 4000000 in
theorem tX12_takeTold (l : Launch) (x : WX) (hi : Inj x.2.2) (G : Hp) (a0 : Nat) (a1 : Int) (a2 : Int) (ha0 : kd a0 = 12) : Ct l x yX12_takeTold cX12_takeTold 4 (some .int) 3 129 129 [vR a0, vI a1, vI a2] G (fX12_takeTold a0 a1 a2 G) := by
  refine ct_of (plainFor_of_name (by decide)) hi (Nat.le_refl _) (Nat.le_refl _) (Nat.le_of_ble_eq_true rfl) (fun cx F hd hn0 hnE hl hQ => ?_)
  subst hl
  have F : Fx cx x RX12 cX12_takeTold 4 (some .int) := F
  show Y cx x 4 (some .int) 129 0 [(0, vR a0), (1, vI a1), (2, vI a2)] [] G _
  unfold fX12_takeTold
  refine x_aload_n F dX12_takeTold_0 rfl rfl rfl ?_
  refine s_getI F flX12_157 ha0 rfl dX12_takeTold_1 rfl ?_
  refine x_jn (fun (K2 : Hp → RT) => ∀ (G1 : Hp), Y cx x 4 (some .int) 129 19 [(0, vR a0), (1, vI a1), (2, vI a2)] [] G1 (K2 G1)) ?_ (fun K2 hK2 => ?_)
  · intro G1
    refine x_aload_n F dX12_takeTold_19 rfl rfl rfl ?_
    refine s_getI F flX12_157 ha0 rfl dX12_takeTold_20 rfl ?_
    refine x_jn (fun (K4 : Int → RT) => ∀ (v3 : Int), Y cx x 4 (some .int) 129 36 [(0, vR a0)] [vI v3] G1 (K4 v3)) ?_ (fun K4 hK4 => ?_)
    · intro v3
      refine x_istore_n F dX12_takeTold_36 rfl (by decide) rfl rfl (fun v5 => ?_)
      show Y cx x _ _ _ _ [(0, vR a0), (3, vI v5)] _ _ _
      refine x_aload_n F dX12_takeTold_37 rfl rfl rfl ?_
      refine s_getI F flX12_157 ha0 rfl dX12_takeTold_38 rfl ?_
      refine x_jn (fun (K7 : Hp → RT) => ∀ (G6 : Hp), Y cx x 4 (some .int) 129 53 [(0, vR a0), (3, vI v5)] [] G6 (K7 G6)) ?_ (fun K7 hK7 => ?_)
      · intro G6
        refine x_aload_n F dX12_takeTold_53 rfl rfl rfl ?_
        refine x_dup F dX12_takeTold_54 rfl rfl ?_
        refine s_getI F flX12_154 ha0 rfl dX12_takeTold_55 rfl ?_
        refine x_aload_n F dX12_takeTold_58 rfl rfl rfl ?_
        refine s_getI F flX12_157 ha0 rfl dX12_takeTold_59 rfl ?_
        refine x_jn (fun (K9 : Int → RT) => ∀ (v8 : Int), Y cx x 4 (some .int) 129 70 [(0, vR a0), (3, vI v5)] [vI v8, vI (G6 a0 7), vR a0] G6 (K9 v8)) ?_ (fun K9 hK9 => ?_)
        · intro v8
          refine x_iadd F dX12_takeTold_70 rfl ?_
          refine s_putI F fpX12_154 ha0 rfl dX12_takeTold_71 rfl (fun G10 => ?_)
          refine x_aload_n F dX12_takeTold_74 rfl rfl rfl ?_
          refine s_getI F flX12_157 ha0 rfl dX12_takeTold_75 rfl ?_
          refine x_ifle (pt := 85) F dX12_takeTold_78 rfl rfl ?_ ?_
          · refine x_iconst F dX12_takeTold_81 ⟨by decide, by decide⟩ rfl ?_
            refine x_goto (pc' := 86) F dX12_takeTold_82 rfl ?_
            exact x_iret F hnE hQ dX12_takeTold_86
          · refine x_iload_n F dX12_takeTold_85 rfl rfl rfl ?_
            exact x_iret F hnE hQ dX12_takeTold_86
        · refine x_ifle (pt := 69) F dX12_takeTold_62 rfl rfl ?_ ?_
          · refine x_iconst F dX12_takeTold_65 ⟨by decide, by decide⟩ rfl ?_
            refine x_goto (pc' := 70) F dX12_takeTold_66 rfl ?_
            exact hK9 0
          · refine x_iconst F dX12_takeTold_69 ⟨by decide, by decide⟩ rfl ?_
            exact hK9 1
      · refine x_ifne (pt := 53) F dX12_takeTold_41 rfl rfl ?_ ?_
        · refine x_iload_n F dX12_takeTold_44 rfl rfl rfl ?_
          refine x_ifge (pt := 53) F dX12_takeTold_45 rfl rfl ?_ ?_
          · refine x_aload_n F dX12_takeTold_48 rfl rfl rfl ?_
            refine x_iconst F dX12_takeTold_49 ⟨by decide, by decide⟩ rfl ?_
            refine s_callVv F [vI 2] [] lkX12_163 mX12_wrong rfl ha0 rfl hnE hn0 hd (tX12_wrong cx.l x hi G1 a0 2 ha0) rfl rfl dX12_takeTold_50 rfl rfl (fun _ G11 => ?_)
            exact hK7 G11
          · exact hK7 G1
        · exact hK7 G1
    · refine x_ifle (pt := 30) F dX12_takeTold_23 rfl rfl ?_ ?_
      · refine x_iconst F dX12_takeTold_26 ⟨by decide, by decide⟩ rfl ?_
        refine x_goto (pc' := 36) F dX12_takeTold_27 rfl ?_
        refine x_dp (L' := [(0, vR a0)]) [0] rfl ?_
        exact hK4 ((-1))
      · refine x_aload_n F dX12_takeTold_30 rfl rfl rfl ?_
        refine x_iload_n F dX12_takeTold_31 rfl rfl rfl ?_
        refine x_iload_n F dX12_takeTold_32 rfl rfl rfl ?_
        refine s_callVP F [vI a1, vI a2] [] lkX12_186 mX12_nameAt rfl ha0 rfl hnE hn0 hd pX12_nameAt (tX12_nameAt cx.l x hi G1 a0 a1 a2 ha0) rfl rfl dX12_takeTold_33 rfl rfl (fun v13 => ?_)
        refine x_dp (L' := [(0, vR a0)]) [0] rfl ?_
        exact hK4 v13
  · refine x_ifne (pt := 19) F dX12_takeTold_4 rfl rfl ?_ ?_
    · refine x_aload_n F dX12_takeTold_7 rfl rfl rfl ?_
      refine s_callVP F [] [] lkX12_182 mX12_isName rfl ha0 rfl hnE hn0 hd pX12_isName (tX12_isName cx.l x hi G a0 ha0) rfl rfl dX12_takeTold_8 rfl rfl (fun v14 => ?_)
      refine x_ifne (pt := 19) F dX12_takeTold_11 rfl rfl ?_ ?_
      · refine x_aload_n F dX12_takeTold_14 rfl rfl rfl ?_
        refine x_iconst F dX12_takeTold_15 ⟨by decide, by decide⟩ rfl ?_
        refine s_callVv F [vI 1] [] lkX12_163 mX12_wrong rfl ha0 rfl hnE hn0 hd (tX12_wrong cx.l x hi G a0 1 ha0) rfl rfl dX12_takeTold_16 rfl rfl (fun _ G15 => ?_)
        exact hK2 G15
      · exact hK2 G
    · exact hK2 G
theorem dX12_readName_0 : decode cX12_readName 0 = .ok (.iload_n 2, 1) := by decide +kernel
theorem dX12_readName_1 : decode cX12_readName 1 = .ok (.iload_n 3, 1) := by decide +kernel
theorem dX12_readName_2 : decode cX12_readName 2 = .ok (.if_icmp .ne 9, 3) := by decide +kernel
theorem dX12_readName_5 : decode cX12_readName 5 = .ok (.aload_n 0, 1) := by decide +kernel
theorem dX12_readName_6 : decode cX12_readName 6 = .ok (.iconst 5, 1) := by decide +kernel
theorem dX12_readName_7 : decode cX12_readName 7 = .ok (.invokevirtual 163, 3) := by decide +kernel
theorem dX12_readName_10 : decode cX12_readName 10 = .ok (.return_, 1) := by decide +kernel
theorem dX12_readName_11 : decode cX12_readName 11 = .ok (.aload_n 0, 1) := by decide +kernel
theorem dX12_readName_12 : decode cX12_readName 12 = .ok (.dup, 1) := by decide +kernel
theorem dX12_readName_13 : decode cX12_readName 13 = .ok (.getfield 154, 3) := by decide +kernel
theorem dX12_readName_16 : decode cX12_readName 16 = .ok (.iconst 1, 1) := by decide +kernel
theorem dX12_readName_17 : decode cX12_readName 17 = .ok (.iadd, 1) := by decide +kernel
theorem dX12_readName_18 : decode cX12_readName 18 = .ok (.putfield 154, 3) := by decide +kernel
theorem dX12_readName_21 : decode cX12_readName 21 = .ok (.aload_n 0, 1) := by decide +kernel
theorem dX12_readName_22 : decode cX12_readName 22 = .ok (.invokevirtual 182, 3) := by decide +kernel
theorem dX12_readName_25 : decode cX12_readName 25 = .ok (.ifCond .ne 11, 3) := by decide +kernel
theorem dX12_readName_28 : decode cX12_readName 28 = .ok (.aload_n 0, 1) := by decide +kernel
theorem dX12_readName_29 : decode cX12_readName 29 = .ok (.iconst 1, 1) := by decide +kernel
theorem dX12_readName_30 : decode cX12_readName 30 = .ok (.invokevirtual 163, 3) := by decide +kernel
theorem dX12_readName_33 : decode cX12_readName 33 = .ok (.goto 36, 3) := by decide +kernel
theorem dX12_readName_36 : decode cX12_readName 36 = .ok (.aload_n 0, 1) := by decide +kernel
theorem dX12_readName_37 : decode cX12_readName 37 = .ok (.bipush 18, 2) := by decide +kernel
theorem dX12_readName_39 : decode cX12_readName 39 = .ok (.aload_n 0, 1) := by decide +kernel
theorem dX12_readName_40 : decode cX12_readName 40 = .ok (.iconst 2, 1) := by decide +kernel
theorem dX12_readName_41 : decode cX12_readName 41 = .ok (.invokevirtual 201, 3) := by decide +kernel
theorem dX12_readName_44 : decode cX12_readName 44 = .ok (.invokevirtual 186, 3) := by decide +kernel
theorem dX12_readName_47 : decode cX12_readName 47 = .ok (.ifCond .ge 17, 3) := by decide +kernel
theorem dX12_readName_50 : decode cX12_readName 50 = .ok (.aload_n 0, 1) := by decide +kernel
theorem dX12_readName_51 : decode cX12_readName 51 = .ok (.bipush 26, 2) := by decide +kernel
theorem dX12_readName_53 : decode cX12_readName 53 = .ok (.aload_n 0, 1) := by decide +kernel
theorem dX12_readName_54 : decode cX12_readName 54 = .ok (.iconst 3, 1) := by decide +kernel
theorem dX12_readName_55 : decode cX12_readName 55 = .ok (.invokevirtual 201, 3) := by decide +kernel
theorem dX12_readName_58 : decode cX12_readName 58 = .ok (.invokevirtual 186, 3) := by decide +kernel
theorem dX12_readName_61 : decode cX12_readName 61 = .ok (.ifCond .lt 8, 3) := by decide +kernel
theorem dX12_readName_64 : decode cX12_readName 64 = .ok (.aload_n 0, 1) := by decide +kernel
theorem dX12_readName_65 : decode cX12_readName 65 = .ok (.iconst 3, 1) := by decide +kernel
theorem dX12_readName_66 : decode cX12_readName 66 = .ok (.invokevirtual 163, 3) := by decide +kernel
theorem dX12_readName_69 : decode cX12_readName 69 = .ok (.aload_n 0, 1) := by decide +kernel
theorem dX12_readName_70 : decode cX12_readName 70 = .ok (.getfield 157, 3) := by decide +kernel
theorem dX12_readName_73 : decode cX12_readName 73 = .ok (.ifCond .ne 33, 3) := by decide +kernel
theorem dX12_readName_76 : decode cX12_readName 76 = .ok (.aload_n 0, 1) := by decide +kernel
theorem dX12_readName_77 : decode cX12_readName 77 = .ok (.getfield 93, 3) := by decide +kernel
theorem dX12_readName_80 : decode cX12_readName 80 = .ok (.bipush 18, 2) := by decide +kernel
theorem dX12_readName_82 : decode cX12_readName 82 = .ok (.iload_n 1, 1) := by decide +kernel
theorem dX12_readName_83 : decode cX12_readName 83 = .ok (.iadd, 1) := by decide +kernel
theorem dX12_readName_84 : decode cX12_readName 84 = .ok (.iload_n 2, 1) := by decide +kernel
theorem dX12_readName_85 : decode cX12_readName 85 = .ok (.iadd, 1) := by decide +kernel
theorem dX12_readName_86 : decode cX12_readName 86 = .ok (.aload_n 0, 1) := by decide +kernel
theorem dX12_readName_87 : decode cX12_readName 87 = .ok (.getfield 30, 3) := by decide +kernel
theorem dX12_readName_90 : decode cX12_readName 90 = .ok (.aload_n 0, 1) := by decide +kernel
theorem dX12_readName_91 : decode cX12_readName 91 = .ok (.getfield 154, 3) := by decide +kernel
theorem dX12_readName_94 : decode cX12_readName 94 = .ok (.laload, 1) := by decide +kernel
theorem dX12_readName_95 : decode cX12_readName 95 = .ok (.lastore, 1) := by decide +kernel
theorem dX12_readName_96 : decode cX12_readName 96 = .ok (.aload_n 0, 1) := by decide +kernel
theorem dX12_readName_97 : decode cX12_readName 97 = .ok (.dup, 1) := by decide +kernel
theorem dX12_readName_98 : decode cX12_readName 98 = .ok (.getfield 154, 3) := by decide +kernel
theorem dX12_readName_101 : decode cX12_readName 101 = .ok (.iconst 1, 1) := by decide +kernel
theorem dX12_readName_102 : decode cX12_readName 102 = .ok (.iadd, 1) := by decide +kernel
theorem dX12_readName_103 : decode cX12_readName 103 = .ok (.putfield 154, 3) := by decide +kernel
theorem dX12_readName_106 : decode cX12_readName 106 = .ok (.return_, 1) := by decide +kernel
def fX12_readName (a0 : Nat) (a1 : Int) (a2 : Int) (a3 : Int) (G : Hp) : RT := if a2 = a3 then (bn (fX12_wrong a0 5 G) fun _ G17 => rt 0 G17) else (bh (up G a0 7 (iadd (G a0 7) 1)) fun G1 => bp (fX12_isName a0 G1) fun v2 => jn (fun (G3 : Hp) => if (G3 a0 8) = 0 then (br (rd G3 ((rf a0 6)) 1002 (G3 a0 7)) fun v5 => bs (wr G3 ((rf a0 13)) 36 (iadd (iadd 18 a1) a2) v5) fun G6 => bh (up G6 a0 7 (iadd (G6 a0 7) 1)) fun G7 => rt 0 G7) else rt 0 G3) fun (K4 : Hp → RT) => if v2 = 0 then (bn (fX12_wrong a0 1 G1) fun _ G15 => K4 G15) else (bp (fX12_told a0 2 G1) fun v8 => bp (fX12_nameAt a0 18 v8 G1) fun v9 => jn (bn (fX12_wrong a0 3 G1) fun _ G11 => K4 G11) fun (K10 : RT) => if v9 < 0 then (bp (fX12_told a0 3 G1) fun v13 => bp (fX12_nameAt a0 26 v13 G1) fun v14 => if v14 < 0 then K4 G1 else K10) else K10))
set_option maxRecDepth 20000 in
set_option maxHeartbeats 4000000 in
theorem tX12_readName (l : Launch) (x : WX) (hi : Inj x.2.2) (G : Hp) (a0 : Nat) (a1 : Int) (a2 : Int) (a3 : Int) (ha0 : kd a0 = 12) : Ct l x yX12_readName cX12_readName 4 none 3 129 129 [vR a0, vI a1, vI a2, vI a3] G (fX12_readName a0 a1 a2 a3 G) := by
  refine ct_of (plainFor_of_name (by decide)) hi (Nat.le_refl _) (Nat.le_refl _) (Nat.le_of_ble_eq_true rfl) (fun cx F hd hn0 hnE hl hQ => ?_)
  subst hl
  have F : Fx cx x RX12 cX12_readName 4 none := F
  show Y cx x 4 none 129 0 [(0, vR a0), (1, vI a1), (2, vI a2), (3, vI a3)] [] G _
  unfold fX12_readName
  refine x_iload_n F dX12_readName_0 rfl rfl rfl ?_
  refine x_iload_n F dX12_readName_1 rfl rfl rfl ?_
  refine x_icmpne (pt := 11) F dX12_readName_2 rfl rfl ?_ ?_
  · refine x_aload_n F dX12_readName_5 rfl rfl rfl ?_
    refine x_iconst F dX12_readName_6 ⟨by decide, by decide⟩ rfl ?_
    refine s_callVv F [vI 5] [] lkX12_163 mX12_wrong rfl ha0 rfl hnE hn0 hd (tX12_wrong cx.l x hi G a0 5 ha0) rfl rfl dX12_readName_7 rfl rfl (fun _ G17 => ?_)
    exact x_vret F hnE hQ dX12_readName_10
  · refine x_aload_n F dX12_readName_11 rfl rfl rfl ?_
    refine x_dup F dX12_readName_12 rfl rfl ?_
    refine s_getI F flX12_154 ha0 rfl dX12_readName_13 rfl ?_
    refine x_iconst F dX12_readName_16 ⟨by decide, by decide⟩ rfl ?_
    refine x_iadd F dX12_readName_17 rfl ?_
    refine s_putI F fpX12_154 ha0 rfl dX12_readName_18 rfl (fun G1 => ?_)
    refine x_aload_n F dX12_readName_21 rfl rfl rfl ?_
    refine s_callVP F [] [] lkX12_182 mX12_isName rfl ha0 rfl hnE hn0 hd pX12_isName (tX12_isName cx.l x hi G1 a0 ha0) rfl rfl dX12_readName_22 rfl rfl (fun v2 => ?_)
    refine x_jn (fun (K4 : Hp → RT) => ∀ (G3 : Hp), Y cx x 4 none 129 69 [(0, vR a0), (1, vI a1), (2, vI a2)] [] G3 (K4 G3)) ?_ (fun K4 hK4 => ?_)
    · intro G3
      refine x_aload_n F dX12_readName_69 rfl rfl rfl ?_
      refine s_getI F flX12_157 ha0 rfl dX12_readName_70 rfl ?_
      refine x_ifne (pt := 106) F dX12_readName_73 rfl rfl ?_ ?_
      · refine x_aload_n F dX12_readName_76 rfl rfl rfl ?_
        refine x_getR F flX12_93 ha0 rfl dX12_readName_77 rfl ?_
        refine x_bipush F dX12_readName_80 ⟨by decide, by decide⟩ (by decide) rfl ?_
        refine x_iload_n F dX12_readName_82 rfl rfl rfl ?_
        refine x_iadd F dX12_readName_83 rfl ?_
        refine x_iload_n F dX12_readName_84 rfl rfl rfl ?_
        refine x_iadd F dX12_readName_85 rfl ?_
        refine x_aload_n F dX12_readName_86 rfl rfl rfl ?_
        refine x_getR F flX12_30 ha0 rfl dX12_readName_87 rfl ?_
        refine x_aload_n F dX12_readName_90 rfl rfl rfl ?_
        refine s_getI F flX12_154 ha0 rfl dX12_readName_91 rfl ?_
        refine s_lald F (tf12_6 ha0).1 (tf12_6 ha0).2 dX12_readName_94 rfl (fun v5 => ?_)
        refine s_last F (tf12_13 ha0).1 (tf12_13 ha0).2 dX12_readName_95 rfl (fun G6 => ?_)
        refine x_aload_n F dX12_readName_96 rfl rfl rfl ?_
        refine x_dup F dX12_readName_97 rfl rfl ?_
        refine s_getI F flX12_154 ha0 rfl dX12_readName_98 rfl ?_
        refine x_iconst F dX12_readName_101 ⟨by decide, by decide⟩ rfl ?_
        refine x_iadd F dX12_readName_102 rfl ?_
        refine s_putI F fpX12_154 ha0 rfl dX12_readName_103 rfl (fun G7 => ?_)
        exact x_vret F hnE hQ dX12_readName_106
      · exact x_vret F hnE hQ dX12_readName_106
    · refine x_ifne (pt := 36) F dX12_readName_25 rfl rfl ?_ ?_
      · refine x_aload_n F dX12_readName_28 rfl rfl rfl ?_
        refine x_iconst F dX12_readName_29 ⟨by decide, by decide⟩ rfl ?_
        refine s_callVv F [vI 1] [] lkX12_163 mX12_wrong rfl ha0 rfl hnE hn0 hd (tX12_wrong cx.l x hi G1 a0 1 ha0) rfl rfl dX12_readName_30 rfl rfl (fun _ G15 => ?_)
        refine x_goto (pc' := 69) F dX12_readName_33 rfl ?_
        refine x_dp (L' := [(0, vR a0), (1, vI a1), (2, vI a2)]) [0, 1, 2] rfl ?_
        exact hK4 G15
      · refine x_aload_n F dX12_readName_36 rfl rfl rfl ?_
        refine x_bipush F dX12_readName_37 ⟨by decide, by decide⟩ (by decide) rfl ?_
        refine x_aload_n F dX12_readName_39 rfl rfl rfl ?_
        refine x_iconst F dX12_readName_40 ⟨by decide, by decide⟩ rfl ?_
        refine s_callVP F [vI 2] [vI 18, vR a0] lkX12_201 mX12_told rfl ha0 rfl hnE hn0 hd pX12_told (tX12_told cx.l x hi G1 a0 2 ha0) rfl rfl dX12_readName_41 rfl rfl (fun v8 => ?_)
        refine s_callVP F [vI 18, vI v8] [] lkX12_186 mX12_nameAt rfl ha0 rfl hnE hn0 hd pX12_nameAt (tX12_nameAt cx.l x hi G1 a0 18 v8 ha0) rfl rfl dX12_readName_44 rfl rfl (fun v9 => ?_)
        refine x_jn (fun (K10 : RT) => Y cx x 4 none 129 64 [(0, vR a0), (1, vI a1), (2, vI a2)] [] G1 K10) ?_ (fun K10 hK10 => ?_)
        · refine x_aload_n F dX12_readName_64 rfl rfl rfl ?_
          refine x_iconst F dX12_readName_65 ⟨by decide, by decide⟩ rfl ?_
          refine s_callVv F [vI 3] [] lkX12_163 mX12_wrong rfl ha0 rfl hnE hn0 hd (tX12_wrong cx.l x hi G1 a0 3 ha0) rfl rfl dX12_readName_66 rfl rfl (fun _ G11 => ?_)
          exact hK4 G11
        · refine x_ifge (pt := 64) F dX12_readName_47 rfl rfl ?_ ?_
          · refine x_aload_n F dX12_readName_50 rfl rfl rfl ?_
            refine x_bipush F dX12_readName_51 ⟨by decide, by decide⟩ (by decide) rfl ?_
            refine x_aload_n F dX12_readName_53 rfl rfl rfl ?_
            refine x_iconst F dX12_readName_54 ⟨by decide, by decide⟩ rfl ?_
            refine s_callVP F [vI 3] [vI 26, vR a0] lkX12_201 mX12_told rfl ha0 rfl hnE hn0 hd pX12_told (tX12_told cx.l x hi G1 a0 3 ha0) rfl rfl dX12_readName_55 rfl rfl (fun v13 => ?_)
            refine s_callVP F [vI 26, vI v13] [] lkX12_186 mX12_nameAt rfl ha0 rfl hnE hn0 hd pX12_nameAt (tX12_nameAt cx.l x hi G1 a0 26 v13 ha0) rfl rfl dX12_readName_58 rfl rfl (fun v14 => ?_)
            refine x_iflt (pt := 69) F dX12_readName_61 rfl rfl ?_ ?_
            · refine x_dp (L' := [(0, vR a0), (1, vI a1), (2, vI a2)]) [0, 1, 2] rfl ?_
              exact hK4 G1
            · refine x_dp (L' := [(0, vR a0), (1, vI a1), (2, vI a2)]) [0, 1, 2] rfl ?_
              exact hK10
          · refine x_dp (L' := [(0, vR a0), (1, vI a1), (2, vI a2)]) [0, 1, 2] rfl ?_
            exact hK10
theorem dX12_begins_0 : decode cX12_begins 0 = .ok (.aload_n 0, 1) := by decide +kernel
theorem dX12_begins_1 : decode cX12_begins 1 = .ok (.invokevirtual 266, 3) := by decide +kernel
theorem dX12_begins_4 : decode cX12_begins 4 = .ok (.aload_n 0, 1) := by decide +kernel
theorem dX12_begins_5 : decode cX12_begins 5 = .ok (.iconst 0, 1) := by decide +kernel
theorem dX12_begins_6 : decode cX12_begins 6 = .ok (.invokevirtual 269, 3) := by decide +kernel
theorem dX12_begins_9 : decode cX12_begins 9 = .ok (.aload_n 0, 1) := by decide +kernel
theorem dX12_begins_10 : decode cX12_begins 10 = .ok (.getfield 105, 3) := by decide +kernel
theorem dX12_begins_13 : decode cX12_begins 13 = .ok (.sipush 130, 3) := by decide +kernel
theorem dX12_begins_16 : decode cX12_begins 16 = .ok (.iconst 0, 1) := by decide +kernel
theorem dX12_begins_17 : decode cX12_begins 17 = .ok (.iastore, 1) := by decide +kernel
theorem dX12_begins_18 : decode cX12_begins 18 = .ok (.aload_n 0, 1) := by decide +kernel
theorem dX12_begins_19 : decode cX12_begins 19 = .ok (.getfield 96, 3) := by decide +kernel
theorem dX12_begins_22 : decode cX12_begins 22 = .ok (.iconst 0, 1) := by decide +kernel
theorem dX12_begins_23 : decode cX12_begins 23 = .ok (.iconst 0, 1) := by decide +kernel
theorem dX12_begins_24 : decode cX12_begins 24 = .ok (.iastore, 1) := by decide +kernel
theorem dX12_begins_25 : decode cX12_begins 25 = .ok (.aload_n 0, 1) := by decide +kernel
theorem dX12_begins_26 : decode cX12_begins 26 = .ok (.iconst 0, 1) := by decide +kernel
theorem dX12_begins_27 : decode cX12_begins 27 = .ok (.putfield 272, 3) := by decide +kernel
theorem dX12_begins_30 : decode cX12_begins 30 = .ok (.iconst 0, 1) := by decide +kernel
theorem dX12_begins_31 : decode cX12_begins 31 = .ok (.istore_n 1, 1) := by decide +kernel
theorem dX12_begins_32 : decode cX12_begins 32 = .ok (.iload_n 1, 1) := by decide +kernel
theorem dX12_begins_33 : decode cX12_begins 33 = .ok (.iconst 4, 1) := by decide +kernel
theorem dX12_begins_34 : decode cX12_begins 34 = .ok (.if_icmp .ge 16, 3) := by decide +kernel
theorem dX12_begins_37 : decode cX12_begins 37 = .ok (.aload_n 0, 1) := by decide +kernel
theorem dX12_begins_38 : decode cX12_begins 38 = .ok (.getfield 108, 3) := by decide +kernel
theorem dX12_begins_41 : decode cX12_begins 41 = .ok (.iload_n 1, 1) := by decide +kernel
theorem dX12_begins_42 : decode cX12_begins 42 = .ok (.iconst 0, 1) := by decide +kernel
theorem dX12_begins_43 : decode cX12_begins 43 = .ok (.bastore, 1) := by decide +kernel
theorem dX12_begins_44 : decode cX12_begins 44 = .ok (.iinc 1 1, 3) := by decide +kernel
theorem dX12_begins_47 : decode cX12_begins 47 = .ok (.goto (-15), 3) := by decide +kernel
theorem dX12_begins_50 : decode cX12_begins 50 = .ok (.return_, 1) := by decide +kernel
def fX12_begins (a0 : Nat) (G : Hp) : RT := bn (fX12_liesAll a0 G) fun _ G1 => bn (fX12_starts a0 0 G1) fun _ G2 => bs (wr G2 ((rf a0 17)) 3565 130 0) fun G3 => bs (wr G3 ((rf a0 14)) 241 0 0) fun G4 => bh (up G4 a0 18 0) fun G5 => bd 0 fun v6 => (lp (fun (_ : Int) (_ : Hp) => (none : RT)) 5000 (fun (rc9 : Int → Hp → RT) (v7 : Int) (G8 : Hp) => if v7 < 4 then (bs (wrZ G8 ((rf a0 19)) 4 v7 0) fun G10 => bd (iadd v7 1) fun v11 => rc9 v11 G10) else rt 0 G8)) v6 G5
set_option maxRecDepth 20000 in
set_option maxHeartbeats 4000000 in
theorem tX12_begins (l : Launch) (x : WX) (hi : Inj x.2.2) (G : Hp) (a0 : Nat) (ha0 : kd a0 = 12) : Ct l x yX12_begins cX12_begins 2 none 3 129 129 [vR a0] G (fX12_begins a0 G) := by
  refine ct_of (plainFor_of_name (by decide)) hi (Nat.le_refl _) (Nat.le_refl _) (Nat.le_of_ble_eq_true rfl) (fun cx F hd hn0 hnE hl hQ => ?_)
  subst hl
  have F : Fx cx x RX12 cX12_begins 2 none := F
  show Y cx x 2 none 129 0 [(0, vR a0)] [] G _
  unfold fX12_begins
  refine x_aload_n F dX12_begins_0 rfl rfl rfl ?_
  refine s_callVv F [] [] lkX12_266 mX12_liesAll rfl ha0 rfl hnE hn0 hd (tX12_liesAll cx.l x hi G a0 ha0) rfl rfl dX12_begins_1 rfl rfl (fun _ G1 => ?_)
  refine x_aload_n F dX12_begins_4 rfl rfl rfl ?_
  refine x_iconst F dX12_begins_5 ⟨by decide, by decide⟩ rfl ?_
  refine s_callVv F [vI 0] [] lkX12_269 mX12_starts rfl ha0 rfl hnE hn0 hd (tX12_starts cx.l x hi G1 a0 0 ha0) rfl rfl dX12_begins_6 rfl rfl (fun _ G2 => ?_)
  refine x_aload_n F dX12_begins_9 rfl rfl rfl ?_
  refine x_getR F flX12_105 ha0 rfl dX12_begins_10 rfl ?_
  refine x_sipush F dX12_begins_13 ⟨by decide, by decide⟩ (by decide) rfl ?_
  refine x_iconst F dX12_begins_16 ⟨by decide, by decide⟩ rfl ?_
  refine s_iast F (tf12_17 ha0).1 (tf12_17 ha0).2 dX12_begins_17 rfl (fun G3 => ?_)
  refine x_aload_n F dX12_begins_18 rfl rfl rfl ?_
  refine x_getR F flX12_96 ha0 rfl dX12_begins_19 rfl ?_
  refine x_iconst F dX12_begins_22 ⟨by decide, by decide⟩ rfl ?_
  refine x_iconst F dX12_begins_23 ⟨by decide, by decide⟩ rfl ?_
  refine s_iast F (tf12_14 ha0).1 (tf12_14 ha0).2 dX12_begins_24 rfl (fun G4 => ?_)
  refine x_aload_n F dX12_begins_25 rfl rfl rfl ?_
  refine x_iconst F dX12_begins_26 ⟨by decide, by decide⟩ rfl ?_
  refine s_putI F fpX12_272 ha0 rfl dX12_begins_27 rfl (fun G5 => ?_)
  refine x_iconst F dX12_begins_30 ⟨by decide, by decide⟩ rfl ?_
  refine x_istore_n F dX12_begins_31 rfl (by decide) rfl rfl (fun v6 => ?_)
  show Y cx x _ _ _ _ [(0, vR a0), (1, vI v6)] _ _ _
  refine x_lp (fun (rc9 : Int → Hp → RT) => ∀ (v7 : Int) (G8 : Hp), Y cx x 2 none 129 32 [(0, vR a0), (1, vI v7)] [] G8 (rc9 v7 G8)) (fun _ _ => Y_none) (fun rc9 hrc9 v7 G8 => ?_) 5000 v6 G5
  refine x_iload_n F dX12_begins_32 rfl rfl rfl ?_
  refine x_iconst F dX12_begins_33 ⟨by decide, by decide⟩ rfl ?_
  refine x_icmpge (pt := 50) F dX12_begins_34 rfl rfl ?_ ?_
  · refine x_aload_n F dX12_begins_37 rfl rfl rfl ?_
    refine x_getR F flX12_108 ha0 rfl dX12_begins_38 rfl ?_
    refine x_iload_n F dX12_begins_41 rfl rfl rfl ?_
    refine x_iconst F dX12_begins_42 ⟨by decide, by decide⟩ rfl ?_
    refine s_zast F (tf12_19 ha0).1 (tf12_19 ha0).2 dX12_begins_43 rfl (fun G10 => ?_)
    refine x_iinc F dX12_begins_44 rfl (by decide) rfl rfl (fun v11 => ?_)
    show Y cx x _ _ _ _ [(0, vR a0), (1, vI v11)] _ _ _
    refine x_goto (pc' := 32) F dX12_begins_47 rfl ?_
    exact hrc9 v11 G10
  · exact x_vret F hnE hQ dX12_begins_50
theorem dX12_farther_0 : decode cX12_farther 0 = .ok (.aload_n 0, 1) := by decide +kernel
theorem dX12_farther_1 : decode cX12_farther 1 = .ok (.iload_n 1, 1) := by decide +kernel
theorem dX12_farther_2 : decode cX12_farther 2 = .ok (.iload 5, 2) := by decide +kernel
theorem dX12_farther_4 : decode cX12_farther 4 = .ok (.invokevirtual 278, 3) := by decide +kernel
theorem dX12_farther_7 : decode cX12_farther 7 = .ok (.ifCond .eq 27, 3) := by decide +kernel
theorem dX12_farther_10 : decode cX12_farther 10 = .ok (.aload_n 0, 1) := by decide +kernel
theorem dX12_farther_11 : decode cX12_farther 11 = .ok (.iload_n 2, 1) := by decide +kernel
theorem dX12_farther_12 : decode cX12_farther 12 = .ok (.iload 5, 2) := by decide +kernel
theorem dX12_farther_14 : decode cX12_farther 14 = .ok (.invokevirtual 297, 3) := by decide +kernel
theorem dX12_farther_17 : decode cX12_farther 17 = .ok (.aload_n 0, 1) := by decide +kernel
theorem dX12_farther_18 : decode cX12_farther 18 = .ok (.aload_n 0, 1) := by decide +kernel
theorem dX12_farther_19 : decode cX12_farther 19 = .ok (.iload_n 2, 1) := by decide +kernel
theorem dX12_farther_20 : decode cX12_farther 20 = .ok (.invokevirtual 282, 3) := by decide +kernel
theorem dX12_farther_23 : decode cX12_farther 23 = .ok (.iload_n 3, 1) := by decide +kernel
theorem dX12_farther_24 : decode cX12_farther 24 = .ok (.invokevirtual 285, 3) := by decide +kernel
theorem dX12_farther_27 : decode cX12_farther 27 = .ok (.if_icmp .ge 7, 3) := by decide +kernel
theorem dX12_farther_30 : decode cX12_farther 30 = .ok (.iconst 1, 1) := by decide +kernel
theorem dX12_farther_31 : decode cX12_farther 31 = .ok (.goto 4, 3) := by decide +kernel
theorem dX12_farther_34 : decode cX12_farther 34 = .ok (.iconst 0, 1) := by decide +kernel
theorem dX12_farther_35 : decode cX12_farther 35 = .ok (.istore 6, 2) := by decide +kernel
theorem dX12_farther_37 : decode cX12_farther 37 = .ok (.iload 6, 2) := by decide +kernel
theorem dX12_farther_39 : decode cX12_farther 39 = .ok (.ifCond .eq 30, 3) := by decide +kernel
theorem dX12_farther_42 : decode cX12_farther 42 = .ok (.iload 4, 2) := by decide +kernel
theorem dX12_farther_44 : decode cX12_farther 44 = .ok (.ifCond .lt 20, 3) := by decide +kernel
theorem dX12_farther_47 : decode cX12_farther 47 = .ok (.aload_n 0, 1) := by decide +kernel
theorem dX12_farther_48 : decode cX12_farther 48 = .ok (.iload_n 2, 1) := by decide +kernel
theorem dX12_farther_49 : decode cX12_farther 49 = .ok (.iload 5, 2) := by decide +kernel
theorem dX12_farther_51 : decode cX12_farther 51 = .ok (.invokevirtual 297, 3) := by decide +kernel
theorem dX12_farther_54 : decode cX12_farther 54 = .ok (.aload_n 0, 1) := by decide +kernel
theorem dX12_farther_55 : decode cX12_farther 55 = .ok (.iload_n 2, 1) := by decide +kernel
theorem dX12_farther_56 : decode cX12_farther 56 = .ok (.iload 4, 2) := by decide +kernel
theorem dX12_farther_58 : decode cX12_farther 58 = .ok (.invokevirtual 297, 3) := by decide +kernel
theorem dX12_farther_61 : decode cX12_farther 61 = .ok (.if_icmp .le 8, 3) := by decide +kernel
theorem dX12_farther_64 : decode cX12_farther 64 = .ok (.iload 5, 2) := by decide +kernel
theorem dX12_farther_66 : decode cX12_farther 66 = .ok (.goto 5, 3) := by decide +kernel
theorem dX12_farther_69 : decode cX12_farther 69 = .ok (.iload 4, 2) := by decide +kernel
theorem dX12_farther_71 : decode cX12_farther 71 = .ok (.ireturn, 1) := by decide +kernel
def fX12_farther (a0 : Nat) (a1 : Int) (a2 : Int) (a3 : Int) (a4 : Int) (a5 : Int) (G : Hp) : RT := bp (fX12_isIn a0 a1 a5 G) fun v1 => jn (fun (v2 : Int) => bd v2 fun v4 => if v4 = 0 then rt a4 G else (jn (rt a5 G) fun (K5 : RT) => if a4 < 0 then K5 else (bp (fX12_wayTo a0 a2 a5 G) fun v6 => bp (fX12_wayTo a0 a2 a4 G) fun v7 => if v7 < v6 then K5 else rt a4 G))) fun (K3 : Int → RT) => jn (K3 0) fun (K8 : RT) => if v1 = 0 then K8 else (bp (fX12_wayTo a0 a2 a5 G) fun v9 => bp (fX12_placeOf a0 a2 G) fun v10 => bp (fX12_way a0 v10 a3 G) fun v11 => if v9 < v11 then K3 1 else K8)
theorem pX12_farther {G : Hp} {a0 : Nat} {a1 : Int} {a2 : Int} {a3 : Int} {a4 : Int} {a5 : Int} : PU G (fX12_farther a0 a1 a2 a3 a4 a5 G) := by
  unfold fX12_farther
  refine PU_bp (fun v1 => ?_)
  refine PU_jn (fun (K3 : Int → RT) => ∀ (v2 : Int), PU G (K3 v2)) ?_ (fun K3 phK3 => ?_)
  · intro v2
    refine PU_bd (fun v4 => ?_)
    refine PU_ite ?_ ?_
    · exact PU_rt
    · refine PU_jn (fun (K5 : RT) => PU G (K5)) ?_ (fun K5 phK5 => ?_)
      · exact PU_rt
      · refine PU_ite ?_ ?_
        · exact phK5
        · refine PU_bp (fun v6 => ?_)
          refine PU_bp (fun v7 => ?_)
          refine PU_ite ?_ ?_
          · exact phK5
          · exact PU_rt
  · refine PU_jn (fun (K8 : RT) => PU G (K8)) ?_ (fun K8 phK8 => ?_)
    · exact phK3 0
    · refine PU_ite ?_ ?_
      · exact phK8
      · refine PU_bp (fun v9 => ?_)
        refine PU_bp (fun v10 => ?_)
        refine PU_bp (fun v11 => ?_)
        refine PU_ite ?_ ?_
        · exact phK3 1
        · exact phK8
set_option maxRecDepth 20000 in
set_option maxHeartbeats 4000000 in
theorem tX12_farther (l : Launch) (x : WX) (hi : Inj x.2.2) (G : Hp) (a0 : Nat) (a1 : Int) (a2 : Int) (a3 : Int) (a4 : Int) (a5 : Int) (ha0 : kd a0 = 12) : Ct l x yX12_farther cX12_farther 7 (some .int) 3 129 129 [vR a0, vI a1, vI a2, vI a3, vI a4, vI a5] G (fX12_farther a0 a1 a2 a3 a4 a5 G) := by
  refine ct_of (plainFor_of_name (by decide)) hi (Nat.le_refl _) (Nat.le_refl _) (Nat.le_of_ble_eq_true rfl) (fun cx F hd hn0 hnE hl hQ => ?_)
  subst hl
  have F : Fx cx x RX12 cX12_farther 7 (some .int) := F
  show Y cx x 7 (some .int) 129 0 [(0, vR a0), (1, vI a1), (2, vI a2), (3, vI a3), (4, vI a4), (5, vI a5)] [] G _
  unfold fX12_farther
  refine x_aload_n F dX12_farther_0 rfl rfl rfl ?_
  refine x_iload_n F dX12_farther_1 rfl rfl rfl ?_
  refine x_iload F dX12_farther_2 rfl rfl ?_
  refine s_callVP F [vI a1, vI a5] [] lkX12_278 mX12_isIn rfl ha0 rfl hnE hn0 hd pX12_isIn (tX12_isIn cx.l x hi G a0 a1 a5 ha0) rfl rfl dX12_farther_4 rfl rfl (fun v1 => ?_)
  refine x_jn (fun (K3 : Int → RT) => ∀ (v2 : Int), Y cx x 7 (some .int) 129 35 [(0, vR a0), (2, vI a2), (4, vI a4), (5, vI a5)] [vI v2] G (K3 v2)) ?_ (fun K3 hK3 => ?_)
  · intro v2
    refine x_istore F dX12_farther_35 (by decide) rfl rfl (fun v4 => ?_)
    show Y cx x _ _ _ _ [(0, vR a0), (2, vI a2), (4, vI a4), (5, vI a5), (6, vI v4)] _ _ _
    refine x_iload F dX12_farther_37 rfl rfl ?_
    refine x_ifeq (pt := 69) F dX12_farther_39 rfl rfl ?_ ?_
    · refine x_iload F dX12_farther_69 rfl rfl ?_
      exact x_iret F hnE hQ dX12_farther_71
    · refine x_iload F dX12_farther_42 rfl rfl ?_
      refine x_jn (fun (K5 : RT) => Y cx x 7 (some .int) 129 64 [(5, vI a5)] [] G K5) ?_ (fun K5 hK5 => ?_)
      · refine x_iload F dX12_farther_64 rfl rfl ?_
        refine x_goto (pc' := 71) F dX12_farther_66 rfl ?_
        exact x_iret F hnE hQ dX12_farther_71
      · refine x_iflt (pt := 64) F dX12_farther_44 rfl rfl ?_ ?_
        · refine x_dp (L' := [(5, vI a5)]) [3] rfl ?_
          exact hK5
        · refine x_aload_n F dX12_farther_47 rfl rfl rfl ?_
          refine x_iload_n F dX12_farther_48 rfl rfl rfl ?_
          refine x_iload F dX12_farther_49 rfl rfl ?_
          refine s_callVP F [vI a2, vI a5] [] lkX12_297 mX12_wayTo rfl ha0 rfl hnE hn0 hd pX12_wayTo (tX12_wayTo cx.l x hi G a0 a2 a5 ha0) rfl rfl dX12_farther_51 rfl rfl (fun v6 => ?_)
          refine x_aload_n F dX12_farther_54 rfl rfl rfl ?_
          refine x_iload_n F dX12_farther_55 rfl rfl rfl ?_
          refine x_iload F dX12_farther_56 rfl rfl ?_
          refine s_callVP F [vI a2, vI a4] [vI v6] lkX12_297 mX12_wayTo rfl ha0 rfl hnE hn0 hd pX12_wayTo (tX12_wayTo cx.l x hi G a0 a2 a4 ha0) rfl rfl dX12_farther_58 rfl rfl (fun v7 => ?_)
          refine x_icmple (pt := 69) F dX12_farther_61 rfl rfl ?_ ?_
          · refine x_dp (L' := [(5, vI a5)]) [3] rfl ?_
            exact hK5
          · refine x_iload F dX12_farther_69 rfl rfl ?_
            exact x_iret F hnE hQ dX12_farther_71
  · refine x_jn (fun (K8 : RT) => Y cx x 7 (some .int) 129 34 [(0, vR a0), (2, vI a2), (4, vI a4), (5, vI a5)] [] G K8) ?_ (fun K8 hK8 => ?_)
    · refine x_iconst F dX12_farther_34 ⟨by decide, by decide⟩ rfl ?_
      exact hK3 0
    · refine x_ifeq (pt := 34) F dX12_farther_7 rfl rfl ?_ ?_
      · refine x_dp (L' := [(0, vR a0), (2, vI a2), (4, vI a4), (5, vI a5)]) [0, 2, 4, 5] rfl ?_
        exact hK8
      · refine x_aload_n F dX12_farther_10 rfl rfl rfl ?_
        refine x_iload_n F dX12_farther_11 rfl rfl rfl ?_
        refine x_iload F dX12_farther_12 rfl rfl ?_
        refine s_callVP F [vI a2, vI a5] [] lkX12_297 mX12_wayTo rfl ha0 rfl hnE hn0 hd pX12_wayTo (tX12_wayTo cx.l x hi G a0 a2 a5 ha0) rfl rfl dX12_farther_14 rfl rfl (fun v9 => ?_)
        refine x_aload_n F dX12_farther_17 rfl rfl rfl ?_
        refine x_aload_n F dX12_farther_18 rfl rfl rfl ?_
        refine x_iload_n F dX12_farther_19 rfl rfl rfl ?_
        refine s_callVP F [vI a2] [vR a0, vI v9] lkX12_282 mX12_placeOf rfl ha0 rfl hnE hn0 hd pX12_placeOf (tX12_placeOf cx.l x hi G a0 a2 ha0) rfl rfl dX12_farther_20 rfl rfl (fun v10 => ?_)
        refine x_iload_n F dX12_farther_23 rfl rfl rfl ?_
        refine s_callVP F [vI v10, vI a3] [vI v9] lkX12_285 mX12_way rfl ha0 rfl hnE hn0 hd pX12_way (tX12_way cx.l x hi G a0 v10 a3 ha0) rfl rfl dX12_farther_24 rfl rfl (fun v11 => ?_)
        refine x_icmpge (pt := 34) F dX12_farther_27 rfl rfl ?_ ?_
        · refine x_iconst F dX12_farther_30 ⟨by decide, by decide⟩ rfl ?_
          refine x_goto (pc' := 35) F dX12_farther_31 rfl ?_
          refine x_dp (L' := [(0, vR a0), (2, vI a2), (4, vI a4), (5, vI a5)]) [0, 2, 4, 5] rfl ?_
          exact hK3 1
        · refine x_dp (L' := [(0, vR a0), (2, vI a2), (4, vI a4), (5, vI a5)]) [0, 2, 4, 5] rfl ?_
          exact hK8
theorem dX12_handsBack_0 : decode cX12_handsBack 0 = .ok (.iconst 0, 1) := by decide +kernel
theorem dX12_handsBack_1 : decode cX12_handsBack 1 = .ok (.istore 4, 2) := by decide +kernel
theorem dX12_handsBack_3 : decode cX12_handsBack 3 = .ok (.iload 4, 2) := by decide +kernel
theorem dX12_handsBack_5 : decode cX12_handsBack 5 = .ok (.aload_n 0, 1) := by decide +kernel
theorem dX12_handsBack_6 : decode cX12_handsBack 6 = .ok (.invokevirtual 229, 3) := by decide +kernel
theorem dX12_handsBack_9 : decode cX12_handsBack 9 = .ok (.if_icmp .ge 89, 3) := by decide +kernel
theorem dX12_handsBack_12 : decode cX12_handsBack 12 = .ok (.aload_n 0, 1) := by decide +kernel
theorem dX12_handsBack_13 : decode cX12_handsBack 13 = .ok (.iload_n 1, 1) := by decide +kernel
theorem dX12_handsBack_14 : decode cX12_handsBack 14 = .ok (.iload 4, 2) := by decide +kernel
theorem dX12_handsBack_16 : decode cX12_handsBack 16 = .ok (.invokevirtual 331, 3) := by decide +kernel
theorem dX12_handsBack_19 : decode cX12_handsBack 19 = .ok (.iload_n 2, 1) := by decide +kernel
theorem dX12_handsBack_20 : decode cX12_handsBack 20 = .ok (.if_icmp .ne 41, 3) := by decide +kernel
theorem dX12_handsBack_23 : decode cX12_handsBack 23 = .ok (.aload_n 0, 1) := by decide +kernel
theorem dX12_handsBack_24 : decode cX12_handsBack 24 = .ok (.iload_n 3, 1) := by decide +kernel
theorem dX12_handsBack_25 : decode cX12_handsBack 25 = .ok (.invokevirtual 319, 3) := by decide +kernel
theorem dX12_handsBack_28 : decode cX12_handsBack 28 = .ok (.iconst 2, 1) := by decide +kernel
theorem dX12_handsBack_29 : decode cX12_handsBack 29 = .ok (.if_icmp .eq 32, 3) := by decide +kernel
theorem dX12_handsBack_32 : decode cX12_handsBack 32 = .ok (.aload_n 0, 1) := by decide +kernel
theorem dX12_handsBack_33 : decode cX12_handsBack 33 = .ok (.aload_n 0, 1) := by decide +kernel
theorem dX12_handsBack_34 : decode cX12_handsBack 34 = .ok (.iload_n 3, 1) := by decide +kernel
theorem dX12_handsBack_35 : decode cX12_handsBack 35 = .ok (.invokevirtual 282, 3) := by decide +kernel
theorem dX12_handsBack_38 : decode cX12_handsBack 38 = .ok (.aload_n 0, 1) := by decide +kernel
theorem dX12_handsBack_39 : decode cX12_handsBack 39 = .ok (.getfield 112, 3) := by decide +kernel
theorem dX12_handsBack_42 : decode cX12_handsBack 42 = .ok (.iload 4, 2) := by decide +kernel
theorem dX12_handsBack_44 : decode cX12_handsBack 44 = .ok (.iaload, 1) := by decide +kernel
theorem dX12_handsBack_45 : decode cX12_handsBack 45 = .ok (.invokevirtual 285, 3) := by decide +kernel
theorem dX12_handsBack_48 : decode cX12_handsBack 48 = .ok (.aload_n 0, 1) := by decide +kernel
theorem dX12_handsBack_49 : decode cX12_handsBack 49 = .ok (.iload_n 3, 1) := by decide +kernel
theorem dX12_handsBack_50 : decode cX12_handsBack 50 = .ok (.iload_n 2, 1) := by decide +kernel
theorem dX12_handsBack_51 : decode cX12_handsBack 51 = .ok (.invokevirtual 297, 3) := by decide +kernel
theorem dX12_handsBack_54 : decode cX12_handsBack 54 = .ok (.if_icmp .le 7, 3) := by decide +kernel
theorem dX12_handsBack_57 : decode cX12_handsBack 57 = .ok (.iconst 1, 1) := by decide +kernel
theorem dX12_handsBack_58 : decode cX12_handsBack 58 = .ok (.goto 4, 3) := by decide +kernel
theorem dX12_handsBack_61 : decode cX12_handsBack 61 = .ok (.iconst 0, 1) := by decide +kernel
theorem dX12_handsBack_62 : decode cX12_handsBack 62 = .ok (.istore 5, 2) := by decide +kernel
theorem dX12_handsBack_64 : decode cX12_handsBack 64 = .ok (.aload_n 0, 1) := by decide +kernel
theorem dX12_handsBack_65 : decode cX12_handsBack 65 = .ok (.getfield 105, 3) := by decide +kernel
theorem dX12_handsBack_68 : decode cX12_handsBack 68 = .ok (.iload_n 1, 1) := by decide +kernel
theorem dX12_handsBack_69 : decode cX12_handsBack 69 = .ok (.bipush 120, 2) := by decide +kernel
theorem dX12_handsBack_71 : decode cX12_handsBack 71 = .ok (.iadd, 1) := by decide +kernel
theorem dX12_handsBack_72 : decode cX12_handsBack 72 = .ok (.iload 4, 2) := by decide +kernel
theorem dX12_handsBack_74 : decode cX12_handsBack 74 = .ok (.iadd, 1) := by decide +kernel
theorem dX12_handsBack_75 : decode cX12_handsBack 75 = .ok (.iload 5, 2) := by decide +kernel
theorem dX12_handsBack_77 : decode cX12_handsBack 77 = .ok (.ifCond .eq 7, 3) := by decide +kernel
theorem dX12_handsBack_80 : decode cX12_handsBack 80 = .ok (.iload_n 3, 1) := by decide +kernel
theorem dX12_handsBack_81 : decode cX12_handsBack 81 = .ok (.goto 10, 3) := by decide +kernel
theorem dX12_handsBack_84 : decode cX12_handsBack 84 = .ok (.aload_n 0, 1) := by decide +kernel
theorem dX12_handsBack_85 : decode cX12_handsBack 85 = .ok (.iload_n 1, 1) := by decide +kernel
theorem dX12_handsBack_86 : decode cX12_handsBack 86 = .ok (.iload 4, 2) := by decide +kernel
theorem dX12_handsBack_88 : decode cX12_handsBack 88 = .ok (.invokevirtual 331, 3) := by decide +kernel
theorem dX12_handsBack_91 : decode cX12_handsBack 91 = .ok (.iastore, 1) := by decide +kernel
theorem dX12_handsBack_92 : decode cX12_handsBack 92 = .ok (.iinc 4 1, 3) := by decide +kernel
theorem dX12_handsBack_95 : decode cX12_handsBack 95 = .ok (.goto (-92), 3) := by decide +kernel
theorem dX12_handsBack_98 : decode cX12_handsBack 98 = .ok (.return_, 1) := by decide +kernel
def fX12_handsBack (a0 : Nat) (a1 : Int) (a2 : Int) (a3 : Int) (G : Hp) : RT := bd 0 fun v1 => (lp (fun (_ : Int) (_ : Hp) => (none : RT)) 5000 (fun (rc4 : Int → Hp → RT) (v2 : Int) (G3 : Hp) => bp (fX12_keys a0 G3) fun v5 => if v2 < v5 then (bp (fX12_holderOf a0 a1 v2 G3) fun v6 => jn (fun (v7 : Int) => bd v7 fun v9 => jn (fun (v10 : Int) => bs (wr G3 ((rf a0 17)) 3565 (iadd (iadd a1 120) v2) v10) fun G12 => bd (iadd v2 1) fun v13 => rc4 v13 G12) fun (K11 : Int → RT) => if v9 = 0 then (bp (fX12_holderOf a0 a1 v2 G3) fun v14 => K11 v14) else K11 a3) fun (K8 : Int → RT) => jn (K8 0) fun (K15 : RT) => if v6 = a2 then (bp (fX12_kindOf a0 a3 G3) fun v16 => if v16 = 2 then K15 else (bp (fX12_placeOf a0 a3 G3) fun v17 => br (rd G3 ((rf a0 20)) 10 v2) fun v18 => bp (fX12_way a0 v17 v18 G3) fun v19 => bp (fX12_wayTo a0 a3 a2 G3) fun v20 => if v20 < v19 then K8 1 else K15)) else K15) else rt 0 G3)) v1 G
set_option maxRecDepth 20000 in
set_option maxHeartbeats 4000000 in
theorem tX12_handsBack (l : Launch) (x : WX) (hi : Inj x.2.2) (G : Hp) (a0 : Nat) (a1 : Int) (a2 : Int) (a3 : Int) (ha0 : kd a0 = 12) : Ct l x yX12_handsBack cX12_handsBack 6 none 3 129 129 [vR a0, vI a1, vI a2, vI a3] G (fX12_handsBack a0 a1 a2 a3 G) := by
  refine ct_of (plainFor_of_name (by decide)) hi (Nat.le_refl _) (Nat.le_refl _) (Nat.le_of_ble_eq_true rfl) (fun cx F hd hn0 hnE hl hQ => ?_)
  subst hl
  have F : Fx cx x RX12 cX12_handsBack 6 none := F
  show Y cx x 6 none 129 0 [(0, vR a0), (1, vI a1), (2, vI a2), (3, vI a3)] [] G _
  unfold fX12_handsBack
  refine x_iconst F dX12_handsBack_0 ⟨by decide, by decide⟩ rfl ?_
  refine x_istore F dX12_handsBack_1 (by decide) rfl rfl (fun v1 => ?_)
  show Y cx x _ _ _ _ [(0, vR a0), (1, vI a1), (2, vI a2), (3, vI a3), (4, vI v1)] _ _ _
  refine x_lp (fun (rc4 : Int → Hp → RT) => ∀ (v2 : Int) (G3 : Hp), Y cx x 6 none 129 3 [(0, vR a0), (1, vI a1), (2, vI a2), (3, vI a3), (4, vI v2)] [] G3 (rc4 v2 G3)) (fun _ _ => Y_none) (fun rc4 hrc4 v2 G3 => ?_) 5000 v1 G
  refine x_iload F dX12_handsBack_3 rfl rfl ?_
  refine x_aload_n F dX12_handsBack_5 rfl rfl rfl ?_
  refine s_callVP F [] [vI v2] lkX12_229 mX12_keys rfl ha0 rfl hnE hn0 hd pX12_keys (tX12_keys cx.l x hi G3 a0 ha0) rfl rfl dX12_handsBack_6 rfl rfl (fun v5 => ?_)
  refine x_icmpge (pt := 98) F dX12_handsBack_9 rfl rfl ?_ ?_
  · refine x_aload_n F dX12_handsBack_12 rfl rfl rfl ?_
    refine x_iload_n F dX12_handsBack_13 rfl rfl rfl ?_
    refine x_iload F dX12_handsBack_14 rfl rfl ?_
    refine s_callVP F [vI a1, vI v2] [] lkX12_331 mX12_holderOf rfl ha0 rfl hnE hn0 hd pX12_holderOf (tX12_holderOf cx.l x hi G3 a0 a1 v2 ha0) rfl rfl dX12_handsBack_16 rfl rfl (fun v6 => ?_)
    refine x_iload_n F dX12_handsBack_19 rfl rfl rfl ?_
    refine x_jn (fun (K8 : Int → RT) => ∀ (v7 : Int), Y cx x 6 none 129 62 [(0, vR a0), (1, vI a1), (2, vI a2), (3, vI a3), (4, vI v2)] [vI v7] G3 (K8 v7)) ?_ (fun K8 hK8 => ?_)
    · intro v7
      refine x_istore F dX12_handsBack_62 (by decide) rfl rfl (fun v9 => ?_)
      show Y cx x _ _ _ _ [(0, vR a0), (1, vI a1), (2, vI a2), (3, vI a3), (4, vI v2), (5, vI v9)] _ _ _
      refine x_aload_n F dX12_handsBack_64 rfl rfl rfl ?_
      refine x_getR F flX12_105 ha0 rfl dX12_handsBack_65 rfl ?_
      refine x_iload_n F dX12_handsBack_68 rfl rfl rfl ?_
      refine x_bipush F dX12_handsBack_69 ⟨by decide, by decide⟩ (by decide) rfl ?_
      refine x_iadd F dX12_handsBack_71 rfl ?_
      refine x_iload F dX12_handsBack_72 rfl rfl ?_
      refine x_iadd F dX12_handsBack_74 rfl ?_
      refine x_iload F dX12_handsBack_75 rfl rfl ?_
      refine x_jn (fun (K11 : Int → RT) => ∀ (v10 : Int), Y cx x 6 none 129 91 [(0, vR a0), (1, vI a1), (2, vI a2), (3, vI a3), (4, vI v2)] [vI v10, vI (iadd (iadd a1 120) v2), vR ((rf a0 17))] G3 (K11 v10)) ?_ (fun K11 hK11 => ?_)
      · intro v10
        refine s_iast F (tf12_17 ha0).1 (tf12_17 ha0).2 dX12_handsBack_91 rfl (fun G12 => ?_)
        refine x_iinc F dX12_handsBack_92 rfl (by decide) rfl rfl (fun v13 => ?_)
        show Y cx x _ _ _ _ [(0, vR a0), (1, vI a1), (2, vI a2), (3, vI a3), (4, vI v13)] _ _ _
        refine x_goto (pc' := 3) F dX12_handsBack_95 rfl ?_
        exact hrc4 v13 G12
      · refine x_ifeq (pt := 84) F dX12_handsBack_77 rfl rfl ?_ ?_
        · refine x_aload_n F dX12_handsBack_84 rfl rfl rfl ?_
          refine x_iload_n F dX12_handsBack_85 rfl rfl rfl ?_
          refine x_iload F dX12_handsBack_86 rfl rfl ?_
          refine s_callVP F [vI a1, vI v2] [vI (iadd (iadd a1 120) v2), vR ((rf a0 17))] lkX12_331 mX12_holderOf rfl ha0 rfl hnE hn0 hd pX12_holderOf (tX12_holderOf cx.l x hi G3 a0 a1 v2 ha0) rfl rfl dX12_handsBack_88 rfl rfl (fun v14 => ?_)
          refine x_dp (L' := [(0, vR a0), (1, vI a1), (2, vI a2), (3, vI a3), (4, vI v2)]) [0, 1, 2, 3, 4] rfl ?_
          exact hK11 v14
        · refine x_iload_n F dX12_handsBack_80 rfl rfl rfl ?_
          refine x_goto (pc' := 91) F dX12_handsBack_81 rfl ?_
          refine x_dp (L' := [(0, vR a0), (1, vI a1), (2, vI a2), (3, vI a3), (4, vI v2)]) [0, 1, 2, 3, 4] rfl ?_
          exact hK11 a3
    · refine x_jn (fun (K15 : RT) => Y cx x 6 none 129 61 [(0, vR a0), (1, vI a1), (2, vI a2), (3, vI a3), (4, vI v2)] [] G3 K15) ?_ (fun K15 hK15 => ?_)
      · refine x_iconst F dX12_handsBack_61 ⟨by decide, by decide⟩ rfl ?_
        exact hK8 0
      · refine x_icmpne (pt := 61) F dX12_handsBack_20 rfl rfl ?_ ?_
        · refine x_aload_n F dX12_handsBack_23 rfl rfl rfl ?_
          refine x_iload_n F dX12_handsBack_24 rfl rfl rfl ?_
          refine s_callVP F [vI a3] [] lkX12_319 mX12_kindOf rfl ha0 rfl hnE hn0 hd pX12_kindOf (tX12_kindOf cx.l x hi G3 a0 a3 ha0) rfl rfl dX12_handsBack_25 rfl rfl (fun v16 => ?_)
          refine x_iconst F dX12_handsBack_28 ⟨by decide, by decide⟩ rfl ?_
          refine x_icmpeq (pt := 61) F dX12_handsBack_29 rfl rfl ?_ ?_
          · exact hK15
          · refine x_aload_n F dX12_handsBack_32 rfl rfl rfl ?_
            refine x_aload_n F dX12_handsBack_33 rfl rfl rfl ?_
            refine x_iload_n F dX12_handsBack_34 rfl rfl rfl ?_
            refine s_callVP F [vI a3] [vR a0] lkX12_282 mX12_placeOf rfl ha0 rfl hnE hn0 hd pX12_placeOf (tX12_placeOf cx.l x hi G3 a0 a3 ha0) rfl rfl dX12_handsBack_35 rfl rfl (fun v17 => ?_)
            refine x_aload_n F dX12_handsBack_38 rfl rfl rfl ?_
            refine x_getR F flX12_112 ha0 rfl dX12_handsBack_39 rfl ?_
            refine x_iload F dX12_handsBack_42 rfl rfl ?_
            refine s_iald F (tf12_20 ha0).1 (tf12_20 ha0).2 dX12_handsBack_44 rfl (fun v18 => ?_)
            refine s_callVP F [vI v17, vI v18] [] lkX12_285 mX12_way rfl ha0 rfl hnE hn0 hd pX12_way (tX12_way cx.l x hi G3 a0 v17 v18 ha0) rfl rfl dX12_handsBack_45 rfl rfl (fun v19 => ?_)
            refine x_aload_n F dX12_handsBack_48 rfl rfl rfl ?_
            refine x_iload_n F dX12_handsBack_49 rfl rfl rfl ?_
            refine x_iload_n F dX12_handsBack_50 rfl rfl rfl ?_
            refine s_callVP F [vI a3, vI a2] [vI v19] lkX12_297 mX12_wayTo rfl ha0 rfl hnE hn0 hd pX12_wayTo (tX12_wayTo cx.l x hi G3 a0 a3 a2 ha0) rfl rfl dX12_handsBack_51 rfl rfl (fun v20 => ?_)
            refine x_icmple (pt := 61) F dX12_handsBack_54 rfl rfl ?_ ?_
            · refine x_iconst F dX12_handsBack_57 ⟨by decide, by decide⟩ rfl ?_
              refine x_goto (pc' := 62) F dX12_handsBack_58 rfl ?_
              exact hK8 1
            · exact hK15
        · exact hK15
  · exact x_vret F hnE hQ dX12_handsBack_98
theorem dX12_start_0 : decode cX12_start 0 = .ok (.aload_n 0, 1) := by decide +kernel
theorem dX12_start_1 : decode cX12_start 1 = .ok (.iconst 0, 1) := by decide +kernel
theorem dX12_start_2 : decode cX12_start 2 = .ok (.putfield 1, 3) := by decide +kernel
theorem dX12_start_5 : decode cX12_start 5 = .ok (.aload_n 0, 1) := by decide +kernel
theorem dX12_start_6 : decode cX12_start 6 = .ok (.invokevirtual 383, 3) := by decide +kernel
theorem dX12_start_9 : decode cX12_start 9 = .ok (.aload_n 0, 1) := by decide +kernel
theorem dX12_start_10 : decode cX12_start 10 = .ok (.iload_n 1, 1) := by decide +kernel
theorem dX12_start_11 : decode cX12_start 11 = .ok (.invokevirtual 386, 3) := by decide +kernel
theorem dX12_start_14 : decode cX12_start 14 = .ok (.ifCond .eq 12, 3) := by decide +kernel
theorem dX12_start_17 : decode cX12_start 17 = .ok (.aload_n 0, 1) := by decide +kernel
theorem dX12_start_18 : decode cX12_start 18 = .ok (.iconst 0, 1) := by decide +kernel
theorem dX12_start_19 : decode cX12_start 19 = .ok (.iload_n 1, 1) := by decide +kernel
theorem dX12_start_20 : decode cX12_start 20 = .ok (.invokevirtual 359, 3) := by decide +kernel
theorem dX12_start_23 : decode cX12_start 23 = .ok (.ifCond .ne 5, 3) := by decide +kernel
theorem dX12_start_26 : decode cX12_start 26 = .ok (.iconst 0, 1) := by decide +kernel
theorem dX12_start_27 : decode cX12_start 27 = .ok (.ireturn, 1) := by decide +kernel
theorem dX12_start_28 : decode cX12_start 28 = .ok (.aload_n 0, 1) := by decide +kernel
theorem dX12_start_29 : decode cX12_start 29 = .ok (.invokevirtual 389, 3) := by decide +kernel
theorem dX12_start_32 : decode cX12_start 32 = .ok (.iconst 1, 1) := by decide +kernel
theorem dX12_start_33 : decode cX12_start 33 = .ok (.ireturn, 1) := by decide +kernel
def fX12_start (a0 : Nat) (a1 : Int) (G : Hp) : RT := bh (up G a0 0 0) fun G1 => bn (fX12_aside a0 G1) fun _ G2 => bp (fX12_isNode a0 a1 G2) fun v3 => if v3 = 0 then rz 0 G2 else (bn (fX12_begun a0 0 a1 G2) fun v4 G5 => if v4 = 0 then rz 0 G5 else (bn (fX12_keeps a0 G5) fun _ G6 => rz 1 G6))
set_option maxRecDepth 20000 in
set_option maxHeartbeats 4000000 in
theorem tX12_start (l : Launch) (x : WX) (hi : Inj x.2.2) (G : Hp) (a0 : Nat) (a1 : Int) (ha0 : kd a0 = 12) : Ct l x yX12_start cX12_start 2 (some .boolean) 3 129 129 [vR a0, vI a1] G (fX12_start a0 a1 G) := by
  refine ct_of (plainFor_of_name (by decide)) hi (Nat.le_refl _) (Nat.le_refl _) (Nat.le_of_ble_eq_true rfl) (fun cx F hd hn0 hnE hl hQ => ?_)
  subst hl
  have F : Fx cx x RX12 cX12_start 2 (some .boolean) := F
  show Y cx x 2 (some .boolean) 129 0 [(0, vR a0), (1, vI a1)] [] G _
  unfold fX12_start
  refine x_aload_n F dX12_start_0 rfl rfl rfl ?_
  refine x_iconst F dX12_start_1 ⟨by decide, by decide⟩ rfl ?_
  refine s_putI F fpX12_1 ha0 rfl dX12_start_2 rfl (fun G1 => ?_)
  refine x_aload_n F dX12_start_5 rfl rfl rfl ?_
  refine s_callVv F [] [] lkX12_383 mX12_aside rfl ha0 rfl hnE hn0 hd (tX12_aside cx.l x hi G1 a0 ha0) rfl rfl dX12_start_6 rfl rfl (fun _ G2 => ?_)
  refine x_aload_n F dX12_start_9 rfl rfl rfl ?_
  refine x_iload_n F dX12_start_10 rfl rfl rfl ?_
  refine s_callVP F [vI a1] [] lkX12_386 mX12_isNode rfl ha0 rfl hnE hn0 hd pX12_isNode (tX12_isNode cx.l x hi G2 a0 a1 ha0) rfl rfl dX12_start_11 rfl rfl (fun v3 => ?_)
  refine x_ifeq (pt := 26) F dX12_start_14 rfl rfl ?_ ?_
  · refine x_iconst F dX12_start_26 ⟨by decide, by decide⟩ rfl ?_
    exact x_zret F hnE hQ dX12_start_27
  · refine x_aload_n F dX12_start_17 rfl rfl rfl ?_
    refine x_iconst F dX12_start_18 ⟨by decide, by decide⟩ rfl ?_
    refine x_iload_n F dX12_start_19 rfl rfl rfl ?_
    refine s_callV F [vI 0, vI a1] [] lkX12_359 mX12_begun rfl ha0 rfl hnE hn0 hd (tX12_begun cx.l x hi G2 a0 0 a1 ha0) rfl rfl dX12_start_20 rfl rfl (fun v4 G5 => ?_)
    refine x_ifne (pt := 28) F dX12_start_23 rfl rfl ?_ ?_
    · refine x_iconst F dX12_start_26 ⟨by decide, by decide⟩ rfl ?_
      exact x_zret F hnE hQ dX12_start_27
    · refine x_aload_n F dX12_start_28 rfl rfl rfl ?_
      refine s_callVv F [] [] lkX12_389 mX12_keeps rfl ha0 rfl hnE hn0 hd (tX12_keeps cx.l x hi G5 a0 ha0) rfl rfl dX12_start_29 rfl rfl (fun _ G6 => ?_)
      refine x_iconst F dX12_start_32 ⟨by decide, by decide⟩ rfl ?_
      exact x_zret F hnE hQ dX12_start_33
theorem dX12_leave_0 : decode cX12_leave 0 = .ok (.aload_n 0, 1) := by decide +kernel
theorem dX12_leave_1 : decode cX12_leave 1 = .ok (.iconst 0, 1) := by decide +kernel
theorem dX12_leave_2 : decode cX12_leave 2 = .ok (.putfield 1, 3) := by decide +kernel
theorem dX12_leave_5 : decode cX12_leave 5 = .ok (.aload_n 0, 1) := by decide +kernel
theorem dX12_leave_6 : decode cX12_leave 6 = .ok (.invokevirtual 383, 3) := by decide +kernel
theorem dX12_leave_9 : decode cX12_leave 9 = .ok (.aload_n 0, 1) := by decide +kernel
theorem dX12_leave_10 : decode cX12_leave 10 = .ok (.iload_n 1, 1) := by decide +kernel
theorem dX12_leave_11 : decode cX12_leave 11 = .ok (.invokevirtual 386, 3) := by decide +kernel
theorem dX12_leave_14 : decode cX12_leave 14 = .ok (.ifCond .eq 12, 3) := by decide +kernel
theorem dX12_leave_17 : decode cX12_leave 17 = .ok (.aload_n 0, 1) := by decide +kernel
theorem dX12_leave_18 : decode cX12_leave 18 = .ok (.iconst 0, 1) := by decide +kernel
theorem dX12_leave_19 : decode cX12_leave 19 = .ok (.iload_n 1, 1) := by decide +kernel
theorem dX12_leave_20 : decode cX12_leave 20 = .ok (.invokevirtual 365, 3) := by decide +kernel
theorem dX12_leave_23 : decode cX12_leave 23 = .ok (.ifCond .ne 5, 3) := by decide +kernel
theorem dX12_leave_26 : decode cX12_leave 26 = .ok (.iconst 0, 1) := by decide +kernel
theorem dX12_leave_27 : decode cX12_leave 27 = .ok (.ireturn, 1) := by decide +kernel
theorem dX12_leave_28 : decode cX12_leave 28 = .ok (.aload_n 0, 1) := by decide +kernel
theorem dX12_leave_29 : decode cX12_leave 29 = .ok (.invokevirtual 389, 3) := by decide +kernel
theorem dX12_leave_32 : decode cX12_leave 32 = .ok (.iconst 1, 1) := by decide +kernel
theorem dX12_leave_33 : decode cX12_leave 33 = .ok (.ireturn, 1) := by decide +kernel
def fX12_leave (a0 : Nat) (a1 : Int) (G : Hp) : RT := bh (up G a0 0 0) fun G1 => bn (fX12_aside a0 G1) fun _ G2 => bp (fX12_isNode a0 a1 G2) fun v3 => if v3 = 0 then rz 0 G2 else (bn (fX12_left a0 0 a1 G2) fun v4 G5 => if v4 = 0 then rz 0 G5 else (bn (fX12_keeps a0 G5) fun _ G6 => rz 1 G6))
set_option maxRecDepth 20000 in
set_option maxHeartbeats 4000000 in
theorem tX12_leave (l : Launch) (x : WX) (hi : Inj x.2.2) (G : Hp) (a0 : Nat) (a1 : Int) (ha0 : kd a0 = 12) : Ct l x yX12_leave cX12_leave 2 (some .boolean) 3 129 129 [vR a0, vI a1] G (fX12_leave a0 a1 G) := by
  refine ct_of (plainFor_of_name (by decide)) hi (Nat.le_refl _) (Nat.le_refl _) (Nat.le_of_ble_eq_true rfl) (fun cx F hd hn0 hnE hl hQ => ?_)
  subst hl
  have F : Fx cx x RX12 cX12_leave 2 (some .boolean) := F
  show Y cx x 2 (some .boolean) 129 0 [(0, vR a0), (1, vI a1)] [] G _
  unfold fX12_leave
  refine x_aload_n F dX12_leave_0 rfl rfl rfl ?_
  refine x_iconst F dX12_leave_1 ⟨by decide, by decide⟩ rfl ?_
  refine s_putI F fpX12_1 ha0 rfl dX12_leave_2 rfl (fun G1 => ?_)
  refine x_aload_n F dX12_leave_5 rfl rfl rfl ?_
  refine s_callVv F [] [] lkX12_383 mX12_aside rfl ha0 rfl hnE hn0 hd (tX12_aside cx.l x hi G1 a0 ha0) rfl rfl dX12_leave_6 rfl rfl (fun _ G2 => ?_)
  refine x_aload_n F dX12_leave_9 rfl rfl rfl ?_
  refine x_iload_n F dX12_leave_10 rfl rfl rfl ?_
  refine s_callVP F [vI a1] [] lkX12_386 mX12_isNode rfl ha0 rfl hnE hn0 hd pX12_isNode (tX12_isNode cx.l x hi G2 a0 a1 ha0) rfl rfl dX12_leave_11 rfl rfl (fun v3 => ?_)
  refine x_ifeq (pt := 26) F dX12_leave_14 rfl rfl ?_ ?_
  · refine x_iconst F dX12_leave_26 ⟨by decide, by decide⟩ rfl ?_
    exact x_zret F hnE hQ dX12_leave_27
  · refine x_aload_n F dX12_leave_17 rfl rfl rfl ?_
    refine x_iconst F dX12_leave_18 ⟨by decide, by decide⟩ rfl ?_
    refine x_iload_n F dX12_leave_19 rfl rfl rfl ?_
    refine s_callV F [vI 0, vI a1] [] lkX12_365 mX12_left rfl ha0 rfl hnE hn0 hd (tX12_left cx.l x hi G2 a0 0 a1 ha0) rfl rfl dX12_leave_20 rfl rfl (fun v4 G5 => ?_)
    refine x_ifne (pt := 28) F dX12_leave_23 rfl rfl ?_ ?_
    · refine x_iconst F dX12_leave_26 ⟨by decide, by decide⟩ rfl ?_
      exact x_zret F hnE hQ dX12_leave_27
    · refine x_aload_n F dX12_leave_28 rfl rfl rfl ?_
      refine s_callVv F [] [] lkX12_389 mX12_keeps rfl ha0 rfl hnE hn0 hd (tX12_keeps cx.l x hi G5 a0 ha0) rfl rfl dX12_leave_29 rfl rfl (fun _ G6 => ?_)
      refine x_iconst F dX12_leave_32 ⟨by decide, by decide⟩ rfl ?_
      exact x_zret F hnE hQ dX12_leave_33
theorem dX12_fail_0 : decode cX12_fail 0 = .ok (.aload_n 0, 1) := by decide +kernel
theorem dX12_fail_1 : decode cX12_fail 1 = .ok (.iconst 0, 1) := by decide +kernel
theorem dX12_fail_2 : decode cX12_fail 2 = .ok (.putfield 1, 3) := by decide +kernel
theorem dX12_fail_5 : decode cX12_fail 5 = .ok (.aload_n 0, 1) := by decide +kernel
theorem dX12_fail_6 : decode cX12_fail 6 = .ok (.invokevirtual 383, 3) := by decide +kernel
theorem dX12_fail_9 : decode cX12_fail 9 = .ok (.aload_n 0, 1) := by decide +kernel
theorem dX12_fail_10 : decode cX12_fail 10 = .ok (.iload_n 1, 1) := by decide +kernel
theorem dX12_fail_11 : decode cX12_fail 11 = .ok (.invokevirtual 386, 3) := by decide +kernel
theorem dX12_fail_14 : decode cX12_fail 14 = .ok (.ifCond .eq 12, 3) := by decide +kernel
theorem dX12_fail_17 : decode cX12_fail 17 = .ok (.aload_n 0, 1) := by decide +kernel
theorem dX12_fail_18 : decode cX12_fail 18 = .ok (.iconst 0, 1) := by decide +kernel
theorem dX12_fail_19 : decode cX12_fail 19 = .ok (.iload_n 1, 1) := by decide +kernel
theorem dX12_fail_20 : decode cX12_fail 20 = .ok (.invokevirtual 368, 3) := by decide +kernel
theorem dX12_fail_23 : decode cX12_fail 23 = .ok (.goto 4, 3) := by decide +kernel
theorem dX12_fail_26 : decode cX12_fail 26 = .ok (.iconst (-1), 1) := by decide +kernel
theorem dX12_fail_27 : decode cX12_fail 27 = .ok (.istore_n 2, 1) := by decide +kernel
theorem dX12_fail_28 : decode cX12_fail 28 = .ok (.aload_n 0, 1) := by decide +kernel
theorem dX12_fail_29 : decode cX12_fail 29 = .ok (.iload_n 2, 1) := by decide +kernel
theorem dX12_fail_30 : decode cX12_fail 30 = .ok (.invokevirtual 392, 3) := by decide +kernel
theorem dX12_fail_33 : decode cX12_fail 33 = .ok (.ireturn, 1) := by decide +kernel
def fX12_fail (a0 : Nat) (a1 : Int) (G : Hp) : RT := bh (up G a0 0 0) fun G1 => bn (fX12_aside a0 G1) fun _ G2 => bp (fX12_isNode a0 a1 G2) fun v3 => jn (fun (v4 : Int) (G5 : Hp) => bd v4 fun v7 => bn (fX12_done a0 v7 G5) fun v8 G9 => rt v8 G9) fun (K6 : Int → Hp → RT) => if v3 = 0 then (K6 ((-1)) G2) else (bn (fX12_failed a0 0 a1 G2) fun v10 G11 => K6 v10 G11)
set_option maxRecDepth 20000 in
set_option maxHeartbeats 4000000 in
theorem tX12_fail (l : Launch) (x : WX) (hi : Inj x.2.2) (G : Hp) (a0 : Nat) (a1 : Int) (ha0 : kd a0 = 12) : Ct l x yX12_fail cX12_fail 3 (some .int) 3 129 129 [vR a0, vI a1] G (fX12_fail a0 a1 G) := by
  refine ct_of (plainFor_of_name (by decide)) hi (Nat.le_refl _) (Nat.le_refl _) (Nat.le_of_ble_eq_true rfl) (fun cx F hd hn0 hnE hl hQ => ?_)
  subst hl
  have F : Fx cx x RX12 cX12_fail 3 (some .int) := F
  show Y cx x 3 (some .int) 129 0 [(0, vR a0), (1, vI a1)] [] G _
  unfold fX12_fail
  refine x_aload_n F dX12_fail_0 rfl rfl rfl ?_
  refine x_iconst F dX12_fail_1 ⟨by decide, by decide⟩ rfl ?_
  refine s_putI F fpX12_1 ha0 rfl dX12_fail_2 rfl (fun G1 => ?_)
  refine x_aload_n F dX12_fail_5 rfl rfl rfl ?_
  refine s_callVv F [] [] lkX12_383 mX12_aside rfl ha0 rfl hnE hn0 hd (tX12_aside cx.l x hi G1 a0 ha0) rfl rfl dX12_fail_6 rfl rfl (fun _ G2 => ?_)
  refine x_aload_n F dX12_fail_9 rfl rfl rfl ?_
  refine x_iload_n F dX12_fail_10 rfl rfl rfl ?_
  refine s_callVP F [vI a1] [] lkX12_386 mX12_isNode rfl ha0 rfl hnE hn0 hd pX12_isNode (tX12_isNode cx.l x hi G2 a0 a1 ha0) rfl rfl dX12_fail_11 rfl rfl (fun v3 => ?_)
  refine x_jn (fun (K6 : Int → Hp → RT) => ∀ (v4 : Int) (G5 : Hp), Y cx x 3 (some .int) 129 27 [(0, vR a0)] [vI v4] G5 (K6 v4 G5)) ?_ (fun K6 hK6 => ?_)
  · intro v4 G5
    refine x_istore_n F dX12_fail_27 rfl (by decide) rfl rfl (fun v7 => ?_)
    show Y cx x _ _ _ _ [(0, vR a0), (2, vI v7)] _ _ _
    refine x_aload_n F dX12_fail_28 rfl rfl rfl ?_
    refine x_iload_n F dX12_fail_29 rfl rfl rfl ?_
    refine s_callV F [vI v7] [] lkX12_392 mX12_done rfl ha0 rfl hnE hn0 hd (tX12_done cx.l x hi G5 a0 v7 ha0) rfl rfl dX12_fail_30 rfl rfl (fun v8 G9 => ?_)
    exact x_iret F hnE hQ dX12_fail_33
  · refine x_ifeq (pt := 26) F dX12_fail_14 rfl rfl ?_ ?_
    · refine x_iconst F dX12_fail_26 ⟨by decide, by decide⟩ rfl ?_
      refine x_dp (L' := [(0, vR a0)]) [0] rfl ?_
      exact hK6 ((-1)) G2
    · refine x_aload_n F dX12_fail_17 rfl rfl rfl ?_
      refine x_iconst F dX12_fail_18 ⟨by decide, by decide⟩ rfl ?_
      refine x_iload_n F dX12_fail_19 rfl rfl rfl ?_
      refine s_callV F [vI 0, vI a1] [] lkX12_368 mX12_failed rfl ha0 rfl hnE hn0 hd (tX12_failed cx.l x hi G2 a0 0 a1 ha0) rfl rfl dX12_fail_20 rfl rfl (fun v10 G11 => ?_)
      refine x_goto (pc' := 27) F dX12_fail_23 rfl ?_
      refine x_dp (L' := [(0, vR a0)]) [0] rfl ?_
      exact hK6 v10 G11
theorem dX12_flush_0 : decode cX12_flush 0 = .ok (.aload_n 0, 1) := by decide +kernel
theorem dX12_flush_1 : decode cX12_flush 1 = .ok (.iconst 0, 1) := by decide +kernel
theorem dX12_flush_2 : decode cX12_flush 2 = .ok (.putfield 1, 3) := by decide +kernel
theorem dX12_flush_5 : decode cX12_flush 5 = .ok (.aload_n 0, 1) := by decide +kernel
theorem dX12_flush_6 : decode cX12_flush 6 = .ok (.invokevirtual 383, 3) := by decide +kernel
theorem dX12_flush_9 : decode cX12_flush 9 = .ok (.aload_n 0, 1) := by decide +kernel
theorem dX12_flush_10 : decode cX12_flush 10 = .ok (.iload_n 1, 1) := by decide +kernel
theorem dX12_flush_11 : decode cX12_flush 11 = .ok (.invokevirtual 386, 3) := by decide +kernel
theorem dX12_flush_14 : decode cX12_flush 14 = .ok (.ifCond .eq 12, 3) := by decide +kernel
theorem dX12_flush_17 : decode cX12_flush 17 = .ok (.aload_n 0, 1) := by decide +kernel
theorem dX12_flush_18 : decode cX12_flush 18 = .ok (.iconst 0, 1) := by decide +kernel
theorem dX12_flush_19 : decode cX12_flush 19 = .ok (.iload_n 1, 1) := by decide +kernel
theorem dX12_flush_20 : decode cX12_flush 20 = .ok (.invokevirtual 374, 3) := by decide +kernel
theorem dX12_flush_23 : decode cX12_flush 23 = .ok (.goto 4, 3) := by decide +kernel
theorem dX12_flush_26 : decode cX12_flush 26 = .ok (.iconst (-1), 1) := by decide +kernel
theorem dX12_flush_27 : decode cX12_flush 27 = .ok (.istore_n 2, 1) := by decide +kernel
theorem dX12_flush_28 : decode cX12_flush 28 = .ok (.aload_n 0, 1) := by decide +kernel
theorem dX12_flush_29 : decode cX12_flush 29 = .ok (.iload_n 2, 1) := by decide +kernel
theorem dX12_flush_30 : decode cX12_flush 30 = .ok (.invokevirtual 392, 3) := by decide +kernel
theorem dX12_flush_33 : decode cX12_flush 33 = .ok (.ireturn, 1) := by decide +kernel
def fX12_flush (a0 : Nat) (a1 : Int) (G : Hp) : RT := bh (up G a0 0 0) fun G1 => bn (fX12_aside a0 G1) fun _ G2 => bp (fX12_isNode a0 a1 G2) fun v3 => jn (fun (v4 : Int) (G5 : Hp) => bd v4 fun v7 => bn (fX12_done a0 v7 G5) fun v8 G9 => rt v8 G9) fun (K6 : Int → Hp → RT) => if v3 = 0 then (K6 ((-1)) G2) else (bn (fX12_flushed a0 0 a1 G2) fun v10 G11 => K6 v10 G11)
set_option maxRecDepth 20000 in
set_option maxHeartbeats 4000000 in
theorem tX12_flush (l : Launch) (x : WX) (hi : Inj x.2.2) (G : Hp) (a0 : Nat) (a1 : Int) (ha0 : kd a0 = 12) : Ct l x yX12_flush cX12_flush 3 (some .int) 3 129 129 [vR a0, vI a1] G (fX12_flush a0 a1 G) := by
  refine ct_of (plainFor_of_name (by decide)) hi (Nat.le_refl _) (Nat.le_refl _) (Nat.le_of_ble_eq_true rfl) (fun cx F hd hn0 hnE hl hQ => ?_)
  subst hl
  have F : Fx cx x RX12 cX12_flush 3 (some .int) := F
  show Y cx x 3 (some .int) 129 0 [(0, vR a0), (1, vI a1)] [] G _
  unfold fX12_flush
  refine x_aload_n F dX12_flush_0 rfl rfl rfl ?_
  refine x_iconst F dX12_flush_1 ⟨by decide, by decide⟩ rfl ?_
  refine s_putI F fpX12_1 ha0 rfl dX12_flush_2 rfl (fun G1 => ?_)
  refine x_aload_n F dX12_flush_5 rfl rfl rfl ?_
  refine s_callVv F [] [] lkX12_383 mX12_aside rfl ha0 rfl hnE hn0 hd (tX12_aside cx.l x hi G1 a0 ha0) rfl rfl dX12_flush_6 rfl rfl (fun _ G2 => ?_)
  refine x_aload_n F dX12_flush_9 rfl rfl rfl ?_
  refine x_iload_n F dX12_flush_10 rfl rfl rfl ?_
  refine s_callVP F [vI a1] [] lkX12_386 mX12_isNode rfl ha0 rfl hnE hn0 hd pX12_isNode (tX12_isNode cx.l x hi G2 a0 a1 ha0) rfl rfl dX12_flush_11 rfl rfl (fun v3 => ?_)
  refine x_jn (fun (K6 : Int → Hp → RT) => ∀ (v4 : Int) (G5 : Hp), Y cx x 3 (some .int) 129 27 [(0, vR a0)] [vI v4] G5 (K6 v4 G5)) ?_ (fun K6 hK6 => ?_)
  · intro v4 G5
    refine x_istore_n F dX12_flush_27 rfl (by decide) rfl rfl (fun v7 => ?_)
    show Y cx x _ _ _ _ [(0, vR a0), (2, vI v7)] _ _ _
    refine x_aload_n F dX12_flush_28 rfl rfl rfl ?_
    refine x_iload_n F dX12_flush_29 rfl rfl rfl ?_
    refine s_callV F [vI v7] [] lkX12_392 mX12_done rfl ha0 rfl hnE hn0 hd (tX12_done cx.l x hi G5 a0 v7 ha0) rfl rfl dX12_flush_30 rfl rfl (fun v8 G9 => ?_)
    exact x_iret F hnE hQ dX12_flush_33
  · refine x_ifeq (pt := 26) F dX12_flush_14 rfl rfl ?_ ?_
    · refine x_iconst F dX12_flush_26 ⟨by decide, by decide⟩ rfl ?_
      refine x_dp (L' := [(0, vR a0)]) [0] rfl ?_
      exact hK6 ((-1)) G2
    · refine x_aload_n F dX12_flush_17 rfl rfl rfl ?_
      refine x_iconst F dX12_flush_18 ⟨by decide, by decide⟩ rfl ?_
      refine x_iload_n F dX12_flush_19 rfl rfl rfl ?_
      refine s_callV F [vI 0, vI a1] [] lkX12_374 mX12_flushed rfl ha0 rfl hnE hn0 hd (tX12_flushed cx.l x hi G2 a0 0 a1 ha0) rfl rfl dX12_flush_20 rfl rfl (fun v10 G11 => ?_)
      refine x_goto (pc' := 27) F dX12_flush_23 rfl ?_
      refine x_dp (L' := [(0, vR a0)]) [0] rfl ?_
      exact hK6 v10 G11
theorem dX12_ownerOf_0 : decode cX12_ownerOf 0 = .ok (.aload_n 0, 1) := by decide +kernel
theorem dX12_ownerOf_1 : decode cX12_ownerOf 1 = .ok (.iload_n 1, 1) := by decide +kernel
theorem dX12_ownerOf_2 : decode cX12_ownerOf 2 = .ok (.aload_n 0, 1) := by decide +kernel
theorem dX12_ownerOf_3 : decode cX12_ownerOf 3 = .ok (.getfield 112, 3) := by decide +kernel
theorem dX12_ownerOf_6 : decode cX12_ownerOf 6 = .ok (.iload_n 2, 1) := by decide +kernel
theorem dX12_ownerOf_7 : decode cX12_ownerOf 7 = .ok (.iaload, 1) := by decide +kernel
theorem dX12_ownerOf_8 : decode cX12_ownerOf 8 = .ok (.invokevirtual 411, 3) := by decide +kernel
theorem dX12_ownerOf_11 : decode cX12_ownerOf 11 = .ok (.ireturn, 1) := by decide +kernel
def fX12_ownerOf (a0 : Nat) (a1 : Int) (a2 : Int) (G : Hp) : RT := br (rd G ((rf a0 20)) 10 a2) fun v1 => bp (fX12_metFrom a0 a1 v1 G) fun v2 => rt v2 G
theorem pX12_ownerOf {G : Hp} {a0 : Nat} {a1 : Int} {a2 : Int} : PU G (fX12_ownerOf a0 a1 a2 G) := by
  unfold fX12_ownerOf
  refine PU_br (fun v1 => ?_)
  refine PU_bp (fun v2 => ?_)
  exact PU_rt
set_option maxRecDepth 20000 in
set_option maxHeartbeats 4000000 in
theorem tX12_ownerOf (l : Launch) (x : WX) (hi : Inj x.2.2) (G : Hp) (a0 : Nat) (a1 : Int) (a2 : Int) (ha0 : kd a0 = 12) : Ct l x yX12_ownerOf cX12_ownerOf 3 (some .int) 3 129 129 [vR a0, vI a1, vI a2] G (fX12_ownerOf a0 a1 a2 G) := by
  refine ct_of (plainFor_of_name (by decide)) hi (Nat.le_refl _) (Nat.le_refl _) (Nat.le_of_ble_eq_true rfl) (fun cx F hd hn0 hnE hl hQ => ?_)
  subst hl
  have F : Fx cx x RX12 cX12_ownerOf 3 (some .int) := F
  show Y cx x 3 (some .int) 129 0 [(0, vR a0), (1, vI a1), (2, vI a2)] [] G _
  unfold fX12_ownerOf
  refine x_aload_n F dX12_ownerOf_0 rfl rfl rfl ?_
  refine x_iload_n F dX12_ownerOf_1 rfl rfl rfl ?_
  refine x_aload_n F dX12_ownerOf_2 rfl rfl rfl ?_
  refine x_getR F flX12_112 ha0 rfl dX12_ownerOf_3 rfl ?_
  refine x_iload_n F dX12_ownerOf_6 rfl rfl rfl ?_
  refine s_iald F (tf12_20 ha0).1 (tf12_20 ha0).2 dX12_ownerOf_7 rfl (fun v1 => ?_)
  refine s_callVP F [vI a1, vI v1] [] lkX12_411 mX12_metFrom rfl ha0 rfl hnE hn0 hd pX12_metFrom (tX12_metFrom cx.l x hi G a0 a1 v1 ha0) rfl rfl dX12_ownerOf_8 rfl rfl (fun v2 => ?_)
  exact x_iret F hnE hQ dX12_ownerOf_11
theorem dX12_isOnCycle_0 : decode cX12_isOnCycle 0 = .ok (.iconst 0, 1) := by decide +kernel
theorem dX12_isOnCycle_1 : decode cX12_isOnCycle 1 = .ok (.istore_n 3, 1) := by decide +kernel
theorem dX12_isOnCycle_2 : decode cX12_isOnCycle 2 = .ok (.iconst 1, 1) := by decide +kernel
theorem dX12_isOnCycle_3 : decode cX12_isOnCycle 3 = .ok (.istore 4, 2) := by decide +kernel
theorem dX12_isOnCycle_5 : decode cX12_isOnCycle 5 = .ok (.iload 4, 2) := by decide +kernel
theorem dX12_isOnCycle_7 : decode cX12_isOnCycle 7 = .ok (.bipush 8, 2) := by decide +kernel
theorem dX12_isOnCycle_9 : decode cX12_isOnCycle 9 = .ok (.if_icmp .gt 31, 3) := by decide +kernel
theorem dX12_isOnCycle_12 : decode cX12_isOnCycle 12 = .ok (.iload_n 3, 1) := by decide +kernel
theorem dX12_isOnCycle_13 : decode cX12_isOnCycle 13 = .ok (.ifCond .ne 15, 3) := by decide +kernel
theorem dX12_isOnCycle_16 : decode cX12_isOnCycle 16 = .ok (.aload_n 0, 1) := by decide +kernel
theorem dX12_isOnCycle_17 : decode cX12_isOnCycle 17 = .ok (.iload_n 1, 1) := by decide +kernel
theorem dX12_isOnCycle_18 : decode cX12_isOnCycle 18 = .ok (.iload_n 2, 1) := by decide +kernel
theorem dX12_isOnCycle_19 : decode cX12_isOnCycle 19 = .ok (.iload 4, 2) := by decide +kernel
theorem dX12_isOnCycle_21 : decode cX12_isOnCycle 21 = .ok (.invokevirtual 429, 3) := by decide +kernel
theorem dX12_isOnCycle_24 : decode cX12_isOnCycle 24 = .ok (.iload_n 2, 1) := by decide +kernel
theorem dX12_isOnCycle_25 : decode cX12_isOnCycle 25 = .ok (.if_icmp .ne 7, 3) := by decide +kernel
theorem dX12_isOnCycle_28 : decode cX12_isOnCycle 28 = .ok (.iconst 1, 1) := by decide +kernel
theorem dX12_isOnCycle_29 : decode cX12_isOnCycle 29 = .ok (.goto 4, 3) := by decide +kernel
theorem dX12_isOnCycle_32 : decode cX12_isOnCycle 32 = .ok (.iconst 0, 1) := by decide +kernel
theorem dX12_isOnCycle_33 : decode cX12_isOnCycle 33 = .ok (.istore_n 3, 1) := by decide +kernel
theorem dX12_isOnCycle_34 : decode cX12_isOnCycle 34 = .ok (.iinc 4 1, 3) := by decide +kernel
theorem dX12_isOnCycle_37 : decode cX12_isOnCycle 37 = .ok (.goto (-32), 3) := by decide +kernel
theorem dX12_isOnCycle_40 : decode cX12_isOnCycle 40 = .ok (.iload_n 3, 1) := by decide +kernel
theorem dX12_isOnCycle_41 : decode cX12_isOnCycle 41 = .ok (.ireturn, 1) := by decide +kernel
def fX12_isOnCycle (a0 : Nat) (a1 : Int) (a2 : Int) (G : Hp) : RT := bd 0 fun v1 => bd 1 fun v2 => (lp (fun (_ : Int) (_ : Int) => (none : RT)) 5000 (fun (rc5 : Int → Int → RT) (v3 : Int) (v4 : Int) => if 8 < v4 then rz v3 G else (jn (fun (v6 : Int) => bd v6 fun v8 => bd (iadd v4 1) fun v9 => rc5 v8 v9) fun (K7 : Int → RT) => jn (K7 1) fun (K10 : RT) => if v3 = 0 then (bp (fX12_comesTo a0 a1 a2 v4 G) fun v11 => if v11 = a2 then K10 else K7 0) else K10))) v1 v2
theorem pX12_isOnCycle {G : Hp} {a0 : Nat} {a1 : Int} {a2 : Int} : PU G (fX12_isOnCycle a0 a1 a2 G) := by
  unfold fX12_isOnCycle
  refine PU_bd (fun v1 => ?_)
  refine PU_bd (fun v2 => ?_)
  refine x_lp (fun (rc5 : Int → Int → RT) => ∀ (v3 : Int) (v4 : Int), PU G (rc5 v3 v4)) (fun _ _ => PU_none) (fun rc5 phrc5 v3 v4 => ?_) 5000 v1 v2
  refine PU_ite ?_ ?_
  · exact PU_rz
  · refine PU_jn (fun (K7 : Int → RT) => ∀ (v6 : Int), PU G (K7 v6)) ?_ (fun K7 phK7 => ?_)
    · intro v6
      refine PU_bd (fun v8 => ?_)
      refine PU_bd (fun v9 => ?_)
      exact phrc5 v8 v9
    · refine PU_jn (fun (K10 : RT) => PU G (K10)) ?_ (fun K10 phK10 => ?_)
      · exact phK7 1
      · refine PU_ite ?_ ?_
        · refine PU_bp (fun v11 => ?_)
          refine PU_ite ?_ ?_
          · exact phK10
          · exact phK7 0
        · exact phK10
set_option maxRecDepth 20000 in
set_option maxHeartbeats 4000000 in
theorem tX12_isOnCycle (l : Launch) (x : WX) (hi : Inj x.2.2) (G : Hp) (a0 : Nat) (a1 : Int) (a2 : Int) (ha0 : kd a0 = 12) : Ct l x yX12_isOnCycle cX12_isOnCycle 5 (some .boolean) 3 129 129 [vR a0, vI a1, vI a2] G (fX12_isOnCycle a0 a1 a2 G) := by
  refine ct_of (plainFor_of_name (by decide)) hi (Nat.le_refl _) (Nat.le_refl _) (Nat.le_of_ble_eq_true rfl) (fun cx F hd hn0 hnE hl hQ => ?_)
  subst hl
  have F : Fx cx x RX12 cX12_isOnCycle 5 (some .boolean) := F
  show Y cx x 5 (some .boolean) 129 0 [(0, vR a0), (1, vI a1), (2, vI a2)] [] G _
  unfold fX12_isOnCycle
  refine x_iconst F dX12_isOnCycle_0 ⟨by decide, by decide⟩ rfl ?_
  refine x_istore_n F dX12_isOnCycle_1 rfl (by decide) rfl rfl (fun v1 => ?_)
  show Y cx x _ _ _ _ [(0, vR a0), (1, vI a1), (2, vI a2), (3, vI v1)] _ _ _
  refine x_iconst F dX12_isOnCycle_2 ⟨by decide, by decide⟩ rfl ?_
  refine x_istore F dX12_isOnCycle_3 (by decide) rfl rfl (fun v2 => ?_)
  show Y cx x _ _ _ _ [(0, vR a0), (1, vI a1), (2, vI a2), (3, vI v1), (4, vI v2)] _ _ _
  refine x_lp (fun (rc5 : Int → Int → RT) => ∀ (v3 : Int) (v4 : Int), Y cx x 5 (some .boolean) 129 5 [(0, vR a0), (1, vI a1), (2, vI a2), (3, vI v3), (4, vI v4)] [] G (rc5 v3 v4)) (fun _ _ => Y_none) (fun rc5 hrc5 v3 v4 => ?_) 5000 v1 v2
  refine x_iload F dX12_isOnCycle_5 rfl rfl ?_
  refine x_bipush F dX12_isOnCycle_7 ⟨by decide, by decide⟩ (by decide) rfl ?_
  refine x_icmpgt (pt := 40) F dX12_isOnCycle_9 rfl rfl ?_ ?_
  · refine x_iload_n F dX12_isOnCycle_40 rfl rfl rfl ?_
    exact x_zret F hnE hQ dX12_isOnCycle_41
  · refine x_iload_n F dX12_isOnCycle_12 rfl rfl rfl ?_
    refine x_jn (fun (K7 : Int → RT) => ∀ (v6 : Int), Y cx x 5 (some .boolean) 129 33 [(0, vR a0), (1, vI a1), (2, vI a2), (4, vI v4)] [vI v6] G (K7 v6)) ?_ (fun K7 hK7 => ?_)
    · intro v6
      refine x_istore_n F dX12_isOnCycle_33 rfl (by decide) rfl rfl (fun v8 => ?_)
      show Y cx x _ _ _ _ [(0, vR a0), (1, vI a1), (2, vI a2), (4, vI v4), (3, vI v8)] _ _ _
      refine x_iinc F dX12_isOnCycle_34 rfl (by decide) rfl rfl (fun v9 => ?_)
      show Y cx x _ _ _ _ [(0, vR a0), (1, vI a1), (2, vI a2), (4, vI v9), (3, vI v8)] _ _ _
      refine x_goto (pc' := 5) F dX12_isOnCycle_37 rfl ?_
      refine x_dp (L' := [(0, vR a0), (1, vI a1), (2, vI a2), (3, vI v8), (4, vI v9)]) [0, 1, 2, 4, 3] rfl ?_
      exact hrc5 v8 v9
    · refine x_jn (fun (K10 : RT) => Y cx x 5 (some .boolean) 129 28 [(0, vR a0), (1, vI a1), (2, vI a2), (4, vI v4)] [] G K10) ?_ (fun K10 hK10 => ?_)
      · refine x_iconst F dX12_isOnCycle_28 ⟨by decide, by decide⟩ rfl ?_
        refine x_goto (pc' := 33) F dX12_isOnCycle_29 rfl ?_
        exact hK7 1
      · refine x_ifne (pt := 28) F dX12_isOnCycle_13 rfl rfl ?_ ?_
        · refine x_aload_n F dX12_isOnCycle_16 rfl rfl rfl ?_
          refine x_iload_n F dX12_isOnCycle_17 rfl rfl rfl ?_
          refine x_iload_n F dX12_isOnCycle_18 rfl rfl rfl ?_
          refine x_iload F dX12_isOnCycle_19 rfl rfl ?_
          refine s_callVP F [vI a1, vI a2, vI v4] [] lkX12_429 mX12_comesTo rfl ha0 rfl hnE hn0 hd pX12_comesTo (tX12_comesTo cx.l x hi G a0 a1 a2 v4 ha0) rfl rfl dX12_isOnCycle_21 rfl rfl (fun v11 => ?_)
          refine x_iload_n F dX12_isOnCycle_24 rfl rfl rfl ?_
          refine x_icmpne (pt := 32) F dX12_isOnCycle_25 rfl rfl ?_ ?_
          · refine x_dp (L' := [(0, vR a0), (1, vI a1), (2, vI a2), (4, vI v4)]) [0, 1, 2, 4] rfl ?_
            exact hK10
          · refine x_iconst F dX12_isOnCycle_32 ⟨by decide, by decide⟩ rfl ?_
            refine x_dp (L' := [(0, vR a0), (1, vI a1), (2, vI a2), (4, vI v4)]) [0, 1, 2, 4] rfl ?_
            exact hK7 0
        · refine x_dp (L' := [(0, vR a0), (1, vI a1), (2, vI a2), (4, vI v4)]) [0, 1, 2, 4] rfl ?_
          exact hK10
theorem dX12_brokenSet_0 : decode cX12_brokenSet 0 = .ok (.iconst 0, 1) := by decide +kernel
theorem dX12_brokenSet_1 : decode cX12_brokenSet 1 = .ok (.istore_n 2, 1) := by decide +kernel
theorem dX12_brokenSet_2 : decode cX12_brokenSet 2 = .ok (.iconst 0, 1) := by decide +kernel
theorem dX12_brokenSet_3 : decode cX12_brokenSet 3 = .ok (.istore_n 3, 1) := by decide +kernel
theorem dX12_brokenSet_4 : decode cX12_brokenSet 4 = .ok (.iload_n 3, 1) := by decide +kernel
theorem dX12_brokenSet_5 : decode cX12_brokenSet 5 = .ok (.aload_n 0, 1) := by decide +kernel
theorem dX12_brokenSet_6 : decode cX12_brokenSet 6 = .ok (.invokevirtual 236, 3) := by decide +kernel
theorem dX12_brokenSet_9 : decode cX12_brokenSet 9 = .ok (.if_icmp .ge 39, 3) := by decide +kernel
theorem dX12_brokenSet_12 : decode cX12_brokenSet 12 = .ok (.iload_n 2, 1) := by decide +kernel
theorem dX12_brokenSet_13 : decode cX12_brokenSet 13 = .ok (.aload_n 0, 1) := by decide +kernel
theorem dX12_brokenSet_14 : decode cX12_brokenSet 14 = .ok (.iload_n 1, 1) := by decide +kernel
theorem dX12_brokenSet_15 : decode cX12_brokenSet 15 = .ok (.iload_n 3, 1) := by decide +kernel
theorem dX12_brokenSet_16 : decode cX12_brokenSet 16 = .ok (.invokevirtual 278, 3) := by decide +kernel
theorem dX12_brokenSet_19 : decode cX12_brokenSet 19 = .ok (.ifCond .eq 20, 3) := by decide +kernel
theorem dX12_brokenSet_22 : decode cX12_brokenSet 22 = .ok (.aload_n 0, 1) := by decide +kernel
theorem dX12_brokenSet_23 : decode cX12_brokenSet 23 = .ok (.iload_n 1, 1) := by decide +kernel
theorem dX12_brokenSet_24 : decode cX12_brokenSet 24 = .ok (.iload_n 3, 1) := by decide +kernel
theorem dX12_brokenSet_25 : decode cX12_brokenSet 25 = .ok (.bipush 8, 2) := by decide +kernel
theorem dX12_brokenSet_27 : decode cX12_brokenSet 27 = .ok (.invokevirtual 429, 3) := by decide +kernel
theorem dX12_brokenSet_30 : decode cX12_brokenSet 30 = .ok (.ifCond .ge 9, 3) := by decide +kernel
theorem dX12_brokenSet_33 : decode cX12_brokenSet 33 = .ok (.iconst 1, 1) := by decide +kernel
theorem dX12_brokenSet_34 : decode cX12_brokenSet 34 = .ok (.iload_n 3, 1) := by decide +kernel
theorem dX12_brokenSet_35 : decode cX12_brokenSet 35 = .ok (.ishl, 1) := by decide +kernel
theorem dX12_brokenSet_36 : decode cX12_brokenSet 36 = .ok (.goto 4, 3) := by decide +kernel
theorem dX12_brokenSet_39 : decode cX12_brokenSet 39 = .ok (.iconst 0, 1) := by decide +kernel
theorem dX12_brokenSet_40 : decode cX12_brokenSet 40 = .ok (.ior, 1) := by decide +kernel
theorem dX12_brokenSet_41 : decode cX12_brokenSet 41 = .ok (.istore_n 2, 1) := by decide +kernel
theorem dX12_brokenSet_42 : decode cX12_brokenSet 42 = .ok (.iinc 3 1, 3) := by decide +kernel
theorem dX12_brokenSet_45 : decode cX12_brokenSet 45 = .ok (.goto (-41), 3) := by decide +kernel
theorem dX12_brokenSet_48 : decode cX12_brokenSet 48 = .ok (.iload_n 2, 1) := by decide +kernel
theorem dX12_brokenSet_49 : decode cX12_brokenSet 49 = .ok (.ireturn, 1) := by decide +kernel
def fX12_brokenSet (a0 : Nat) (a1 : Int) (G : Hp) : RT := bd 0 fun v1 => bd 0 fun v2 => (lp (fun (_ : Int) (_ : Int) => (none : RT)) 5000 (fun (rc5 : Int → Int → RT) (v3 : Int) (v4 : Int) => bp (fX12_nodes a0 G) fun v6 => if v4 < v6 then (bp (fX12_isIn a0 a1 v4 G) fun v7 => jn (fun (v8 : Int) => bd (ior v3 v8) fun v10 => bd (iadd v4 1) fun v11 => rc5 v10 v11) fun (K9 : Int → RT) => jn (K9 0) fun (K12 : RT) => if v7 = 0 then K12 else (bp (fX12_comesTo a0 a1 v4 8 G) fun v13 => if v13 < 0 then (K9 (ishl 1 v4)) else K12)) else rt v3 G)) v1 v2
theorem pX12_brokenSet {G : Hp} {a0 : Nat} {a1 : Int} : PU G (fX12_brokenSet a0 a1 G) := by
  unfold fX12_brokenSet
  refine PU_bd (fun v1 => ?_)
  refine PU_bd (fun v2 => ?_)
  refine x_lp (fun (rc5 : Int → Int → RT) => ∀ (v3 : Int) (v4 : Int), PU G (rc5 v3 v4)) (fun _ _ => PU_none) (fun rc5 phrc5 v3 v4 => ?_) 5000 v1 v2
  refine PU_bp (fun v6 => ?_)
  refine PU_ite ?_ ?_
  · refine PU_bp (fun v7 => ?_)
    refine PU_jn (fun (K9 : Int → RT) => ∀ (v8 : Int), PU G (K9 v8)) ?_ (fun K9 phK9 => ?_)
    · intro v8
      refine PU_bd (fun v10 => ?_)
      refine PU_bd (fun v11 => ?_)
      exact phrc5 v10 v11
    · refine PU_jn (fun (K12 : RT) => PU G (K12)) ?_ (fun K12 phK12 => ?_)
      · exact phK9 0
      · refine PU_ite ?_ ?_
        · exact phK12
        · refine PU_bp (fun v13 => ?_)
          refine PU_ite ?_ ?_
          · exact phK9 (ishl 1 v4)
          · exact phK12
  · exact PU_rt
set_option maxRecDepth 20000 in
set_option maxHeartbeats 4000000 in
theorem tX12_brokenSet (l : Launch) (x : WX) (hi : Inj x.2.2) (G : Hp) (a0 : Nat) (a1 : Int) (ha0 : kd a0 = 12) : Ct l x yX12_brokenSet cX12_brokenSet 4 (some .int) 3 129 129 [vR a0, vI a1] G (fX12_brokenSet a0 a1 G) := by
  refine ct_of (plainFor_of_name (by decide)) hi (Nat.le_refl _) (Nat.le_refl _) (Nat.le_of_ble_eq_true rfl) (fun cx F hd hn0 hnE hl hQ => ?_)
  subst hl
  have F : Fx cx x RX12 cX12_brokenSet 4 (some .int) := F
  show Y cx x 4 (some .int) 129 0 [(0, vR a0), (1, vI a1)] [] G _
  unfold fX12_brokenSet
  refine x_iconst F dX12_brokenSet_0 ⟨by decide, by decide⟩ rfl ?_
  refine x_istore_n F dX12_brokenSet_1 rfl (by decide) rfl rfl (fun v1 => ?_)
  show Y cx x _ _ _ _ [(0, vR a0), (1, vI a1), (2, vI v1)] _ _ _
  refine x_iconst F dX12_brokenSet_2 ⟨by decide, by decide⟩ rfl ?_
  refine x_istore_n F dX12_brokenSet_3 rfl (by decide) rfl rfl (fun v2 => ?_)
  show Y cx x _ _ _ _ [(0, vR a0), (1, vI a1), (2, vI v1), (3, vI v2)] _ _ _
  refine x_lp (fun (rc5 : Int → Int → RT) => ∀ (v3 : Int) (v4 : Int), Y cx x 4 (some .int) 129 4 [(0, vR a0), (1, vI a1), (2, vI v3), (3, vI v4)] [] G (rc5 v3 v4)) (fun _ _ => Y_none) (fun rc5 hrc5 v3 v4 => ?_) 5000 v1 v2
  refine x_iload_n F dX12_brokenSet_4 rfl rfl rfl ?_
  refine x_aload_n F dX12_brokenSet_5 rfl rfl rfl ?_
  refine s_callVP F [] [vI v4] lkX12_236 mX12_nodes rfl ha0 rfl hnE hn0 hd pX12_nodes (tX12_nodes cx.l x hi G a0 ha0) rfl rfl dX12_brokenSet_6 rfl rfl (fun v6 => ?_)
  refine x_icmpge (pt := 48) F dX12_brokenSet_9 rfl rfl ?_ ?_
  · refine x_iload_n F dX12_brokenSet_12 rfl rfl rfl ?_
    refine x_aload_n F dX12_brokenSet_13 rfl rfl rfl ?_
    refine x_iload_n F dX12_brokenSet_14 rfl rfl rfl ?_
    refine x_iload_n F dX12_brokenSet_15 rfl rfl rfl ?_
    refine s_callVP F [vI a1, vI v4] [vI v3] lkX12_278 mX12_isIn rfl ha0 rfl hnE hn0 hd pX12_isIn (tX12_isIn cx.l x hi G a0 a1 v4 ha0) rfl rfl dX12_brokenSet_16 rfl rfl (fun v7 => ?_)
    refine x_jn (fun (K9 : Int → RT) => ∀ (v8 : Int), Y cx x 4 (some .int) 129 40 [(0, vR a0), (1, vI a1), (3, vI v4)] [vI v8, vI v3] G (K9 v8)) ?_ (fun K9 hK9 => ?_)
    · intro v8
      refine x_ior F dX12_brokenSet_40 rfl ?_
      refine x_istore_n F dX12_brokenSet_41 rfl (by decide) rfl rfl (fun v10 => ?_)
      show Y cx x _ _ _ _ [(0, vR a0), (1, vI a1), (3, vI v4), (2, vI v10)] _ _ _
      refine x_iinc F dX12_brokenSet_42 rfl (by decide) rfl rfl (fun v11 => ?_)
      show Y cx x _ _ _ _ [(0, vR a0), (1, vI a1), (3, vI v11), (2, vI v10)] _ _ _
      refine x_goto (pc' := 4) F dX12_brokenSet_45 rfl ?_
      refine x_dp (L' := [(0, vR a0), (1, vI a1), (2, vI v10), (3, vI v11)]) [0, 1, 3, 2] rfl ?_
      exact hrc5 v10 v11
    · refine x_jn (fun (K12 : RT) => Y cx x 4 (some .int) 129 39 [(0, vR a0), (1, vI a1), (3, vI v4)] [vI v3] G K12) ?_ (fun K12 hK12 => ?_)
      · refine x_iconst F dX12_brokenSet_39 ⟨by decide, by decide⟩ rfl ?_
        exact hK9 0
      · refine x_ifeq (pt := 39) F dX12_brokenSet_19 rfl rfl ?_ ?_
        · refine x_dp (L' := [(0, vR a0), (1, vI a1), (3, vI v4)]) [0, 1, 3] rfl ?_
          exact hK12
        · refine x_aload_n F dX12_brokenSet_22 rfl rfl rfl ?_
          refine x_iload_n F dX12_brokenSet_23 rfl rfl rfl ?_
          refine x_iload_n F dX12_brokenSet_24 rfl rfl rfl ?_
          refine x_bipush F dX12_brokenSet_25 ⟨by decide, by decide⟩ (by decide) rfl ?_
          refine s_callVP F [vI a1, vI v4, vI 8] [vI v3] lkX12_429 mX12_comesTo rfl ha0 rfl hnE hn0 hd pX12_comesTo (tX12_comesTo cx.l x hi G a0 a1 v4 8 ha0) rfl rfl dX12_brokenSet_27 rfl rfl (fun v13 => ?_)
          refine x_ifge (pt := 39) F dX12_brokenSet_30 rfl rfl ?_ ?_
          · refine x_iconst F dX12_brokenSet_33 ⟨by decide, by decide⟩ rfl ?_
            refine x_iload_n F dX12_brokenSet_34 rfl rfl rfl ?_
            refine x_ishl F dX12_brokenSet_35 rfl ?_
            refine x_goto (pc' := 40) F dX12_brokenSet_36 rfl ?_
            refine x_dp (L' := [(0, vR a0), (1, vI a1), (3, vI v4)]) [0, 1, 3] rfl ?_
            exact hK9 (ishl 1 v4)
          · refine x_dp (L' := [(0, vR a0), (1, vI a1), (3, vI v4)]) [0, 1, 3] rfl ?_
            exact hK12
  · refine x_iload_n F dX12_brokenSet_48 rfl rfl rfl ?_
    exact x_iret F hnE hQ dX12_brokenSet_49
theorem dX12_isLeast_0 : decode cX12_isLeast 0 = .ok (.iconst 1, 1) := by decide +kernel
theorem dX12_isLeast_1 : decode cX12_isLeast 1 = .ok (.istore_n 3, 1) := by decide +kernel
theorem dX12_isLeast_2 : decode cX12_isLeast 2 = .ok (.iconst 1, 1) := by decide +kernel
theorem dX12_isLeast_3 : decode cX12_isLeast 3 = .ok (.istore 4, 2) := by decide +kernel
theorem dX12_isLeast_5 : decode cX12_isLeast 5 = .ok (.iload 4, 2) := by decide +kernel
theorem dX12_isLeast_7 : decode cX12_isLeast 7 = .ok (.bipush 8, 2) := by decide +kernel
theorem dX12_isLeast_9 : decode cX12_isLeast 9 = .ok (.if_icmp .gt 31, 3) := by decide +kernel
theorem dX12_isLeast_12 : decode cX12_isLeast 12 = .ok (.iload_n 3, 1) := by decide +kernel
theorem dX12_isLeast_13 : decode cX12_isLeast 13 = .ok (.ifCond .eq 19, 3) := by decide +kernel
theorem dX12_isLeast_16 : decode cX12_isLeast 16 = .ok (.aload_n 0, 1) := by decide +kernel
theorem dX12_isLeast_17 : decode cX12_isLeast 17 = .ok (.iload_n 1, 1) := by decide +kernel
theorem dX12_isLeast_18 : decode cX12_isLeast 18 = .ok (.iload_n 2, 1) := by decide +kernel
theorem dX12_isLeast_19 : decode cX12_isLeast 19 = .ok (.iload 4, 2) := by decide +kernel
theorem dX12_isLeast_21 : decode cX12_isLeast 21 = .ok (.invokevirtual 429, 3) := by decide +kernel
theorem dX12_isLeast_24 : decode cX12_isLeast 24 = .ok (.iload_n 2, 1) := by decide +kernel
theorem dX12_isLeast_25 : decode cX12_isLeast 25 = .ok (.if_icmp .lt 7, 3) := by decide +kernel
theorem dX12_isLeast_28 : decode cX12_isLeast 28 = .ok (.iconst 1, 1) := by decide +kernel
theorem dX12_isLeast_29 : decode cX12_isLeast 29 = .ok (.goto 4, 3) := by decide +kernel
theorem dX12_isLeast_32 : decode cX12_isLeast 32 = .ok (.iconst 0, 1) := by decide +kernel
theorem dX12_isLeast_33 : decode cX12_isLeast 33 = .ok (.istore_n 3, 1) := by decide +kernel
theorem dX12_isLeast_34 : decode cX12_isLeast 34 = .ok (.iinc 4 1, 3) := by decide +kernel
theorem dX12_isLeast_37 : decode cX12_isLeast 37 = .ok (.goto (-32), 3) := by decide +kernel
theorem dX12_isLeast_40 : decode cX12_isLeast 40 = .ok (.iload_n 3, 1) := by decide +kernel
theorem dX12_isLeast_41 : decode cX12_isLeast 41 = .ok (.ireturn, 1) := by decide +kernel
def fX12_isLeast (a0 : Nat) (a1 : Int) (a2 : Int) (G : Hp) : RT := bd 1 fun v1 => bd 1 fun v2 => (lp (fun (_ : Int) (_ : Int) => (none : RT)) 5000 (fun (rc5 : Int → Int → RT) (v3 : Int) (v4 : Int) => if 8 < v4 then rz v3 G else (jn (fun (v6 : Int) => bd v6 fun v8 => bd (iadd v4 1) fun v9 => rc5 v8 v9) fun (K7 : Int → RT) => jn (K7 0) fun (K10 : RT) => if v3 = 0 then K10 else (bp (fX12_comesTo a0 a1 a2 v4 G) fun v11 => if v11 < a2 then K10 else K7 1)))) v1 v2
theorem pX12_isLeast {G : Hp} {a0 : Nat} {a1 : Int} {a2 : Int} : PU G (fX12_isLeast a0 a1 a2 G) := by
  unfold fX12_isLeast
  refine PU_bd (fun v1 => ?_)
  refine PU_bd (fun v2 => ?_)
  refine x_lp (fun (rc5 : Int → Int → RT) => ∀ (v3 : Int) (v4 : Int), PU G (rc5 v3 v4)) (fun _ _ => PU_none) (fun rc5 phrc5 v3 v4 => ?_) 5000 v1 v2
  refine PU_ite ?_ ?_
  · exact PU_rz
  · refine PU_jn (fun (K7 : Int → RT) => ∀ (v6 : Int), PU G (K7 v6)) ?_ (fun K7 phK7 => ?_)
    · intro v6
      refine PU_bd (fun v8 => ?_)
      refine PU_bd (fun v9 => ?_)
      exact phrc5 v8 v9
    · refine PU_jn (fun (K10 : RT) => PU G (K10)) ?_ (fun K10 phK10 => ?_)
      · exact phK7 0
      · refine PU_ite ?_ ?_
        · exact phK10
        · refine PU_bp (fun v11 => ?_)
          refine PU_ite ?_ ?_
          · exact phK10
          · exact phK7 1
set_option maxRecDepth 20000 in
set_option maxHeartbeats 4000000 in
theorem tX12_isLeast (l : Launch) (x : WX) (hi : Inj x.2.2) (G : Hp) (a0 : Nat) (a1 : Int) (a2 : Int) (ha0 : kd a0 = 12) : Ct l x yX12_isLeast cX12_isLeast 5 (some .boolean) 3 129 129 [vR a0, vI a1, vI a2] G (fX12_isLeast a0 a1 a2 G) := by
  refine ct_of (plainFor_of_name (by decide)) hi (Nat.le_refl _) (Nat.le_refl _) (Nat.le_of_ble_eq_true rfl) (fun cx F hd hn0 hnE hl hQ => ?_)
  subst hl
  have F : Fx cx x RX12 cX12_isLeast 5 (some .boolean) := F
  show Y cx x 5 (some .boolean) 129 0 [(0, vR a0), (1, vI a1), (2, vI a2)] [] G _
  unfold fX12_isLeast
  refine x_iconst F dX12_isLeast_0 ⟨by decide, by decide⟩ rfl ?_
  refine x_istore_n F dX12_isLeast_1 rfl (by decide) rfl rfl (fun v1 => ?_)
  show Y cx x _ _ _ _ [(0, vR a0), (1, vI a1), (2, vI a2), (3, vI v1)] _ _ _
  refine x_iconst F dX12_isLeast_2 ⟨by decide, by decide⟩ rfl ?_
  refine x_istore F dX12_isLeast_3 (by decide) rfl rfl (fun v2 => ?_)
  show Y cx x _ _ _ _ [(0, vR a0), (1, vI a1), (2, vI a2), (3, vI v1), (4, vI v2)] _ _ _
  refine x_lp (fun (rc5 : Int → Int → RT) => ∀ (v3 : Int) (v4 : Int), Y cx x 5 (some .boolean) 129 5 [(0, vR a0), (1, vI a1), (2, vI a2), (3, vI v3), (4, vI v4)] [] G (rc5 v3 v4)) (fun _ _ => Y_none) (fun rc5 hrc5 v3 v4 => ?_) 5000 v1 v2
  refine x_iload F dX12_isLeast_5 rfl rfl ?_
  refine x_bipush F dX12_isLeast_7 ⟨by decide, by decide⟩ (by decide) rfl ?_
  refine x_icmpgt (pt := 40) F dX12_isLeast_9 rfl rfl ?_ ?_
  · refine x_iload_n F dX12_isLeast_40 rfl rfl rfl ?_
    exact x_zret F hnE hQ dX12_isLeast_41
  · refine x_iload_n F dX12_isLeast_12 rfl rfl rfl ?_
    refine x_jn (fun (K7 : Int → RT) => ∀ (v6 : Int), Y cx x 5 (some .boolean) 129 33 [(0, vR a0), (1, vI a1), (2, vI a2), (4, vI v4)] [vI v6] G (K7 v6)) ?_ (fun K7 hK7 => ?_)
    · intro v6
      refine x_istore_n F dX12_isLeast_33 rfl (by decide) rfl rfl (fun v8 => ?_)
      show Y cx x _ _ _ _ [(0, vR a0), (1, vI a1), (2, vI a2), (4, vI v4), (3, vI v8)] _ _ _
      refine x_iinc F dX12_isLeast_34 rfl (by decide) rfl rfl (fun v9 => ?_)
      show Y cx x _ _ _ _ [(0, vR a0), (1, vI a1), (2, vI a2), (4, vI v9), (3, vI v8)] _ _ _
      refine x_goto (pc' := 5) F dX12_isLeast_37 rfl ?_
      refine x_dp (L' := [(0, vR a0), (1, vI a1), (2, vI a2), (3, vI v8), (4, vI v9)]) [0, 1, 2, 4, 3] rfl ?_
      exact hrc5 v8 v9
    · refine x_jn (fun (K10 : RT) => Y cx x 5 (some .boolean) 129 32 [(0, vR a0), (1, vI a1), (2, vI a2), (4, vI v4)] [] G K10) ?_ (fun K10 hK10 => ?_)
      · refine x_iconst F dX12_isLeast_32 ⟨by decide, by decide⟩ rfl ?_
        exact hK7 0
      · refine x_ifeq (pt := 32) F dX12_isLeast_13 rfl rfl ?_ ?_
        · refine x_dp (L' := [(0, vR a0), (1, vI a1), (2, vI a2), (4, vI v4)]) [0, 1, 2, 4] rfl ?_
          exact hK10
        · refine x_aload_n F dX12_isLeast_16 rfl rfl rfl ?_
          refine x_iload_n F dX12_isLeast_17 rfl rfl rfl ?_
          refine x_iload_n F dX12_isLeast_18 rfl rfl rfl ?_
          refine x_iload F dX12_isLeast_19 rfl rfl ?_
          refine s_callVP F [vI a1, vI a2, vI v4] [] lkX12_429 mX12_comesTo rfl ha0 rfl hnE hn0 hd pX12_comesTo (tX12_comesTo cx.l x hi G a0 a1 a2 v4 ha0) rfl rfl dX12_isLeast_21 rfl rfl (fun v11 => ?_)
          refine x_iload_n F dX12_isLeast_24 rfl rfl rfl ?_
          refine x_icmplt (pt := 32) F dX12_isLeast_25 rfl rfl ?_ ?_
          · refine x_dp (L' := [(0, vR a0), (1, vI a1), (2, vI a2), (4, vI v4)]) [0, 1, 2, 4] rfl ?_
            exact hK10
          · refine x_iconst F dX12_isLeast_28 ⟨by decide, by decide⟩ rfl ?_
            refine x_goto (pc' := 33) F dX12_isLeast_29 rfl ?_
            refine x_dp (L' := [(0, vR a0), (1, vI a1), (2, vI a2), (4, vI v4)]) [0, 1, 2, 4] rfl ?_
            exact hK7 1
theorem dX12_amissBy_0 : decode cX12_amissBy 0 = .ok (.iconst 0, 1) := by decide +kernel
theorem dX12_amissBy_1 : decode cX12_amissBy 1 = .ok (.istore_n 2, 1) := by decide +kernel
theorem dX12_amissBy_2 : decode cX12_amissBy 2 = .ok (.iconst 0, 1) := by decide +kernel
theorem dX12_amissBy_3 : decode cX12_amissBy 3 = .ok (.istore_n 3, 1) := by decide +kernel
theorem dX12_amissBy_4 : decode cX12_amissBy 4 = .ok (.iload_n 3, 1) := by decide +kernel
theorem dX12_amissBy_5 : decode cX12_amissBy 5 = .ok (.aload_n 0, 1) := by decide +kernel
theorem dX12_amissBy_6 : decode cX12_amissBy 6 = .ok (.invokevirtual 236, 3) := by decide +kernel
theorem dX12_amissBy_9 : decode cX12_amissBy 9 = .ok (.if_icmp .ge 49, 3) := by decide +kernel
theorem dX12_amissBy_12 : decode cX12_amissBy 12 = .ok (.iload_n 2, 1) := by decide +kernel
theorem dX12_amissBy_13 : decode cX12_amissBy 13 = .ok (.aload_n 0, 1) := by decide +kernel
theorem dX12_amissBy_14 : decode cX12_amissBy 14 = .ok (.iload_n 1, 1) := by decide +kernel
theorem dX12_amissBy_15 : decode cX12_amissBy 15 = .ok (.iload_n 3, 1) := by decide +kernel
theorem dX12_amissBy_16 : decode cX12_amissBy 16 = .ok (.invokevirtual 278, 3) := by decide +kernel
theorem dX12_amissBy_19 : decode cX12_amissBy 19 = .ok (.ifCond .eq 30, 3) := by decide +kernel
theorem dX12_amissBy_22 : decode cX12_amissBy 22 = .ok (.aload_n 0, 1) := by decide +kernel
theorem dX12_amissBy_23 : decode cX12_amissBy 23 = .ok (.iload_n 1, 1) := by decide +kernel
theorem dX12_amissBy_24 : decode cX12_amissBy 24 = .ok (.iload_n 3, 1) := by decide +kernel
theorem dX12_amissBy_25 : decode cX12_amissBy 25 = .ok (.invokevirtual 310, 3) := by decide +kernel
theorem dX12_amissBy_28 : decode cX12_amissBy 28 = .ok (.aload_n 0, 1) := by decide +kernel
theorem dX12_amissBy_29 : decode cX12_amissBy 29 = .ok (.iload_n 1, 1) := by decide +kernel
theorem dX12_amissBy_30 : decode cX12_amissBy 30 = .ok (.aload_n 0, 1) := by decide +kernel
theorem dX12_amissBy_31 : decode cX12_amissBy 31 = .ok (.iload_n 3, 1) := by decide +kernel
theorem dX12_amissBy_32 : decode cX12_amissBy 32 = .ok (.invokevirtual 282, 3) := by decide +kernel
theorem dX12_amissBy_35 : decode cX12_amissBy 35 = .ok (.iconst 1, 1) := by decide +kernel
theorem dX12_amissBy_36 : decode cX12_amissBy 36 = .ok (.iadd, 1) := by decide +kernel
theorem dX12_amissBy_37 : decode cX12_amissBy 37 = .ok (.invokevirtual 411, 3) := by decide +kernel
theorem dX12_amissBy_40 : decode cX12_amissBy 40 = .ok (.if_icmp .eq 9, 3) := by decide +kernel
theorem dX12_amissBy_43 : decode cX12_amissBy 43 = .ok (.iconst 1, 1) := by decide +kernel
theorem dX12_amissBy_44 : decode cX12_amissBy 44 = .ok (.iload_n 3, 1) := by decide +kernel
theorem dX12_amissBy_45 : decode cX12_amissBy 45 = .ok (.ishl, 1) := by decide +kernel
theorem dX12_amissBy_46 : decode cX12_amissBy 46 = .ok (.goto 4, 3) := by decide +kernel
theorem dX12_amissBy_49 : decode cX12_amissBy 49 = .ok (.iconst 0, 1) := by decide +kernel
theorem dX12_amissBy_50 : decode cX12_amissBy 50 = .ok (.ior, 1) := by decide +kernel
theorem dX12_amissBy_51 : decode cX12_amissBy 51 = .ok (.istore_n 2, 1) := by decide +kernel
theorem dX12_amissBy_52 : decode cX12_amissBy 52 = .ok (.iinc 3 1, 3) := by decide +kernel
theorem dX12_amissBy_55 : decode cX12_amissBy 55 = .ok (.goto (-51), 3) := by decide +kernel
theorem dX12_amissBy_58 : decode cX12_amissBy 58 = .ok (.iload_n 2, 1) := by decide +kernel
theorem dX12_amissBy_59 : decode cX12_amissBy 59 = .ok (.ireturn, 1) := by decide +kernel
def fX12_amissBy (a0 : Nat) (a1 : Int) (G : Hp) : RT := bd 0 fun v1 => bd 0 fun v2 => (lp (fun (_ : Int) (_ : Int) => (none : RT)) 5000 (fun (rc5 : Int → Int → RT) (v3 : Int) (v4 : Int) => bp (fX12_nodes a0 G) fun v6 => if v4 < v6 then (bp (fX12_isIn a0 a1 v4 G) fun v7 => jn (fun (v8 : Int) => bd (ior v3 v8) fun v10 => bd (iadd v4 1) fun v11 => rc5 v10 v11) fun (K9 : Int → RT) => jn (K9 0) fun (K12 : RT) => if v7 = 0 then K12 else (bp (fX12_firstOf a0 a1 v4 G) fun v13 => bp (fX12_placeOf a0 v4 G) fun v14 => bp (fX12_metFrom a0 a1 (iadd v14 1) G) fun v15 => if v13 = v15 then K12 else (K9 (ishl 1 v4)))) else rt v3 G)) v1 v2
theorem pX12_amissBy {G : Hp} {a0 : Nat} {a1 : Int} : PU G (fX12_amissBy a0 a1 G) := by
  unfold fX12_amissBy
  refine PU_bd (fun v1 => ?_)
  refine PU_bd (fun v2 => ?_)
  refine x_lp (fun (rc5 : Int → Int → RT) => ∀ (v3 : Int) (v4 : Int), PU G (rc5 v3 v4)) (fun _ _ => PU_none) (fun rc5 phrc5 v3 v4 => ?_) 5000 v1 v2
  refine PU_bp (fun v6 => ?_)
  refine PU_ite ?_ ?_
  · refine PU_bp (fun v7 => ?_)
    refine PU_jn (fun (K9 : Int → RT) => ∀ (v8 : Int), PU G (K9 v8)) ?_ (fun K9 phK9 => ?_)
    · intro v8
      refine PU_bd (fun v10 => ?_)
      refine PU_bd (fun v11 => ?_)
      exact phrc5 v10 v11
    · refine PU_jn (fun (K12 : RT) => PU G (K12)) ?_ (fun K12 phK12 => ?_)
      · exact phK9 0
      · refine PU_ite ?_ ?_
        · exact phK12
        · refine PU_bp (fun v13 => ?_)
          refine PU_bp (fun v14 => ?_)
          refine PU_bp (fun v15 => ?_)
          refine PU_ite ?_ ?_
          · exact phK12
          · exact phK9 (ishl 1 v4)
  · exact PU_rt
set_option maxRecDepth 20000 in
set_option maxHeartbeats 4000000 in
theorem tX12_amissBy (l : Launch) (x : WX) (hi : Inj x.2.2) (G : Hp) (a0 : Nat) (a1 : Int) (ha0 : kd a0 = 12) : Ct l x yX12_amissBy cX12_amissBy 4 (some .int) 3 129 129 [vR a0, vI a1] G (fX12_amissBy a0 a1 G) := by
  refine ct_of (plainFor_of_name (by decide)) hi (Nat.le_refl _) (Nat.le_refl _) (Nat.le_of_ble_eq_true rfl) (fun cx F hd hn0 hnE hl hQ => ?_)
  subst hl
  have F : Fx cx x RX12 cX12_amissBy 4 (some .int) := F
  show Y cx x 4 (some .int) 129 0 [(0, vR a0), (1, vI a1)] [] G _
  unfold fX12_amissBy
  refine x_iconst F dX12_amissBy_0 ⟨by decide, by decide⟩ rfl ?_
  refine x_istore_n F dX12_amissBy_1 rfl (by decide) rfl rfl (fun v1 => ?_)
  show Y cx x _ _ _ _ [(0, vR a0), (1, vI a1), (2, vI v1)] _ _ _
  refine x_iconst F dX12_amissBy_2 ⟨by decide, by decide⟩ rfl ?_
  refine x_istore_n F dX12_amissBy_3 rfl (by decide) rfl rfl (fun v2 => ?_)
  show Y cx x _ _ _ _ [(0, vR a0), (1, vI a1), (2, vI v1), (3, vI v2)] _ _ _
  refine x_lp (fun (rc5 : Int → Int → RT) => ∀ (v3 : Int) (v4 : Int), Y cx x 4 (some .int) 129 4 [(0, vR a0), (1, vI a1), (2, vI v3), (3, vI v4)] [] G (rc5 v3 v4)) (fun _ _ => Y_none) (fun rc5 hrc5 v3 v4 => ?_) 5000 v1 v2
  refine x_iload_n F dX12_amissBy_4 rfl rfl rfl ?_
  refine x_aload_n F dX12_amissBy_5 rfl rfl rfl ?_
  refine s_callVP F [] [vI v4] lkX12_236 mX12_nodes rfl ha0 rfl hnE hn0 hd pX12_nodes (tX12_nodes cx.l x hi G a0 ha0) rfl rfl dX12_amissBy_6 rfl rfl (fun v6 => ?_)
  refine x_icmpge (pt := 58) F dX12_amissBy_9 rfl rfl ?_ ?_
  · refine x_iload_n F dX12_amissBy_12 rfl rfl rfl ?_
    refine x_aload_n F dX12_amissBy_13 rfl rfl rfl ?_
    refine x_iload_n F dX12_amissBy_14 rfl rfl rfl ?_
    refine x_iload_n F dX12_amissBy_15 rfl rfl rfl ?_
    refine s_callVP F [vI a1, vI v4] [vI v3] lkX12_278 mX12_isIn rfl ha0 rfl hnE hn0 hd pX12_isIn (tX12_isIn cx.l x hi G a0 a1 v4 ha0) rfl rfl dX12_amissBy_16 rfl rfl (fun v7 => ?_)
    refine x_jn (fun (K9 : Int → RT) => ∀ (v8 : Int), Y cx x 4 (some .int) 129 50 [(0, vR a0), (1, vI a1), (3, vI v4)] [vI v8, vI v3] G (K9 v8)) ?_ (fun K9 hK9 => ?_)
    · intro v8
      refine x_ior F dX12_amissBy_50 rfl ?_
      refine x_istore_n F dX12_amissBy_51 rfl (by decide) rfl rfl (fun v10 => ?_)
      show Y cx x _ _ _ _ [(0, vR a0), (1, vI a1), (3, vI v4), (2, vI v10)] _ _ _
      refine x_iinc F dX12_amissBy_52 rfl (by decide) rfl rfl (fun v11 => ?_)
      show Y cx x _ _ _ _ [(0, vR a0), (1, vI a1), (3, vI v11), (2, vI v10)] _ _ _
      refine x_goto (pc' := 4) F dX12_amissBy_55 rfl ?_
      refine x_dp (L' := [(0, vR a0), (1, vI a1), (2, vI v10), (3, vI v11)]) [0, 1, 3, 2] rfl ?_
      exact hrc5 v10 v11
    · refine x_jn (fun (K12 : RT) => Y cx x 4 (some .int) 129 49 [(0, vR a0), (1, vI a1), (3, vI v4)] [vI v3] G K12) ?_ (fun K12 hK12 => ?_)
      · refine x_iconst F dX12_amissBy_49 ⟨by decide, by decide⟩ rfl ?_
        exact hK9 0
      · refine x_ifeq (pt := 49) F dX12_amissBy_19 rfl rfl ?_ ?_
        · refine x_dp (L' := [(0, vR a0), (1, vI a1), (3, vI v4)]) [0, 1, 3] rfl ?_
          exact hK12
        · refine x_aload_n F dX12_amissBy_22 rfl rfl rfl ?_
          refine x_iload_n F dX12_amissBy_23 rfl rfl rfl ?_
          refine x_iload_n F dX12_amissBy_24 rfl rfl rfl ?_
          refine s_callVP F [vI a1, vI v4] [vI v3] lkX12_310 mX12_firstOf rfl ha0 rfl hnE hn0 hd pX12_firstOf (tX12_firstOf cx.l x hi G a0 a1 v4 ha0) rfl rfl dX12_amissBy_25 rfl rfl (fun v13 => ?_)
          refine x_aload_n F dX12_amissBy_28 rfl rfl rfl ?_
          refine x_iload_n F dX12_amissBy_29 rfl rfl rfl ?_
          refine x_aload_n F dX12_amissBy_30 rfl rfl rfl ?_
          refine x_iload_n F dX12_amissBy_31 rfl rfl rfl ?_
          refine s_callVP F [vI v4] [vI a1, vR a0, vI v13, vI v3] lkX12_282 mX12_placeOf rfl ha0 rfl hnE hn0 hd pX12_placeOf (tX12_placeOf cx.l x hi G a0 v4 ha0) rfl rfl dX12_amissBy_32 rfl rfl (fun v14 => ?_)
          refine x_iconst F dX12_amissBy_35 ⟨by decide, by decide⟩ rfl ?_
          refine x_iadd F dX12_amissBy_36 rfl ?_
          refine s_callVP F [vI a1, vI (iadd v14 1)] [vI v13, vI v3] lkX12_411 mX12_metFrom rfl ha0 rfl hnE hn0 hd pX12_metFrom (tX12_metFrom cx.l x hi G a0 a1 (iadd v14 1) ha0) rfl rfl dX12_amissBy_37 rfl rfl (fun v15 => ?_)
          refine x_icmpeq (pt := 49) F dX12_amissBy_40 rfl rfl ?_ ?_
          · refine x_dp (L' := [(0, vR a0), (1, vI a1), (3, vI v4)]) [0, 1, 3] rfl ?_
            exact hK12
          · refine x_iconst F dX12_amissBy_43 ⟨by decide, by decide⟩ rfl ?_
            refine x_iload_n F dX12_amissBy_44 rfl rfl rfl ?_
            refine x_ishl F dX12_amissBy_45 rfl ?_
            refine x_goto (pc' := 50) F dX12_amissBy_46 rfl ?_
            refine x_dp (L' := [(0, vR a0), (1, vI a1), (3, vI v4)]) [0, 1, 3] rfl ?_
            exact hK9 (ishl 1 v4)
  · refine x_iload_n F dX12_amissBy_58 rfl rfl rfl ?_
    exact x_iret F hnE hQ dX12_amissBy_59
theorem dX12_behindBy_0 : decode cX12_behindBy 0 = .ok (.iconst 0, 1) := by decide +kernel
theorem dX12_behindBy_1 : decode cX12_behindBy 1 = .ok (.istore_n 2, 1) := by decide +kernel
theorem dX12_behindBy_2 : decode cX12_behindBy 2 = .ok (.iconst 0, 1) := by decide +kernel
theorem dX12_behindBy_3 : decode cX12_behindBy 3 = .ok (.istore_n 3, 1) := by decide +kernel
theorem dX12_behindBy_4 : decode cX12_behindBy 4 = .ok (.iload_n 3, 1) := by decide +kernel
theorem dX12_behindBy_5 : decode cX12_behindBy 5 = .ok (.aload_n 0, 1) := by decide +kernel
theorem dX12_behindBy_6 : decode cX12_behindBy 6 = .ok (.invokevirtual 236, 3) := by decide +kernel
theorem dX12_behindBy_9 : decode cX12_behindBy 9 = .ok (.if_icmp .ge 57, 3) := by decide +kernel
theorem dX12_behindBy_12 : decode cX12_behindBy 12 = .ok (.aload_n 0, 1) := by decide +kernel
theorem dX12_behindBy_13 : decode cX12_behindBy 13 = .ok (.iload_n 1, 1) := by decide +kernel
theorem dX12_behindBy_14 : decode cX12_behindBy 14 = .ok (.iload_n 3, 1) := by decide +kernel
theorem dX12_behindBy_15 : decode cX12_behindBy 15 = .ok (.invokevirtual 278, 3) := by decide +kernel
theorem dX12_behindBy_18 : decode cX12_behindBy 18 = .ok (.ifCond .eq 12, 3) := by decide +kernel
theorem dX12_behindBy_21 : decode cX12_behindBy 21 = .ok (.aload_n 0, 1) := by decide +kernel
theorem dX12_behindBy_22 : decode cX12_behindBy 22 = .ok (.iload_n 1, 1) := by decide +kernel
theorem dX12_behindBy_23 : decode cX12_behindBy 23 = .ok (.iload_n 3, 1) := by decide +kernel
theorem dX12_behindBy_24 : decode cX12_behindBy 24 = .ok (.invokevirtual 453, 3) := by decide +kernel
theorem dX12_behindBy_27 : decode cX12_behindBy 27 = .ok (.goto 4, 3) := by decide +kernel
theorem dX12_behindBy_30 : decode cX12_behindBy 30 = .ok (.iload_n 3, 1) := by decide +kernel
theorem dX12_behindBy_31 : decode cX12_behindBy 31 = .ok (.istore 4, 2) := by decide +kernel
theorem dX12_behindBy_33 : decode cX12_behindBy 33 = .ok (.iload_n 2, 1) := by decide +kernel
theorem dX12_behindBy_34 : decode cX12_behindBy 34 = .ok (.iload 4, 2) := by decide +kernel
theorem dX12_behindBy_36 : decode cX12_behindBy 36 = .ok (.iload_n 3, 1) := by decide +kernel
theorem dX12_behindBy_37 : decode cX12_behindBy 37 = .ok (.if_icmp .eq 20, 3) := by decide +kernel
theorem dX12_behindBy_40 : decode cX12_behindBy 40 = .ok (.aload_n 0, 1) := by decide +kernel
theorem dX12_behindBy_41 : decode cX12_behindBy 41 = .ok (.iload_n 1, 1) := by decide +kernel
theorem dX12_behindBy_42 : decode cX12_behindBy 42 = .ok (.iload_n 3, 1) := by decide +kernel
theorem dX12_behindBy_43 : decode cX12_behindBy 43 = .ok (.invokevirtual 343, 3) := by decide +kernel
theorem dX12_behindBy_46 : decode cX12_behindBy 46 = .ok (.iload 4, 2) := by decide +kernel
theorem dX12_behindBy_48 : decode cX12_behindBy 48 = .ok (.if_icmp .eq 9, 3) := by decide +kernel
theorem dX12_behindBy_51 : decode cX12_behindBy 51 = .ok (.iconst 1, 1) := by decide +kernel
theorem dX12_behindBy_52 : decode cX12_behindBy 52 = .ok (.iload_n 3, 1) := by decide +kernel
theorem dX12_behindBy_53 : decode cX12_behindBy 53 = .ok (.ishl, 1) := by decide +kernel
theorem dX12_behindBy_54 : decode cX12_behindBy 54 = .ok (.goto 4, 3) := by decide +kernel
theorem dX12_behindBy_57 : decode cX12_behindBy 57 = .ok (.iconst 0, 1) := by decide +kernel
theorem dX12_behindBy_58 : decode cX12_behindBy 58 = .ok (.ior, 1) := by decide +kernel
theorem dX12_behindBy_59 : decode cX12_behindBy 59 = .ok (.istore_n 2, 1) := by decide +kernel
theorem dX12_behindBy_60 : decode cX12_behindBy 60 = .ok (.iinc 3 1, 3) := by decide +kernel
theorem dX12_behindBy_63 : decode cX12_behindBy 63 = .ok (.goto (-59), 3) := by decide +kernel
theorem dX12_behindBy_66 : decode cX12_behindBy 66 = .ok (.iload_n 2, 1) := by decide +kernel
theorem dX12_behindBy_67 : decode cX12_behindBy 67 = .ok (.ireturn, 1) := by decide +kernel
def fX12_behindBy (a0 : Nat) (a1 : Int) (G : Hp) : RT := bd 0 fun v1 => bd 0 fun v2 => (lp (fun (_ : Int) (_ : Int) => (none : RT)) 5000 (fun (rc5 : Int → Int → RT) (v3 : Int) (v4 : Int) => bp (fX12_nodes a0 G) fun v6 => if v4 < v6 then (bp (fX12_isIn a0 a1 v4 G) fun v7 => jn (fun (v8 : Int) => bd v8 fun v10 => jn (fun (v11 : Int) => bd (ior v3 v11) fun v13 => bd (iadd v4 1) fun v14 => rc5 v13 v14) fun (K12 : Int → RT) => jn (K12 0) fun (K15 : RT) => if v10 = v4 then K15 else (bp (fX12_aheadOf a0 a1 v4 G) fun v16 => if v16 = v10 then K15 else (K12 (ishl 1 v4)))) fun (K9 : Int → RT) => if v7 = 0 then K9 v4 else (bp (fX12_metBack a0 a1 v4 G) fun v17 => K9 v17)) else rt v3 G)) v1 v2
theorem pX12_behindBy {G : Hp} {a0 : Nat} {a1 : Int} : PU G (fX12_behindBy a0 a1 G) := by
  unfold fX12_behindBy
  refine PU_bd (fun v1 => ?_)
  refine PU_bd (fun v2 => ?_)
  refine x_lp (fun (rc5 : Int → Int → RT) => ∀ (v3 : Int) (v4 : Int), PU G (rc5 v3 v4)) (fun _ _ => PU_none) (fun rc5 phrc5 v3 v4 => ?_) 5000 v1 v2
  refine PU_bp (fun v6 => ?_)
  refine PU_ite ?_ ?_
  · refine PU_bp (fun v7 => ?_)
    refine PU_jn (fun (K9 : Int → RT) => ∀ (v8 : Int), PU G (K9 v8)) ?_ (fun K9 phK9 => ?_)
    · intro v8
      refine PU_bd (fun v10 => ?_)
      refine PU_jn (fun (K12 : Int → RT) => ∀ (v11 : Int), PU G (K12 v11)) ?_ (fun K12 phK12 => ?_)
      · intro v11
        refine PU_bd (fun v13 => ?_)
        refine PU_bd (fun v14 => ?_)
        exact phrc5 v13 v14
      · refine PU_jn (fun (K15 : RT) => PU G (K15)) ?_ (fun K15 phK15 => ?_)
        · exact phK12 0
        · refine PU_ite ?_ ?_
          · exact phK15
          · refine PU_bp (fun v16 => ?_)
            refine PU_ite ?_ ?_
            · exact phK15
            · exact phK12 (ishl 1 v4)
    · refine PU_ite ?_ ?_
      · exact phK9 v4
      · refine PU_bp (fun v17 => ?_)
        exact phK9 v17
  · exact PU_rt
set_option maxRecDepth 20000 in
set_option maxHeartbeats 4000000 in
theorem tX12_behindBy (l : Launch) (x : WX) (hi : Inj x.2.2) (G : Hp) (a0 : Nat) (a1 : Int) (ha0 : kd a0 = 12) : Ct l x yX12_behindBy cX12_behindBy 5 (some .int) 3 129 129 [vR a0, vI a1] G (fX12_behindBy a0 a1 G) := by
  refine ct_of (plainFor_of_name (by decide)) hi (Nat.le_refl _) (Nat.le_refl _) (Nat.le_of_ble_eq_true rfl) (fun cx F hd hn0 hnE hl hQ => ?_)
  subst hl
  have F : Fx cx x RX12 cX12_behindBy 5 (some .int) := F
  show Y cx x 5 (some .int) 129 0 [(0, vR a0), (1, vI a1)] [] G _
  unfold fX12_behindBy
  refine x_iconst F dX12_behindBy_0 ⟨by decide, by decide⟩ rfl ?_
  refine x_istore_n F dX12_behindBy_1 rfl (by decide) rfl rfl (fun v1 => ?_)
  show Y cx x _ _ _ _ [(0, vR a0), (1, vI a1), (2, vI v1)] _ _ _
  refine x_iconst F dX12_behindBy_2 ⟨by decide, by decide⟩ rfl ?_
  refine x_istore_n F dX12_behindBy_3 rfl (by decide) rfl rfl (fun v2 => ?_)
  show Y cx x _ _ _ _ [(0, vR a0), (1, vI a1), (2, vI v1), (3, vI v2)] _ _ _
  refine x_lp (fun (rc5 : Int → Int → RT) => ∀ (v3 : Int) (v4 : Int), Y cx x 5 (some .int) 129 4 [(0, vR a0), (1, vI a1), (2, vI v3), (3, vI v4)] [] G (rc5 v3 v4)) (fun _ _ => Y_none) (fun rc5 hrc5 v3 v4 => ?_) 5000 v1 v2
  refine x_iload_n F dX12_behindBy_4 rfl rfl rfl ?_
  refine x_aload_n F dX12_behindBy_5 rfl rfl rfl ?_
  refine s_callVP F [] [vI v4] lkX12_236 mX12_nodes rfl ha0 rfl hnE hn0 hd pX12_nodes (tX12_nodes cx.l x hi G a0 ha0) rfl rfl dX12_behindBy_6 rfl rfl (fun v6 => ?_)
  refine x_icmpge (pt := 66) F dX12_behindBy_9 rfl rfl ?_ ?_
  · refine x_aload_n F dX12_behindBy_12 rfl rfl rfl ?_
    refine x_iload_n F dX12_behindBy_13 rfl rfl rfl ?_
    refine x_iload_n F dX12_behindBy_14 rfl rfl rfl ?_
    refine s_callVP F [vI a1, vI v4] [] lkX12_278 mX12_isIn rfl ha0 rfl hnE hn0 hd pX12_isIn (tX12_isIn cx.l x hi G a0 a1 v4 ha0) rfl rfl dX12_behindBy_15 rfl rfl (fun v7 => ?_)
    refine x_jn (fun (K9 : Int → RT) => ∀ (v8 : Int), Y cx x 5 (some .int) 129 31 [(0, vR a0), (1, vI a1), (2, vI v3), (3, vI v4)] [vI v8] G (K9 v8)) ?_ (fun K9 hK9 => ?_)
    · intro v8
      refine x_istore F dX12_behindBy_31 (by decide) rfl rfl (fun v10 => ?_)
      show Y cx x _ _ _ _ [(0, vR a0), (1, vI a1), (2, vI v3), (3, vI v4), (4, vI v10)] _ _ _
      refine x_iload_n F dX12_behindBy_33 rfl rfl rfl ?_
      refine x_iload F dX12_behindBy_34 rfl rfl ?_
      refine x_iload_n F dX12_behindBy_36 rfl rfl rfl ?_
      refine x_jn (fun (K12 : Int → RT) => ∀ (v11 : Int), Y cx x 5 (some .int) 129 58 [(0, vR a0), (1, vI a1), (3, vI v4)] [vI v11, vI v3] G (K12 v11)) ?_ (fun K12 hK12 => ?_)
      · intro v11
        refine x_ior F dX12_behindBy_58 rfl ?_
        refine x_istore_n F dX12_behindBy_59 rfl (by decide) rfl rfl (fun v13 => ?_)
        show Y cx x _ _ _ _ [(0, vR a0), (1, vI a1), (3, vI v4), (2, vI v13)] _ _ _
        refine x_iinc F dX12_behindBy_60 rfl (by decide) rfl rfl (fun v14 => ?_)
        show Y cx x _ _ _ _ [(0, vR a0), (1, vI a1), (3, vI v14), (2, vI v13)] _ _ _
        refine x_goto (pc' := 4) F dX12_behindBy_63 rfl ?_
        refine x_dp (L' := [(0, vR a0), (1, vI a1), (2, vI v13), (3, vI v14)]) [0, 1, 3, 2] rfl ?_
        exact hrc5 v13 v14
      · refine x_jn (fun (K15 : RT) => Y cx x 5 (some .int) 129 57 [(0, vR a0), (1, vI a1), (3, vI v4)] [vI v3] G K15) ?_ (fun K15 hK15 => ?_)
        · refine x_iconst F dX12_behindBy_57 ⟨by decide, by decide⟩ rfl ?_
          exact hK12 0
        · refine x_icmpeq (pt := 57) F dX12_behindBy_37 rfl rfl ?_ ?_
          · refine x_dp (L' := [(0, vR a0), (1, vI a1), (3, vI v4)]) [0, 1, 3] rfl ?_
            exact hK15
          · refine x_aload_n F dX12_behindBy_40 rfl rfl rfl ?_
            refine x_iload_n F dX12_behindBy_41 rfl rfl rfl ?_
            refine x_iload_n F dX12_behindBy_42 rfl rfl rfl ?_
            refine s_callVP F [vI a1, vI v4] [vI v3] lkX12_343 mX12_aheadOf rfl ha0 rfl hnE hn0 hd pX12_aheadOf (tX12_aheadOf cx.l x hi G a0 a1 v4 ha0) rfl rfl dX12_behindBy_43 rfl rfl (fun v16 => ?_)
            refine x_iload F dX12_behindBy_46 rfl rfl ?_
            refine x_icmpeq (pt := 57) F dX12_behindBy_48 rfl rfl ?_ ?_
            · refine x_dp (L' := [(0, vR a0), (1, vI a1), (3, vI v4)]) [0, 1, 3] rfl ?_
              exact hK15
            · refine x_iconst F dX12_behindBy_51 ⟨by decide, by decide⟩ rfl ?_
              refine x_iload_n F dX12_behindBy_52 rfl rfl rfl ?_
              refine x_ishl F dX12_behindBy_53 rfl ?_
              refine x_goto (pc' := 58) F dX12_behindBy_54 rfl ?_
              refine x_dp (L' := [(0, vR a0), (1, vI a1), (3, vI v4)]) [0, 1, 3] rfl ?_
              exact hK12 (ishl 1 v4)
    · refine x_ifeq (pt := 30) F dX12_behindBy_18 rfl rfl ?_ ?_
      · refine x_iload_n F dX12_behindBy_30 rfl rfl rfl ?_
        exact hK9 v4
      · refine x_aload_n F dX12_behindBy_21 rfl rfl rfl ?_
        refine x_iload_n F dX12_behindBy_22 rfl rfl rfl ?_
        refine x_iload_n F dX12_behindBy_23 rfl rfl rfl ?_
        refine s_callVP F [vI a1, vI v4] [] lkX12_453 mX12_metBack rfl ha0 rfl hnE hn0 hd pX12_metBack (tX12_metBack cx.l x hi G a0 a1 v4 ha0) rfl rfl dX12_behindBy_24 rfl rfl (fun v17 => ?_)
        refine x_goto (pc' := 31) F dX12_behindBy_27 rfl ?_
        exact hK9 v17
  · refine x_iload_n F dX12_behindBy_66 rfl rfl rfl ?_
    exact x_iret F hnE hQ dX12_behindBy_67
theorem dX12_wrongs_0 : decode cX12_wrongs 0 = .ok (.aload_n 0, 1) := by decide +kernel
theorem dX12_wrongs_1 : decode cX12_wrongs 1 = .ok (.iconst 0, 1) := by decide +kernel
theorem dX12_wrongs_2 : decode cX12_wrongs 2 = .ok (.putfield 1, 3) := by decide +kernel
theorem dX12_wrongs_5 : decode cX12_wrongs 5 = .ok (.aload_n 0, 1) := by decide +kernel
theorem dX12_wrongs_6 : decode cX12_wrongs 6 = .ok (.iload_n 1, 1) := by decide +kernel
theorem dX12_wrongs_7 : decode cX12_wrongs 7 = .ok (.invokevirtual 465, 3) := by decide +kernel
theorem dX12_wrongs_10 : decode cX12_wrongs 10 = .ok (.ifCond .ne 5, 3) := by decide +kernel
theorem dX12_wrongs_13 : decode cX12_wrongs 13 = .ok (.iconst (-1), 1) := by decide +kernel
theorem dX12_wrongs_14 : decode cX12_wrongs 14 = .ok (.ireturn, 1) := by decide +kernel
theorem dX12_wrongs_15 : decode cX12_wrongs 15 = .ok (.iconst 0, 1) := by decide +kernel
theorem dX12_wrongs_16 : decode cX12_wrongs 16 = .ok (.istore_n 2, 1) := by decide +kernel
theorem dX12_wrongs_17 : decode cX12_wrongs 17 = .ok (.iconst 0, 1) := by decide +kernel
theorem dX12_wrongs_18 : decode cX12_wrongs 18 = .ok (.istore_n 3, 1) := by decide +kernel
theorem dX12_wrongs_19 : decode cX12_wrongs 19 = .ok (.iload_n 3, 1) := by decide +kernel
theorem dX12_wrongs_20 : decode cX12_wrongs 20 = .ok (.bipush 8, 2) := by decide +kernel
theorem dX12_wrongs_22 : decode cX12_wrongs 22 = .ok (.if_icmp .ge 48, 3) := by decide +kernel
theorem dX12_wrongs_25 : decode cX12_wrongs 25 = .ok (.iload_n 2, 1) := by decide +kernel
theorem dX12_wrongs_26 : decode cX12_wrongs 26 = .ok (.aload_n 0, 1) := by decide +kernel
theorem dX12_wrongs_27 : decode cX12_wrongs 27 = .ok (.iload_n 3, 1) := by decide +kernel
theorem dX12_wrongs_28 : decode cX12_wrongs 28 = .ok (.invokevirtual 349, 3) := by decide +kernel
theorem dX12_wrongs_31 : decode cX12_wrongs 31 = .ok (.ifCond .eq 30, 3) := by decide +kernel
theorem dX12_wrongs_34 : decode cX12_wrongs 34 = .ok (.aload_n 0, 1) := by decide +kernel
theorem dX12_wrongs_35 : decode cX12_wrongs 35 = .ok (.iconst 0, 1) := by decide +kernel
theorem dX12_wrongs_36 : decode cX12_wrongs 36 = .ok (.iload_n 1, 1) := by decide +kernel
theorem dX12_wrongs_37 : decode cX12_wrongs 37 = .ok (.iload_n 3, 1) := by decide +kernel
theorem dX12_wrongs_38 : decode cX12_wrongs 38 = .ok (.invokevirtual 304, 3) := by decide +kernel
theorem dX12_wrongs_41 : decode cX12_wrongs 41 = .ok (.aload_n 0, 1) := by decide +kernel
theorem dX12_wrongs_42 : decode cX12_wrongs 42 = .ok (.iconst 0, 1) := by decide +kernel
theorem dX12_wrongs_43 : decode cX12_wrongs 43 = .ok (.aload_n 0, 1) := by decide +kernel
theorem dX12_wrongs_44 : decode cX12_wrongs 44 = .ok (.iload_n 1, 1) := by decide +kernel
theorem dX12_wrongs_45 : decode cX12_wrongs 45 = .ok (.iload_n 3, 1) := by decide +kernel
theorem dX12_wrongs_46 : decode cX12_wrongs 46 = .ok (.invokevirtual 352, 3) := by decide +kernel
theorem dX12_wrongs_49 : decode cX12_wrongs 49 = .ok (.invokevirtual 411, 3) := by decide +kernel
theorem dX12_wrongs_52 : decode cX12_wrongs 52 = .ok (.if_icmp .eq 9, 3) := by decide +kernel
theorem dX12_wrongs_55 : decode cX12_wrongs 55 = .ok (.iconst 1, 1) := by decide +kernel
theorem dX12_wrongs_56 : decode cX12_wrongs 56 = .ok (.iload_n 3, 1) := by decide +kernel
theorem dX12_wrongs_57 : decode cX12_wrongs 57 = .ok (.ishl, 1) := by decide +kernel
theorem dX12_wrongs_58 : decode cX12_wrongs 58 = .ok (.goto 4, 3) := by decide +kernel
theorem dX12_wrongs_61 : decode cX12_wrongs 61 = .ok (.iconst 0, 1) := by decide +kernel
theorem dX12_wrongs_62 : decode cX12_wrongs 62 = .ok (.ior, 1) := by decide +kernel
theorem dX12_wrongs_63 : decode cX12_wrongs 63 = .ok (.istore_n 2, 1) := by decide +kernel
theorem dX12_wrongs_64 : decode cX12_wrongs 64 = .ok (.iinc 3 1, 3) := by decide +kernel
theorem dX12_wrongs_67 : decode cX12_wrongs 67 = .ok (.goto (-48), 3) := by decide +kernel
theorem dX12_wrongs_70 : decode cX12_wrongs 70 = .ok (.iload_n 2, 1) := by decide +kernel
theorem dX12_wrongs_71 : decode cX12_wrongs 71 = .ok (.ireturn, 1) := by decide +kernel
def fX12_wrongs (a0 : Nat) (a1 : Int) (G : Hp) : RT := bh (up G a0 0 0) fun G1 => bp (fX12_isThere a0 a1 G1) fun v2 => if v2 = 0 then (rt ((-1)) G1) else (bd 0 fun v3 => bd 0 fun v4 => (lp (fun (_ : Int) (_ : Int) => (none : RT)) 5000 (fun (rc7 : Int → Int → RT) (v5 : Int) (v6 : Int) => if v6 < 8 then (bp (fX12_hasFinger a0 v6 G1) fun v8 => jn (fun (v9 : Int) => bd (ior v5 v9) fun v11 => bd (iadd v6 1) fun v12 => rc7 v11 v12) fun (K10 : Int → RT) => jn (K10 0) fun (K13 : RT) => if v8 = 0 then K13 else (bp (fX12_fingerOf a0 0 a1 v6 G1) fun v14 => bp (fX12_fingerPlace a0 a1 v6 G1) fun v15 => bp (fX12_metFrom a0 0 v15 G1) fun v16 => if v14 = v16 then K13 else (K10 (ishl 1 v6)))) else rt v5 G1)) v3 v4)
set_option maxRecDepth 20000 in
set_option maxHeartbeats 4000000 in
theorem tX12_wrongs (l : Launch) (x : WX) (hi : Inj x.2.2) (G : Hp) (a0 : Nat) (a1 : Int) (ha0 : kd a0 = 12) : Ct l x yX12_wrongs cX12_wrongs 4 (some .int) 3 129 129 [vR a0, vI a1] G (fX12_wrongs a0 a1 G) := by
  refine ct_of (plainFor_of_name (by decide)) hi (Nat.le_refl _) (Nat.le_refl _) (Nat.le_of_ble_eq_true rfl) (fun cx F hd hn0 hnE hl hQ => ?_)
  subst hl
  have F : Fx cx x RX12 cX12_wrongs 4 (some .int) := F
  show Y cx x 4 (some .int) 129 0 [(0, vR a0), (1, vI a1)] [] G _
  unfold fX12_wrongs
  refine x_aload_n F dX12_wrongs_0 rfl rfl rfl ?_
  refine x_iconst F dX12_wrongs_1 ⟨by decide, by decide⟩ rfl ?_
  refine s_putI F fpX12_1 ha0 rfl dX12_wrongs_2 rfl (fun G1 => ?_)
  refine x_aload_n F dX12_wrongs_5 rfl rfl rfl ?_
  refine x_iload_n F dX12_wrongs_6 rfl rfl rfl ?_
  refine s_callVP F [vI a1] [] lkX12_465 mX12_isThere rfl ha0 rfl hnE hn0 hd pX12_isThere (tX12_isThere cx.l x hi G1 a0 a1 ha0) rfl rfl dX12_wrongs_7 rfl rfl (fun v2 => ?_)
  refine x_ifne (pt := 15) F dX12_wrongs_10 rfl rfl ?_ ?_
  · refine x_iconst F dX12_wrongs_13 ⟨by decide, by decide⟩ rfl ?_
    exact x_iret F hnE hQ dX12_wrongs_14
  · refine x_iconst F dX12_wrongs_15 ⟨by decide, by decide⟩ rfl ?_
    refine x_istore_n F dX12_wrongs_16 rfl (by decide) rfl rfl (fun v3 => ?_)
    show Y cx x _ _ _ _ [(0, vR a0), (1, vI a1), (2, vI v3)] _ _ _
    refine x_iconst F dX12_wrongs_17 ⟨by decide, by decide⟩ rfl ?_
    refine x_istore_n F dX12_wrongs_18 rfl (by decide) rfl rfl (fun v4 => ?_)
    show Y cx x _ _ _ _ [(0, vR a0), (1, vI a1), (2, vI v3), (3, vI v4)] _ _ _
    refine x_lp (fun (rc7 : Int → Int → RT) => ∀ (v5 : Int) (v6 : Int), Y cx x 4 (some .int) 129 19 [(0, vR a0), (1, vI a1), (2, vI v5), (3, vI v6)] [] G1 (rc7 v5 v6)) (fun _ _ => Y_none) (fun rc7 hrc7 v5 v6 => ?_) 5000 v3 v4
    refine x_iload_n F dX12_wrongs_19 rfl rfl rfl ?_
    refine x_bipush F dX12_wrongs_20 ⟨by decide, by decide⟩ (by decide) rfl ?_
    refine x_icmpge (pt := 70) F dX12_wrongs_22 rfl rfl ?_ ?_
    · refine x_iload_n F dX12_wrongs_25 rfl rfl rfl ?_
      refine x_aload_n F dX12_wrongs_26 rfl rfl rfl ?_
      refine x_iload_n F dX12_wrongs_27 rfl rfl rfl ?_
      refine s_callVP F [vI v6] [vI v5] lkX12_349 mX12_hasFinger rfl ha0 rfl hnE hn0 hd pX12_hasFinger (tX12_hasFinger cx.l x hi G1 a0 v6 ha0) rfl rfl dX12_wrongs_28 rfl rfl (fun v8 => ?_)
      refine x_jn (fun (K10 : Int → RT) => ∀ (v9 : Int), Y cx x 4 (some .int) 129 62 [(0, vR a0), (1, vI a1), (3, vI v6)] [vI v9, vI v5] G1 (K10 v9)) ?_ (fun K10 hK10 => ?_)
      · intro v9
        refine x_ior F dX12_wrongs_62 rfl ?_
        refine x_istore_n F dX12_wrongs_63 rfl (by decide) rfl rfl (fun v11 => ?_)
        show Y cx x _ _ _ _ [(0, vR a0), (1, vI a1), (3, vI v6), (2, vI v11)] _ _ _
        refine x_iinc F dX12_wrongs_64 rfl (by decide) rfl rfl (fun v12 => ?_)
        show Y cx x _ _ _ _ [(0, vR a0), (1, vI a1), (3, vI v12), (2, vI v11)] _ _ _
        refine x_goto (pc' := 19) F dX12_wrongs_67 rfl ?_
        refine x_dp (L' := [(0, vR a0), (1, vI a1), (2, vI v11), (3, vI v12)]) [0, 1, 3, 2] rfl ?_
        exact hrc7 v11 v12
      · refine x_jn (fun (K13 : RT) => Y cx x 4 (some .int) 129 61 [(0, vR a0), (1, vI a1), (3, vI v6)] [vI v5] G1 K13) ?_ (fun K13 hK13 => ?_)
        · refine x_iconst F dX12_wrongs_61 ⟨by decide, by decide⟩ rfl ?_
          exact hK10 0
        · refine x_ifeq (pt := 61) F dX12_wrongs_31 rfl rfl ?_ ?_
          · refine x_dp (L' := [(0, vR a0), (1, vI a1), (3, vI v6)]) [0, 1, 3] rfl ?_
            exact hK13
          · refine x_aload_n F dX12_wrongs_34 rfl rfl rfl ?_
            refine x_iconst F dX12_wrongs_35 ⟨by decide, by decide⟩ rfl ?_
            refine x_iload_n F dX12_wrongs_36 rfl rfl rfl ?_
            refine x_iload_n F dX12_wrongs_37 rfl rfl rfl ?_
            refine s_callVP F [vI 0, vI a1, vI v6] [vI v5] lkX12_304 mX12_fingerOf rfl ha0 rfl hnE hn0 hd pX12_fingerOf (tX12_fingerOf cx.l x hi G1 a0 0 a1 v6 ha0) rfl rfl dX12_wrongs_38 rfl rfl (fun v14 => ?_)
            refine x_aload_n F dX12_wrongs_41 rfl rfl rfl ?_
            refine x_iconst F dX12_wrongs_42 ⟨by decide, by decide⟩ rfl ?_
            refine x_aload_n F dX12_wrongs_43 rfl rfl rfl ?_
            refine x_iload_n F dX12_wrongs_44 rfl rfl rfl ?_
            refine x_iload_n F dX12_wrongs_45 rfl rfl rfl ?_
            refine s_callVP F [vI a1, vI v6] [vI 0, vR a0, vI v14, vI v5] lkX12_352 mX12_fingerPlace rfl ha0 rfl hnE hn0 hd pX12_fingerPlace (tX12_fingerPlace cx.l x hi G1 a0 a1 v6 ha0) rfl rfl dX12_wrongs_46 rfl rfl (fun v15 => ?_)
            refine s_callVP F [vI 0, vI v15] [vI v14, vI v5] lkX12_411 mX12_metFrom rfl ha0 rfl hnE hn0 hd pX12_metFrom (tX12_metFrom cx.l x hi G1 a0 0 v15 ha0) rfl rfl dX12_wrongs_49 rfl rfl (fun v16 => ?_)
            refine x_icmpeq (pt := 61) F dX12_wrongs_52 rfl rfl ?_ ?_
            · refine x_dp (L' := [(0, vR a0), (1, vI a1), (3, vI v6)]) [0, 1, 3] rfl ?_
              exact hK13
            · refine x_iconst F dX12_wrongs_55 ⟨by decide, by decide⟩ rfl ?_
              refine x_iload_n F dX12_wrongs_56 rfl rfl rfl ?_
              refine x_ishl F dX12_wrongs_57 rfl ?_
              refine x_goto (pc' := 62) F dX12_wrongs_58 rfl ?_
              refine x_dp (L' := [(0, vR a0), (1, vI a1), (3, vI v6)]) [0, 1, 3] rfl ?_
              exact hK10 (ishl 1 v6)
    · refine x_iload_n F dX12_wrongs_70 rfl rfl rfl ?_
      exact x_iret F hnE hQ dX12_wrongs_71
theorem dX12_arcOf_0 : decode cX12_arcOf 0 = .ok (.aload_n 0, 1) := by decide +kernel
theorem dX12_arcOf_1 : decode cX12_arcOf 1 = .ok (.aload_n 0, 1) := by decide +kernel
theorem dX12_arcOf_2 : decode cX12_arcOf 2 = .ok (.iconst 0, 1) := by decide +kernel
theorem dX12_arcOf_3 : decode cX12_arcOf 3 = .ok (.iload_n 1, 1) := by decide +kernel
theorem dX12_arcOf_4 : decode cX12_arcOf 4 = .ok (.invokevirtual 453, 3) := by decide +kernel
theorem dX12_arcOf_7 : decode cX12_arcOf 7 = .ok (.iload_n 1, 1) := by decide +kernel
theorem dX12_arcOf_8 : decode cX12_arcOf 8 = .ok (.invokevirtual 297, 3) := by decide +kernel
theorem dX12_arcOf_11 : decode cX12_arcOf 11 = .ok (.ireturn, 1) := by decide +kernel
def fX12_arcOf (a0 : Nat) (a1 : Int) (G : Hp) : RT := bp (fX12_metBack a0 0 a1 G) fun v1 => bp (fX12_wayTo a0 v1 a1 G) fun v2 => rt v2 G
theorem pX12_arcOf {G : Hp} {a0 : Nat} {a1 : Int} : PU G (fX12_arcOf a0 a1 G) := by
  unfold fX12_arcOf
  refine PU_bp (fun v1 => ?_)
  refine PU_bp (fun v2 => ?_)
  exact PU_rt
set_option maxRecDepth 20000 in
set_option maxHeartbeats 4000000 in
theorem tX12_arcOf (l : Launch) (x : WX) (hi : Inj x.2.2) (G : Hp) (a0 : Nat) (a1 : Int) (ha0 : kd a0 = 12) : Ct l x yX12_arcOf cX12_arcOf 2 (some .int) 3 129 129 [vR a0, vI a1] G (fX12_arcOf a0 a1 G) := by
  refine ct_of (plainFor_of_name (by decide)) hi (Nat.le_refl _) (Nat.le_refl _) (Nat.le_of_ble_eq_true rfl) (fun cx F hd hn0 hnE hl hQ => ?_)
  subst hl
  have F : Fx cx x RX12 cX12_arcOf 2 (some .int) := F
  show Y cx x 2 (some .int) 129 0 [(0, vR a0), (1, vI a1)] [] G _
  unfold fX12_arcOf
  refine x_aload_n F dX12_arcOf_0 rfl rfl rfl ?_
  refine x_aload_n F dX12_arcOf_1 rfl rfl rfl ?_
  refine x_iconst F dX12_arcOf_2 ⟨by decide, by decide⟩ rfl ?_
  refine x_iload_n F dX12_arcOf_3 rfl rfl rfl ?_
  refine s_callVP F [vI 0, vI a1] [vR a0] lkX12_453 mX12_metBack rfl ha0 rfl hnE hn0 hd pX12_metBack (tX12_metBack cx.l x hi G a0 0 a1 ha0) rfl rfl dX12_arcOf_4 rfl rfl (fun v1 => ?_)
  refine x_iload_n F dX12_arcOf_7 rfl rfl rfl ?_
  refine s_callVP F [vI v1, vI a1] [] lkX12_297 mX12_wayTo rfl ha0 rfl hnE hn0 hd pX12_wayTo (tX12_wayTo cx.l x hi G a0 v1 a1 ha0) rfl rfl dX12_arcOf_8 rfl rfl (fun v2 => ?_)
  exact x_iret F hnE hQ dX12_arcOf_11
theorem dX12_reaches_0 : decode cX12_reaches 0 = .ok (.aload_n 0, 1) := by decide +kernel
theorem dX12_reaches_1 : decode cX12_reaches 1 = .ok (.iconst 0, 1) := by decide +kernel
theorem dX12_reaches_2 : decode cX12_reaches 2 = .ok (.putfield 1, 3) := by decide +kernel
theorem dX12_reaches_5 : decode cX12_reaches 5 = .ok (.aload_n 0, 1) := by decide +kernel
theorem dX12_reaches_6 : decode cX12_reaches 6 = .ok (.iload_n 1, 1) := by decide +kernel
theorem dX12_reaches_7 : decode cX12_reaches 7 = .ok (.invokevirtual 465, 3) := by decide +kernel
theorem dX12_reaches_10 : decode cX12_reaches 10 = .ok (.ifCond .ne 5, 3) := by decide +kernel
theorem dX12_reaches_13 : decode cX12_reaches 13 = .ok (.iconst (-1), 1) := by decide +kernel
theorem dX12_reaches_14 : decode cX12_reaches 14 = .ok (.ireturn, 1) := by decide +kernel
theorem dX12_reaches_15 : decode cX12_reaches 15 = .ok (.iconst 1, 1) := by decide +kernel
theorem dX12_reaches_16 : decode cX12_reaches 16 = .ok (.iload_n 1, 1) := by decide +kernel
theorem dX12_reaches_17 : decode cX12_reaches 17 = .ok (.ishl, 1) := by decide +kernel
theorem dX12_reaches_18 : decode cX12_reaches 18 = .ok (.istore_n 2, 1) := by decide +kernel
theorem dX12_reaches_19 : decode cX12_reaches 19 = .ok (.iconst 0, 1) := by decide +kernel
theorem dX12_reaches_20 : decode cX12_reaches 20 = .ok (.istore_n 3, 1) := by decide +kernel
theorem dX12_reaches_21 : decode cX12_reaches 21 = .ok (.iload_n 3, 1) := by decide +kernel
theorem dX12_reaches_22 : decode cX12_reaches 22 = .ok (.bipush 8, 2) := by decide +kernel
theorem dX12_reaches_24 : decode cX12_reaches 24 = .ok (.if_icmp .ge 77, 3) := by decide +kernel
theorem dX12_reaches_27 : decode cX12_reaches 27 = .ok (.iconst 0, 1) := by decide +kernel
theorem dX12_reaches_28 : decode cX12_reaches 28 = .ok (.istore 4, 2) := by decide +kernel
theorem dX12_reaches_30 : decode cX12_reaches 30 = .ok (.iload 4, 2) := by decide +kernel
theorem dX12_reaches_32 : decode cX12_reaches 32 = .ok (.aload_n 0, 1) := by decide +kernel
theorem dX12_reaches_33 : decode cX12_reaches 33 = .ok (.invokevirtual 236, 3) := by decide +kernel
theorem dX12_reaches_36 : decode cX12_reaches 36 = .ok (.if_icmp .ge 59, 3) := by decide +kernel
theorem dX12_reaches_39 : decode cX12_reaches 39 = .ok (.iconst 0, 1) := by decide +kernel
theorem dX12_reaches_40 : decode cX12_reaches 40 = .ok (.istore 5, 2) := by decide +kernel
theorem dX12_reaches_42 : decode cX12_reaches 42 = .ok (.iload 5, 2) := by decide +kernel
theorem dX12_reaches_44 : decode cX12_reaches 44 = .ok (.aload_n 0, 1) := by decide +kernel
theorem dX12_reaches_45 : decode cX12_reaches 45 = .ok (.invokevirtual 236, 3) := by decide +kernel
theorem dX12_reaches_48 : decode cX12_reaches 48 = .ok (.if_icmp .ge 41, 3) := by decide +kernel
theorem dX12_reaches_51 : decode cX12_reaches 51 = .ok (.iload_n 2, 1) := by decide +kernel
theorem dX12_reaches_52 : decode cX12_reaches 52 = .ok (.iload_n 2, 1) := by decide +kernel
theorem dX12_reaches_53 : decode cX12_reaches 53 = .ok (.iload 4, 2) := by decide +kernel
theorem dX12_reaches_55 : decode cX12_reaches 55 = .ok (.ishr, 1) := by decide +kernel
theorem dX12_reaches_56 : decode cX12_reaches 56 = .ok (.iconst 1, 1) := by decide +kernel
theorem dX12_reaches_57 : decode cX12_reaches 57 = .ok (.iand, 1) := by decide +kernel
theorem dX12_reaches_58 : decode cX12_reaches 58 = .ok (.iconst 1, 1) := by decide +kernel
theorem dX12_reaches_59 : decode cX12_reaches 59 = .ok (.if_icmp .ne 21, 3) := by decide +kernel
theorem dX12_reaches_62 : decode cX12_reaches 62 = .ok (.aload_n 0, 1) := by decide +kernel
theorem dX12_reaches_63 : decode cX12_reaches 63 = .ok (.iload 4, 2) := by decide +kernel
theorem dX12_reaches_65 : decode cX12_reaches 65 = .ok (.iload 5, 2) := by decide +kernel
theorem dX12_reaches_67 : decode cX12_reaches 67 = .ok (.invokevirtual 474, 3) := by decide +kernel
theorem dX12_reaches_70 : decode cX12_reaches 70 = .ok (.ifCond .eq 10, 3) := by decide +kernel
theorem dX12_reaches_73 : decode cX12_reaches 73 = .ok (.iconst 1, 1) := by decide +kernel
theorem dX12_reaches_74 : decode cX12_reaches 74 = .ok (.iload 5, 2) := by decide +kernel
theorem dX12_reaches_76 : decode cX12_reaches 76 = .ok (.ishl, 1) := by decide +kernel
theorem dX12_reaches_77 : decode cX12_reaches 77 = .ok (.goto 4, 3) := by decide +kernel
theorem dX12_reaches_80 : decode cX12_reaches 80 = .ok (.iconst 0, 1) := by decide +kernel
theorem dX12_reaches_81 : decode cX12_reaches 81 = .ok (.ior, 1) := by decide +kernel
theorem dX12_reaches_82 : decode cX12_reaches 82 = .ok (.istore_n 2, 1) := by decide +kernel
theorem dX12_reaches_83 : decode cX12_reaches 83 = .ok (.iinc 5 1, 3) := by decide +kernel
theorem dX12_reaches_86 : decode cX12_reaches 86 = .ok (.goto (-44), 3) := by decide +kernel
theorem dX12_reaches_89 : decode cX12_reaches 89 = .ok (.iinc 4 1, 3) := by decide +kernel
theorem dX12_reaches_92 : decode cX12_reaches 92 = .ok (.goto (-62), 3) := by decide +kernel
theorem dX12_reaches_95 : decode cX12_reaches 95 = .ok (.iinc 3 1, 3) := by decide +kernel
theorem dX12_reaches_98 : decode cX12_reaches 98 = .ok (.goto (-77), 3) := by decide +kernel
theorem dX12_reaches_101 : decode cX12_reaches 101 = .ok (.iload_n 2, 1) := by decide +kernel
theorem dX12_reaches_102 : decode cX12_reaches 102 = .ok (.ireturn, 1) := by decide +kernel
def fX12_reaches (a0 : Nat) (a1 : Int) (G : Hp) : RT := bh (up G a0 0 0) fun G1 => bp (fX12_isThere a0 a1 G1) fun v2 => if v2 = 0 then (rt ((-1)) G1) else (bd (ishl 1 a1) fun v3 => bd 0 fun v4 => (lp (fun (_ : Int) (_ : Int) => (none : RT)) 5000 (fun (rc7 : Int → Int → RT) (v5 : Int) (v6 : Int) => if v6 < 8 then (bd 0 fun v8 => (lp (fun (_ : Int) (_ : Int) => (none : RT)) 5000 (fun (rc11 : Int → Int → RT) (v9 : Int) (v10 : Int) => bp (fX12_nodes a0 G1) fun v12 => if v10 < v12 then (bd 0 fun v14 => (lp (fun (_ : Int) (_ : Int) => (none : RT)) 5000 (fun (rc17 : Int → Int → RT) (v15 : Int) (v16 : Int) => bp (fX12_nodes a0 G1) fun v18 => if v16 < v18 then (jn (fun (v20 : Int) => bd (ior v15 v20) fun v22 => bd (iadd v16 1) fun v23 => rc17 v22 v23) fun (K21 : Int → RT) => jn (K21 0) fun (K24 : RT) => if (iand (ishr v15 v10) 1) = 1 then (bp (fX12_knows a0 v10 v16 G1) fun v25 => if v25 = 0 then K24 else (K21 (ishl 1 v16))) else K24) else (bd (iadd v10 1) fun v19 => rc11 v15 v19))) v9 v14) else (bd (iadd v6 1) fun v13 => rc7 v9 v13))) v5 v8) else rt v5 G1)) v3 v4)
set_option maxRecDepth 20000 in
set_option maxHeartbeats 4000000 in
theorem tX12_reaches (l : Launch) (x : WX) (hi : Inj x.2.2) (G : Hp) (a0 : Nat) (a1 : Int) (ha0 : kd a0 = 12) : Ct l x yX12_reaches cX12_reaches 6 (some .int) 3 129 129 [vR a0, vI a1] G (fX12_reaches a0 a1 G) := by
  refine ct_of (plainFor_of_name (by decide)) hi (Nat.le_refl _) (Nat.le_refl _) (Nat.le_of_ble_eq_true rfl) (fun cx F hd hn0 hnE hl hQ => ?_)
  subst hl
  have F : Fx cx x RX12 cX12_reaches 6 (some .int) := F
  show Y cx x 6 (some .int) 129 0 [(0, vR a0), (1, vI a1)] [] G _
  unfold fX12_reaches
  refine x_aload_n F dX12_reaches_0 rfl rfl rfl ?_
  refine x_iconst F dX12_reaches_1 ⟨by decide, by decide⟩ rfl ?_
  refine s_putI F fpX12_1 ha0 rfl dX12_reaches_2 rfl (fun G1 => ?_)
  refine x_aload_n F dX12_reaches_5 rfl rfl rfl ?_
  refine x_iload_n F dX12_reaches_6 rfl rfl rfl ?_
  refine s_callVP F [vI a1] [] lkX12_465 mX12_isThere rfl ha0 rfl hnE hn0 hd pX12_isThere (tX12_isThere cx.l x hi G1 a0 a1 ha0) rfl rfl dX12_reaches_7 rfl rfl (fun v2 => ?_)
  refine x_ifne (pt := 15) F dX12_reaches_10 rfl rfl ?_ ?_
  · refine x_iconst F dX12_reaches_13 ⟨by decide, by decide⟩ rfl ?_
    exact x_iret F hnE hQ dX12_reaches_14
  · refine x_iconst F dX12_reaches_15 ⟨by decide, by decide⟩ rfl ?_
    refine x_iload_n F dX12_reaches_16 rfl rfl rfl ?_
    refine x_ishl F dX12_reaches_17 rfl ?_
    refine x_dp (L' := [(0, vR a0)]) [0] rfl ?_
    refine x_istore_n F dX12_reaches_18 rfl (by decide) rfl rfl (fun v3 => ?_)
    show Y cx x _ _ _ _ [(0, vR a0), (2, vI v3)] _ _ _
    refine x_iconst F dX12_reaches_19 ⟨by decide, by decide⟩ rfl ?_
    refine x_istore_n F dX12_reaches_20 rfl (by decide) rfl rfl (fun v4 => ?_)
    show Y cx x _ _ _ _ [(0, vR a0), (2, vI v3), (3, vI v4)] _ _ _
    refine x_lp (fun (rc7 : Int → Int → RT) => ∀ (v5 : Int) (v6 : Int), Y cx x 6 (some .int) 129 21 [(0, vR a0), (2, vI v5), (3, vI v6)] [] G1 (rc7 v5 v6)) (fun _ _ => Y_none) (fun rc7 hrc7 v5 v6 => ?_) 5000 v3 v4
    refine x_iload_n F dX12_reaches_21 rfl rfl rfl ?_
    refine x_bipush F dX12_reaches_22 ⟨by decide, by decide⟩ (by decide) rfl ?_
    refine x_icmpge (pt := 101) F dX12_reaches_24 rfl rfl ?_ ?_
    · refine x_iconst F dX12_reaches_27 ⟨by decide, by decide⟩ rfl ?_
      refine x_istore F dX12_reaches_28 (by decide) rfl rfl (fun v8 => ?_)
      show Y cx x _ _ _ _ [(0, vR a0), (2, vI v5), (3, vI v6), (4, vI v8)] _ _ _
      refine x_lp (fun (rc11 : Int → Int → RT) => ∀ (v9 : Int) (v10 : Int), Y cx x 6 (some .int) 129 30 [(0, vR a0), (2, vI v9), (3, vI v6), (4, vI v10)] [] G1 (rc11 v9 v10)) (fun _ _ => Y_none) (fun rc11 hrc11 v9 v10 => ?_) 5000 v5 v8
      refine x_iload F dX12_reaches_30 rfl rfl ?_
      refine x_aload_n F dX12_reaches_32 rfl rfl rfl ?_
      refine s_callVP F [] [vI v10] lkX12_236 mX12_nodes rfl ha0 rfl hnE hn0 hd pX12_nodes (tX12_nodes cx.l x hi G1 a0 ha0) rfl rfl dX12_reaches_33 rfl rfl (fun v12 => ?_)
      refine x_icmpge (pt := 95) F dX12_reaches_36 rfl rfl ?_ ?_
      · refine x_iconst F dX12_reaches_39 ⟨by decide, by decide⟩ rfl ?_
        refine x_istore F dX12_reaches_40 (by decide) rfl rfl (fun v14 => ?_)
        show Y cx x _ _ _ _ [(0, vR a0), (2, vI v9), (3, vI v6), (4, vI v10), (5, vI v14)] _ _ _
        refine x_lp (fun (rc17 : Int → Int → RT) => ∀ (v15 : Int) (v16 : Int), Y cx x 6 (some .int) 129 42 [(0, vR a0), (2, vI v15), (3, vI v6), (4, vI v10), (5, vI v16)] [] G1 (rc17 v15 v16)) (fun _ _ => Y_none) (fun rc17 hrc17 v15 v16 => ?_) 5000 v9 v14
        refine x_iload F dX12_reaches_42 rfl rfl ?_
        refine x_aload_n F dX12_reaches_44 rfl rfl rfl ?_
        refine s_callVP F [] [vI v16] lkX12_236 mX12_nodes rfl ha0 rfl hnE hn0 hd pX12_nodes (tX12_nodes cx.l x hi G1 a0 ha0) rfl rfl dX12_reaches_45 rfl rfl (fun v18 => ?_)
        refine x_icmpge (pt := 89) F dX12_reaches_48 rfl rfl ?_ ?_
        · refine x_iload_n F dX12_reaches_51 rfl rfl rfl ?_
          refine x_iload_n F dX12_reaches_52 rfl rfl rfl ?_
          refine x_iload F dX12_reaches_53 rfl rfl ?_
          refine x_ishr F dX12_reaches_55 rfl ?_
          refine x_iconst F dX12_reaches_56 ⟨by decide, by decide⟩ rfl ?_
          refine x_iand F dX12_reaches_57 rfl ?_
          refine x_iconst F dX12_reaches_58 ⟨by decide, by decide⟩ rfl ?_
          refine x_jn (fun (K21 : Int → RT) => ∀ (v20 : Int), Y cx x 6 (some .int) 129 81 [(0, vR a0), (3, vI v6), (4, vI v10), (5, vI v16)] [vI v20, vI v15] G1 (K21 v20)) ?_ (fun K21 hK21 => ?_)
          · intro v20
            refine x_ior F dX12_reaches_81 rfl ?_
            refine x_istore_n F dX12_reaches_82 rfl (by decide) rfl rfl (fun v22 => ?_)
            show Y cx x _ _ _ _ [(0, vR a0), (3, vI v6), (4, vI v10), (5, vI v16), (2, vI v22)] _ _ _
            refine x_iinc F dX12_reaches_83 rfl (by decide) rfl rfl (fun v23 => ?_)
            show Y cx x _ _ _ _ [(0, vR a0), (3, vI v6), (4, vI v10), (5, vI v23), (2, vI v22)] _ _ _
            refine x_goto (pc' := 42) F dX12_reaches_86 rfl ?_
            refine x_dp (L' := [(0, vR a0), (2, vI v22), (3, vI v6), (4, vI v10), (5, vI v23)]) [0, 4, 1, 2, 3] rfl ?_
            exact hrc17 v22 v23
          · refine x_jn (fun (K24 : RT) => Y cx x 6 (some .int) 129 80 [(0, vR a0), (3, vI v6), (4, vI v10), (5, vI v16)] [vI v15] G1 K24) ?_ (fun K24 hK24 => ?_)
            · refine x_iconst F dX12_reaches_80 ⟨by decide, by decide⟩ rfl ?_
              exact hK21 0
            · refine x_icmpne (pt := 80) F dX12_reaches_59 rfl rfl ?_ ?_
              · refine x_aload_n F dX12_reaches_62 rfl rfl rfl ?_
                refine x_iload F dX12_reaches_63 rfl rfl ?_
                refine x_iload F dX12_reaches_65 rfl rfl ?_
                refine s_callVP F [vI v10, vI v16] [vI v15] lkX12_474 mX12_knows rfl ha0 rfl hnE hn0 hd pX12_knows (tX12_knows cx.l x hi G1 a0 v10 v16 ha0) rfl rfl dX12_reaches_67 rfl rfl (fun v25 => ?_)
                refine x_ifeq (pt := 80) F dX12_reaches_70 rfl rfl ?_ ?_
                · refine x_dp (L' := [(0, vR a0), (3, vI v6), (4, vI v10), (5, vI v16)]) [0, 2, 3, 4] rfl ?_
                  exact hK24
                · refine x_iconst F dX12_reaches_73 ⟨by decide, by decide⟩ rfl ?_
                  refine x_iload F dX12_reaches_74 rfl rfl ?_
                  refine x_ishl F dX12_reaches_76 rfl ?_
                  refine x_goto (pc' := 81) F dX12_reaches_77 rfl ?_
                  refine x_dp (L' := [(0, vR a0), (3, vI v6), (4, vI v10), (5, vI v16)]) [0, 2, 3, 4] rfl ?_
                  exact hK21 (ishl 1 v16)
              · refine x_dp (L' := [(0, vR a0), (3, vI v6), (4, vI v10), (5, vI v16)]) [0, 2, 3, 4] rfl ?_
                exact hK24
        · refine x_iinc F dX12_reaches_89 rfl (by decide) rfl rfl (fun v19 => ?_)
          show Y cx x _ _ _ _ [(0, vR a0), (2, vI v15), (3, vI v6), (4, vI v19), (5, vI v16)] _ _ _
          refine x_goto (pc' := 30) F dX12_reaches_92 rfl ?_
          refine x_dp (L' := [(0, vR a0), (2, vI v15), (3, vI v6), (4, vI v19)]) [0, 1, 2, 3] rfl ?_
          exact hrc11 v15 v19
      · refine x_iinc F dX12_reaches_95 rfl (by decide) rfl rfl (fun v13 => ?_)
        show Y cx x _ _ _ _ [(0, vR a0), (2, vI v9), (3, vI v13), (4, vI v10)] _ _ _
        refine x_goto (pc' := 21) F dX12_reaches_98 rfl ?_
        refine x_dp (L' := [(0, vR a0), (2, vI v9), (3, vI v13)]) [0, 1, 2] rfl ?_
        exact hrc7 v9 v13
    · refine x_iload_n F dX12_reaches_101 rfl rfl rfl ?_
      exact x_iret F hnE hQ dX12_reaches_102
theorem dX12_readNode_0 : decode cX12_readNode 0 = .ok (.aload_n 0, 1) := by decide +kernel
theorem dX12_readNode_1 : decode cX12_readNode 1 = .ok (.iconst 2, 1) := by decide +kernel
theorem dX12_readNode_2 : decode cX12_readNode 2 = .ok (.invokevirtual 201, 3) := by decide +kernel
theorem dX12_readNode_5 : decode cX12_readNode 5 = .ok (.istore_n 1, 1) := by decide +kernel
theorem dX12_readNode_6 : decode cX12_readNode 6 = .ok (.aload_n 0, 1) := by decide +kernel
theorem dX12_readNode_7 : decode cX12_readNode 7 = .ok (.iconst 0, 1) := by decide +kernel
theorem dX12_readNode_8 : decode cX12_readNode 8 = .ok (.iload_n 1, 1) := by decide +kernel
theorem dX12_readNode_9 : decode cX12_readNode 9 = .ok (.bipush 8, 2) := by decide +kernel
theorem dX12_readNode_11 : decode cX12_readNode 11 = .ok (.invokevirtual 211, 3) := by decide +kernel
theorem dX12_readNode_14 : decode cX12_readNode 14 = .ok (.aload_n 0, 1) := by decide +kernel
theorem dX12_readNode_15 : decode cX12_readNode 15 = .ok (.bipush 15, 2) := by decide +kernel
theorem dX12_readNode_17 : decode cX12_readNode 17 = .ok (.iconst 4, 1) := by decide +kernel
theorem dX12_readNode_18 : decode cX12_readNode 18 = .ok (.invokevirtual 226, 3) := by decide +kernel
theorem dX12_readNode_21 : decode cX12_readNode 21 = .ok (.istore_n 2, 1) := by decide +kernel
theorem dX12_readNode_22 : decode cX12_readNode 22 = .ok (.aload_n 0, 1) := by decide +kernel
theorem dX12_readNode_23 : decode cX12_readNode 23 = .ok (.iconst 4, 1) := by decide +kernel
theorem dX12_readNode_24 : decode cX12_readNode 24 = .ok (.invokevirtual 172, 3) := by decide +kernel
theorem dX12_readNode_27 : decode cX12_readNode 27 = .ok (.aload_n 0, 1) := by decide +kernel
theorem dX12_readNode_28 : decode cX12_readNode 28 = .ok (.getfield 157, 3) := by decide +kernel
theorem dX12_readNode_31 : decode cX12_readNode 31 = .ok (.ifCond .ne 56, 3) := by decide +kernel
theorem dX12_readNode_34 : decode cX12_readNode 34 = .ok (.aload_n 0, 1) := by decide +kernel
theorem dX12_readNode_35 : decode cX12_readNode 35 = .ok (.getfield 24, 3) := by decide +kernel
theorem dX12_readNode_38 : decode cX12_readNode 38 = .ok (.aload_n 0, 1) := by decide +kernel
theorem dX12_readNode_39 : decode cX12_readNode 39 = .ok (.getfield 154, 3) := by decide +kernel
theorem dX12_readNode_42 : decode cX12_readNode 42 = .ok (.iaload, 1) := by decide +kernel
theorem dX12_readNode_43 : decode cX12_readNode 43 = .ok (.iconst 2, 1) := by decide +kernel
theorem dX12_readNode_44 : decode cX12_readNode 44 = .ok (.if_icmp .ne 43, 3) := by decide +kernel
theorem dX12_readNode_47 : decode cX12_readNode 47 = .ok (.iconst 0, 1) := by decide +kernel
theorem dX12_readNode_48 : decode cX12_readNode 48 = .ok (.istore_n 3, 1) := by decide +kernel
theorem dX12_readNode_49 : decode cX12_readNode 49 = .ok (.iload_n 3, 1) := by decide +kernel
theorem dX12_readNode_50 : decode cX12_readNode 50 = .ok (.iload_n 1, 1) := by decide +kernel
theorem dX12_readNode_51 : decode cX12_readNode 51 = .ok (.if_icmp .ge 36, 3) := by decide +kernel
theorem dX12_readNode_54 : decode cX12_readNode 54 = .ok (.aload_n 0, 1) := by decide +kernel
theorem dX12_readNode_55 : decode cX12_readNode 55 = .ok (.bipush 14, 2) := by decide +kernel
theorem dX12_readNode_57 : decode cX12_readNode 57 = .ok (.iload_n 3, 1) := by decide +kernel
theorem dX12_readNode_58 : decode cX12_readNode 58 = .ok (.iadd, 1) := by decide +kernel
theorem dX12_readNode_59 : decode cX12_readNode 59 = .ok (.invokevirtual 201, 3) := by decide +kernel
theorem dX12_readNode_62 : decode cX12_readNode 62 = .ok (.i2l, 1) := by decide +kernel
theorem dX12_readNode_63 : decode cX12_readNode 63 = .ok (.aload_n 0, 1) := by decide +kernel
theorem dX12_readNode_64 : decode cX12_readNode 64 = .ok (.getfield 30, 3) := by decide +kernel
theorem dX12_readNode_67 : decode cX12_readNode 67 = .ok (.aload_n 0, 1) := by decide +kernel
theorem dX12_readNode_68 : decode cX12_readNode 68 = .ok (.getfield 154, 3) := by decide +kernel
theorem dX12_readNode_71 : decode cX12_readNode 71 = .ok (.laload, 1) := by decide +kernel
theorem dX12_readNode_72 : decode cX12_readNode 72 = .ok (.lcmp, 1) := by decide +kernel
theorem dX12_readNode_73 : decode cX12_readNode 73 = .ok (.ifCond .ne 8, 3) := by decide +kernel
theorem dX12_readNode_76 : decode cX12_readNode 76 = .ok (.aload_n 0, 1) := by decide +kernel
theorem dX12_readNode_77 : decode cX12_readNode 77 = .ok (.iconst 3, 1) := by decide +kernel
theorem dX12_readNode_78 : decode cX12_readNode 78 = .ok (.invokevirtual 163, 3) := by decide +kernel
theorem dX12_readNode_81 : decode cX12_readNode 81 = .ok (.iinc 3 1, 3) := by decide +kernel
theorem dX12_readNode_84 : decode cX12_readNode 84 = .ok (.goto (-35), 3) := by decide +kernel
theorem dX12_readNode_87 : decode cX12_readNode 87 = .ok (.aload_n 0, 1) := by decide +kernel
theorem dX12_readNode_88 : decode cX12_readNode 88 = .ok (.iconst 0, 1) := by decide +kernel
theorem dX12_readNode_89 : decode cX12_readNode 89 = .ok (.aload_n 0, 1) := by decide +kernel
theorem dX12_readNode_90 : decode cX12_readNode 90 = .ok (.iconst 0, 1) := by decide +kernel
theorem dX12_readNode_91 : decode cX12_readNode 91 = .ok (.invokevirtual 201, 3) := by decide +kernel
theorem dX12_readNode_94 : decode cX12_readNode 94 = .ok (.iconst 1, 1) := by decide +kernel
theorem dX12_readNode_95 : decode cX12_readNode 95 = .ok (.isub, 1) := by decide +kernel
theorem dX12_readNode_96 : decode cX12_readNode 96 = .ok (.invokevirtual 175, 3) := by decide +kernel
theorem dX12_readNode_99 : decode cX12_readNode 99 = .ok (.istore_n 3, 1) := by decide +kernel
theorem dX12_readNode_100 : decode cX12_readNode 100 = .ok (.aload_n 0, 1) := by decide +kernel
theorem dX12_readNode_101 : decode cX12_readNode 101 = .ok (.getfield 157, 3) := by decide +kernel
theorem dX12_readNode_104 : decode cX12_readNode 104 = .ok (.ifCond .ne 34, 3) := by decide +kernel
theorem dX12_readNode_107 : decode cX12_readNode 107 = .ok (.aload_n 0, 1) := by decide +kernel
theorem dX12_readNode_108 : decode cX12_readNode 108 = .ok (.getfield 87, 3) := by decide +kernel
theorem dX12_readNode_111 : decode cX12_readNode 111 = .ok (.bipush 38, 2) := by decide +kernel
theorem dX12_readNode_113 : decode cX12_readNode 113 = .ok (.iload_n 1, 1) := by decide +kernel
theorem dX12_readNode_114 : decode cX12_readNode 114 = .ok (.iadd, 1) := by decide +kernel
theorem dX12_readNode_115 : decode cX12_readNode 115 = .ok (.iload_n 2, 1) := by decide +kernel
theorem dX12_readNode_116 : decode cX12_readNode 116 = .ok (.iastore, 1) := by decide +kernel
theorem dX12_readNode_117 : decode cX12_readNode 117 = .ok (.aload_n 0, 1) := by decide +kernel
theorem dX12_readNode_118 : decode cX12_readNode 118 = .ok (.getfield 87, 3) := by decide +kernel
theorem dX12_readNode_121 : decode cX12_readNode 121 = .ok (.bipush 46, 2) := by decide +kernel
theorem dX12_readNode_123 : decode cX12_readNode 123 = .ok (.iload_n 1, 1) := by decide +kernel
theorem dX12_readNode_124 : decode cX12_readNode 124 = .ok (.iadd, 1) := by decide +kernel
theorem dX12_readNode_125 : decode cX12_readNode 125 = .ok (.iload_n 3, 1) := by decide +kernel
theorem dX12_readNode_126 : decode cX12_readNode 126 = .ok (.iastore, 1) := by decide +kernel
theorem dX12_readNode_127 : decode cX12_readNode 127 = .ok (.aload_n 0, 1) := by decide +kernel
theorem dX12_readNode_128 : decode cX12_readNode 128 = .ok (.getfield 87, 3) := by decide +kernel
theorem dX12_readNode_131 : decode cX12_readNode 131 = .ok (.bipush 34, 2) := by decide +kernel
theorem dX12_readNode_133 : decode cX12_readNode 133 = .ok (.dup2, 1) := by decide +kernel
theorem dX12_readNode_134 : decode cX12_readNode 134 = .ok (.iaload, 1) := by decide +kernel
theorem dX12_readNode_135 : decode cX12_readNode 135 = .ok (.iconst 1, 1) := by decide +kernel
theorem dX12_readNode_136 : decode cX12_readNode 136 = .ok (.iadd, 1) := by decide +kernel
theorem dX12_readNode_137 : decode cX12_readNode 137 = .ok (.iastore, 1) := by decide +kernel
theorem dX12_readNode_138 : decode cX12_readNode 138 = .ok (.return_, 1) := by decide +kernel
def fX12_readNode (a0 : Nat) (G : Hp) : RT := bp (fX12_told a0 2 G) fun v1 => bd v1 fun v2 => bn (fX12_readName a0 0 v2 8 G) fun _ G3 => bn (fX12_takeOne a0 15 4 G3) fun v4 G5 => bd v4 fun v6 => bn (fX12_takeWord a0 4 G5) fun _ G7 => jn (fun (G8 : Hp) => bp (fX12_told a0 0 G8) fun v10 => bn (fX12_takeNumber a0 0 (isub v10 1) G8) fun v11 G12 => bd v11 fun v13 => if (G12 a0 8) = 0 then (bs (wr G12 ((rf a0 10)) 64 (iadd 38 v2) v6) fun G14 => bs (wr G14 ((rf a0 10)) 64 (iadd 46 v2) v13) fun G15 => br (rd G15 ((rf a0 10)) 64 34) fun v16 => bs (wr G15 ((rf a0 10)) 64 34 (iadd v16 1)) fun G17 => rt 0 G17) else rt 0 G12) fun (K9 : Hp → RT) => if (G7 a0 8) = 0 then (br (rd G7 ((rf a0 4)) 1002 (G7 a0 7)) fun v18 => if v18 = 2 then (bd 0 fun v19 => (lp (fun (_ : Int) (_ : Hp) => (none : RT)) 5000 (fun (rc22 : Int → Hp → RT) (v20 : Int) (G21 : Hp) => if v20 < v2 then (bp (fX12_told a0 (iadd 14 v20) G21) fun v23 => br (rd G21 ((rf a0 6)) 1002 (G21 a0 7)) fun v24 => jn (fun (G25 : Hp) => bd (iadd v20 1) fun v27 => rc22 v27 G25) fun (K26 : Hp → RT) => if (lcmp' v23 v24) = 0 then (bn (fX12_wrong a0 3 G21) fun _ G28 => K26 G28) else K26 G21) else K9 G21)) v19 G7) else K9 G7) else K9 G7
set_option maxRecDepth 20000 in
set_option maxHeartbeats 4000000 in
theorem tX12_readNode (l : Launch) (x : WX) (hi : Inj x.2.2) (G : Hp) (a0 : Nat) (ha0 : kd a0 = 12) : Ct l x yX12_readNode cX12_readNode 4 none 4 129 129 [vR a0] G (fX12_readNode a0 G) := by
  refine ct_of (plainFor_of_name (by decide)) hi (Nat.le_refl _) (Nat.le_refl _) (Nat.le_of_ble_eq_true rfl) (fun cx F hd hn0 hnE hl hQ => ?_)
  subst hl
  have F : Fx cx x RX12 cX12_readNode 4 none := F
  show Y cx x 4 none 129 0 [(0, vR a0)] [] G _
  unfold fX12_readNode
  refine x_aload_n F dX12_readNode_0 rfl rfl rfl ?_
  refine x_iconst F dX12_readNode_1 ⟨by decide, by decide⟩ rfl ?_
  refine s_callVP F [vI 2] [] lkX12_201 mX12_told rfl ha0 rfl hnE hn0 hd pX12_told (tX12_told cx.l x hi G a0 2 ha0) rfl rfl dX12_readNode_2 rfl rfl (fun v1 => ?_)
  refine x_istore_n F dX12_readNode_5 rfl (by decide) rfl rfl (fun v2 => ?_)
  show Y cx x _ _ _ _ [(0, vR a0), (1, vI v2)] _ _ _
  refine x_aload_n F dX12_readNode_6 rfl rfl rfl ?_
  refine x_iconst F dX12_readNode_7 ⟨by decide, by decide⟩ rfl ?_
  refine x_iload_n F dX12_readNode_8 rfl rfl rfl ?_
  refine x_bipush F dX12_readNode_9 ⟨by decide, by decide⟩ (by decide) rfl ?_
  refine s_callVv F [vI 0, vI v2, vI 8] [] lkX12_211 mX12_readName rfl ha0 rfl hnE hn0 hd (tX12_readName cx.l x hi G a0 0 v2 8 ha0) rfl rfl dX12_readNode_11 rfl rfl (fun _ G3 => ?_)
  refine x_aload_n F dX12_readNode_14 rfl rfl rfl ?_
  refine x_bipush F dX12_readNode_15 ⟨by decide, by decide⟩ (by decide) rfl ?_
  refine x_iconst F dX12_readNode_17 ⟨by decide, by decide⟩ rfl ?_
  refine s_callV F [vI 15, vI 4] [] lkX12_226 mX12_takeOne rfl ha0 rfl hnE hn0 hd (tX12_takeOne cx.l x hi G3 a0 15 4 ha0) rfl rfl dX12_readNode_18 rfl rfl (fun v4 G5 => ?_)
  refine x_istore_n F dX12_readNode_21 rfl (by decide) rfl rfl (fun v6 => ?_)
  show Y cx x _ _ _ _ [(0, vR a0), (1, vI v2), (2, vI v6)] _ _ _
  refine x_aload_n F dX12_readNode_22 rfl rfl rfl ?_
  refine x_iconst F dX12_readNode_23 ⟨by decide, by decide⟩ rfl ?_
  refine s_callVv F [vI 4] [] lkX12_172 mX12_takeWord rfl ha0 rfl hnE hn0 hd (tX12_takeWord cx.l x hi G5 a0 4 ha0) rfl rfl dX12_readNode_24 rfl rfl (fun _ G7 => ?_)
  refine x_aload_n F dX12_readNode_27 rfl rfl rfl ?_
  refine s_getI F flX12_157 ha0 rfl dX12_readNode_28 rfl ?_
  refine x_jn (fun (K9 : Hp → RT) => ∀ (G8 : Hp), Y cx x 4 none 129 87 [(0, vR a0), (1, vI v2), (2, vI v6)] [] G8 (K9 G8)) ?_ (fun K9 hK9 => ?_)
  · intro G8
    refine x_aload_n F dX12_readNode_87 rfl rfl rfl ?_
    refine x_iconst F dX12_readNode_88 ⟨by decide, by decide⟩ rfl ?_
    refine x_aload_n F dX12_readNode_89 rfl rfl rfl ?_
    refine x_iconst F dX12_readNode_90 ⟨by decide, by decide⟩ rfl ?_
    refine s_callVP F [vI 0] [vI 0, vR a0] lkX12_201 mX12_told rfl ha0 rfl hnE hn0 hd pX12_told (tX12_told cx.l x hi G8 a0 0 ha0) rfl rfl dX12_readNode_91 rfl rfl (fun v10 => ?_)
    refine x_iconst F dX12_readNode_94 ⟨by decide, by decide⟩ rfl ?_
    refine x_isub F dX12_readNode_95 rfl ?_
    refine s_callV F [vI 0, vI (isub v10 1)] [] lkX12_175 mX12_takeNumber rfl ha0 rfl hnE hn0 hd (tX12_takeNumber cx.l x hi G8 a0 0 (isub v10 1) ha0) rfl rfl dX12_readNode_96 rfl rfl (fun v11 G12 => ?_)
    refine x_istore_n F dX12_readNode_99 rfl (by decide) rfl rfl (fun v13 => ?_)
    show Y cx x _ _ _ _ [(0, vR a0), (1, vI v2), (2, vI v6), (3, vI v13)] _ _ _
    refine x_aload_n F dX12_readNode_100 rfl rfl rfl ?_
    refine s_getI F flX12_157 ha0 rfl dX12_readNode_101 rfl ?_
    refine x_ifne (pt := 138) F dX12_readNode_104 rfl rfl ?_ ?_
    · refine x_aload_n F dX12_readNode_107 rfl rfl rfl ?_
      refine x_getR F flX12_87 ha0 rfl dX12_readNode_108 rfl ?_
      refine x_bipush F dX12_readNode_111 ⟨by decide, by decide⟩ (by decide) rfl ?_
      refine x_iload_n F dX12_readNode_113 rfl rfl rfl ?_
      refine x_iadd F dX12_readNode_114 rfl ?_
      refine x_iload_n F dX12_readNode_115 rfl rfl rfl ?_
      refine s_iast F (tf12_10 ha0).1 (tf12_10 ha0).2 dX12_readNode_116 rfl (fun G14 => ?_)
      refine x_aload_n F dX12_readNode_117 rfl rfl rfl ?_
      refine x_getR F flX12_87 ha0 rfl dX12_readNode_118 rfl ?_
      refine x_bipush F dX12_readNode_121 ⟨by decide, by decide⟩ (by decide) rfl ?_
      refine x_iload_n F dX12_readNode_123 rfl rfl rfl ?_
      refine x_iadd F dX12_readNode_124 rfl ?_
      refine x_iload_n F dX12_readNode_125 rfl rfl rfl ?_
      refine s_iast F (tf12_10 ha0).1 (tf12_10 ha0).2 dX12_readNode_126 rfl (fun G15 => ?_)
      refine x_aload_n F dX12_readNode_127 rfl rfl rfl ?_
      refine x_getR F flX12_87 ha0 rfl dX12_readNode_128 rfl ?_
      refine x_bipush F dX12_readNode_131 ⟨by decide, by decide⟩ (by decide) rfl ?_
      refine x_dup2 F dX12_readNode_133 rfl rfl rfl ?_
      refine s_iald F (tf12_10 ha0).1 (tf12_10 ha0).2 dX12_readNode_134 rfl (fun v16 => ?_)
      refine x_iconst F dX12_readNode_135 ⟨by decide, by decide⟩ rfl ?_
      refine x_iadd F dX12_readNode_136 rfl ?_
      refine s_iast F (tf12_10 ha0).1 (tf12_10 ha0).2 dX12_readNode_137 rfl (fun G17 => ?_)
      exact x_vret F hnE hQ dX12_readNode_138
    · exact x_vret F hnE hQ dX12_readNode_138
  · refine x_ifne (pt := 87) F dX12_readNode_31 rfl rfl ?_ ?_
    · refine x_aload_n F dX12_readNode_34 rfl rfl rfl ?_
      refine x_getR F flX12_24 ha0 rfl dX12_readNode_35 rfl ?_
      refine x_aload_n F dX12_readNode_38 rfl rfl rfl ?_
      refine s_getI F flX12_154 ha0 rfl dX12_readNode_39 rfl ?_
      refine s_iald F (tf12_4 ha0).1 (tf12_4 ha0).2 dX12_readNode_42 rfl (fun v18 => ?_)
      refine x_iconst F dX12_readNode_43 ⟨by decide, by decide⟩ rfl ?_
      refine x_icmpne (pt := 87) F dX12_readNode_44 rfl rfl ?_ ?_
      · refine x_iconst F dX12_readNode_47 ⟨by decide, by decide⟩ rfl ?_
        refine x_istore_n F dX12_readNode_48 rfl (by decide) rfl rfl (fun v19 => ?_)
        show Y cx x _ _ _ _ [(0, vR a0), (1, vI v2), (2, vI v6), (3, vI v19)] _ _ _
        refine x_lp (fun (rc22 : Int → Hp → RT) => ∀ (v20 : Int) (G21 : Hp), Y cx x 4 none 129 49 [(0, vR a0), (1, vI v2), (2, vI v6), (3, vI v20)] [] G21 (rc22 v20 G21)) (fun _ _ => Y_none) (fun rc22 hrc22 v20 G21 => ?_) 5000 v19 G7
        refine x_iload_n F dX12_readNode_49 rfl rfl rfl ?_
        refine x_iload_n F dX12_readNode_50 rfl rfl rfl ?_
        refine x_icmpge (pt := 87) F dX12_readNode_51 rfl rfl ?_ ?_
        · refine x_aload_n F dX12_readNode_54 rfl rfl rfl ?_
          refine x_bipush F dX12_readNode_55 ⟨by decide, by decide⟩ (by decide) rfl ?_
          refine x_iload_n F dX12_readNode_57 rfl rfl rfl ?_
          refine x_iadd F dX12_readNode_58 rfl ?_
          refine s_callVP F [vI (iadd 14 v20)] [] lkX12_201 mX12_told rfl ha0 rfl hnE hn0 hd pX12_told (tX12_told cx.l x hi G21 a0 (iadd 14 v20) ha0) rfl rfl dX12_readNode_59 rfl rfl (fun v23 => ?_)
          refine x_i2l F dX12_readNode_62 rfl ?_
          refine x_aload_n F dX12_readNode_63 rfl rfl rfl ?_
          refine x_getR F flX12_30 ha0 rfl dX12_readNode_64 rfl ?_
          refine x_aload_n F dX12_readNode_67 rfl rfl rfl ?_
          refine s_getI F flX12_154 ha0 rfl dX12_readNode_68 rfl ?_
          refine s_lald F (tf12_6 ha0).1 (tf12_6 ha0).2 dX12_readNode_71 rfl (fun v24 => ?_)
          refine x_lcmp F dX12_readNode_72 rfl ?_
          refine x_jn (fun (K26 : Hp → RT) => ∀ (G25 : Hp), Y cx x 4 none 129 81 [(0, vR a0), (1, vI v2), (2, vI v6), (3, vI v20)] [] G25 (K26 G25)) ?_ (fun K26 hK26 => ?_)
          · intro G25
            refine x_iinc F dX12_readNode_81 rfl (by decide) rfl rfl (fun v27 => ?_)
            show Y cx x _ _ _ _ [(0, vR a0), (1, vI v2), (2, vI v6), (3, vI v27)] _ _ _
            refine x_goto (pc' := 49) F dX12_readNode_84 rfl ?_
            exact hrc22 v27 G25
          · refine x_ifne (pt := 81) F dX12_readNode_73 rfl rfl ?_ ?_
            · refine x_aload_n F dX12_readNode_76 rfl rfl rfl ?_
              refine x_iconst F dX12_readNode_77 ⟨by decide, by decide⟩ rfl ?_
              refine s_callVv F [vI 3] [] lkX12_163 mX12_wrong rfl ha0 rfl hnE hn0 hd (tX12_wrong cx.l x hi G21 a0 3 ha0) rfl rfl dX12_readNode_78 rfl rfl (fun _ G28 => ?_)
              exact hK26 G28
            · exact hK26 G21
        · refine x_dp (L' := [(0, vR a0), (1, vI v2), (2, vI v6)]) [0, 1, 2] rfl ?_
          exact hK9 G21
      · exact hK9 G7
    · exact hK9 G7
theorem dX12_work_0 : decode cX12_work 0 = .ok (.aload_n 0, 1) := by decide +kernel
theorem dX12_work_1 : decode cX12_work 1 = .ok (.iconst 0, 1) := by decide +kernel
theorem dX12_work_2 : decode cX12_work 2 = .ok (.putfield 1, 3) := by decide +kernel
theorem dX12_work_5 : decode cX12_work 5 = .ok (.aload_n 0, 1) := by decide +kernel
theorem dX12_work_6 : decode cX12_work 6 = .ok (.invokevirtual 189, 3) := by decide +kernel
theorem dX12_work_9 : decode cX12_work 9 = .ok (.iconst 0, 1) := by decide +kernel
theorem dX12_work_10 : decode cX12_work 10 = .ok (.istore_n 1, 1) := by decide +kernel
theorem dX12_work_11 : decode cX12_work 11 = .ok (.aload_n 0, 1) := by decide +kernel
theorem dX12_work_12 : decode cX12_work 12 = .ok (.getfield 157, 3) := by decide +kernel
theorem dX12_work_15 : decode cX12_work 15 = .ok (.ifCond .ne 170, 3) := by decide +kernel
theorem dX12_work_18 : decode cX12_work 18 = .ok (.aload_n 0, 1) := by decide +kernel
theorem dX12_work_19 : decode cX12_work 19 = .ok (.getfield 24, 3) := by decide +kernel
theorem dX12_work_22 : decode cX12_work 22 = .ok (.aload_n 0, 1) := by decide +kernel
theorem dX12_work_23 : decode cX12_work 23 = .ok (.getfield 154, 3) := by decide +kernel
theorem dX12_work_26 : decode cX12_work 26 = .ok (.iaload, 1) := by decide +kernel
theorem dX12_work_27 : decode cX12_work 27 = .ok (.ifCond .eq 158, 3) := by decide +kernel
theorem dX12_work_30 : decode cX12_work 30 = .ok (.aload_n 0, 1) := by decide +kernel
theorem dX12_work_31 : decode cX12_work 31 = .ok (.bipush 6, 2) := by decide +kernel
theorem dX12_work_33 : decode cX12_work 33 = .ok (.bipush 9, 2) := by decide +kernel
theorem dX12_work_35 : decode cX12_work 35 = .ok (.invokevirtual 179, 3) := by decide +kernel
theorem dX12_work_38 : decode cX12_work 38 = .ok (.istore_n 2, 1) := by decide +kernel
theorem dX12_work_39 : decode cX12_work 39 = .ok (.iload_n 2, 1) := by decide +kernel
theorem dX12_work_40 : decode cX12_work 40 = .ok (.ifCond .ge 11, 3) := by decide +kernel
theorem dX12_work_43 : decode cX12_work 43 = .ok (.aload_n 0, 1) := by decide +kernel
theorem dX12_work_44 : decode cX12_work 44 = .ok (.iconst 1, 1) := by decide +kernel
theorem dX12_work_45 : decode cX12_work 45 = .ok (.invokevirtual 163, 3) := by decide +kernel
theorem dX12_work_48 : decode cX12_work 48 = .ok (.goto 128, 3) := by decide +kernel
theorem dX12_work_51 : decode cX12_work 51 = .ok (.iload_n 1, 1) := by decide +kernel
theorem dX12_work_52 : decode cX12_work 52 = .ok (.bipush 40, 2) := by decide +kernel
theorem dX12_work_54 : decode cX12_work 54 = .ok (.if_icmp .ne 11, 3) := by decide +kernel
theorem dX12_work_57 : decode cX12_work 57 = .ok (.aload_n 0, 1) := by decide +kernel
theorem dX12_work_58 : decode cX12_work 58 = .ok (.iconst 5, 1) := by decide +kernel
theorem dX12_work_59 : decode cX12_work 59 = .ok (.invokevirtual 163, 3) := by decide +kernel
theorem dX12_work_62 : decode cX12_work 62 = .ok (.goto 114, 3) := by decide +kernel
theorem dX12_work_65 : decode cX12_work 65 = .ok (.aload_n 0, 1) := by decide +kernel
theorem dX12_work_66 : decode cX12_work 66 = .ok (.dup, 1) := by decide +kernel
theorem dX12_work_67 : decode cX12_work 67 = .ok (.getfield 154, 3) := by decide +kernel
theorem dX12_work_70 : decode cX12_work 70 = .ok (.iconst 1, 1) := by decide +kernel
theorem dX12_work_71 : decode cX12_work 71 = .ok (.iadd, 1) := by decide +kernel
theorem dX12_work_72 : decode cX12_work 72 = .ok (.putfield 154, 3) := by decide +kernel
theorem dX12_work_75 : decode cX12_work 75 = .ok (.bipush 121, 2) := by decide +kernel
theorem dX12_work_77 : decode cX12_work 77 = .ok (.iconst 3, 1) := by decide +kernel
theorem dX12_work_78 : decode cX12_work 78 = .ok (.iload_n 1, 1) := by decide +kernel
theorem dX12_work_79 : decode cX12_work 79 = .ok (.imul, 1) := by decide +kernel
theorem dX12_work_80 : decode cX12_work 80 = .ok (.iadd, 1) := by decide +kernel
theorem dX12_work_81 : decode cX12_work 81 = .ok (.istore_n 3, 1) := by decide +kernel
theorem dX12_work_82 : decode cX12_work 82 = .ok (.aload_n 0, 1) := by decide +kernel
theorem dX12_work_83 : decode cX12_work 83 = .ok (.getfield 96, 3) := by decide +kernel
theorem dX12_work_86 : decode cX12_work 86 = .ok (.iload_n 3, 1) := by decide +kernel
theorem dX12_work_87 : decode cX12_work 87 = .ok (.iload_n 2, 1) := by decide +kernel
theorem dX12_work_88 : decode cX12_work 88 = .ok (.iastore, 1) := by decide +kernel
theorem dX12_work_89 : decode cX12_work 89 = .ok (.aload_n 0, 1) := by decide +kernel
theorem dX12_work_90 : decode cX12_work 90 = .ok (.getfield 96, 3) := by decide +kernel
theorem dX12_work_93 : decode cX12_work 93 = .ok (.iload_n 3, 1) := by decide +kernel
theorem dX12_work_94 : decode cX12_work 94 = .ok (.iconst 1, 1) := by decide +kernel
theorem dX12_work_95 : decode cX12_work 95 = .ok (.iadd, 1) := by decide +kernel
theorem dX12_work_96 : decode cX12_work 96 = .ok (.iload_n 2, 1) := by decide +kernel
theorem dX12_work_97 : decode cX12_work 97 = .ok (.bipush 7, 2) := by decide +kernel
theorem dX12_work_99 : decode cX12_work 99 = .ok (.if_icmp .ne 16, 3) := by decide +kernel
theorem dX12_work_102 : decode cX12_work 102 = .ok (.aload_n 0, 1) := by decide +kernel
theorem dX12_work_103 : decode cX12_work 103 = .ok (.bipush 8, 2) := by decide +kernel
theorem dX12_work_105 : decode cX12_work 105 = .ok (.aload_n 0, 1) := by decide +kernel
theorem dX12_work_106 : decode cX12_work 106 = .ok (.invokevirtual 229, 3) := by decide +kernel
theorem dX12_work_109 : decode cX12_work 109 = .ok (.invokevirtual 233, 3) := by decide +kernel
theorem dX12_work_112 : decode cX12_work 112 = .ok (.goto 12, 3) := by decide +kernel
theorem dX12_work_115 : decode cX12_work 115 = .ok (.aload_n 0, 1) := by decide +kernel
theorem dX12_work_116 : decode cX12_work 116 = .ok (.iconst 0, 1) := by decide +kernel
theorem dX12_work_117 : decode cX12_work 117 = .ok (.aload_n 0, 1) := by decide +kernel
theorem dX12_work_118 : decode cX12_work 118 = .ok (.invokevirtual 236, 3) := by decide +kernel
theorem dX12_work_121 : decode cX12_work 121 = .ok (.invokevirtual 233, 3) := by decide +kernel
theorem dX12_work_124 : decode cX12_work 124 = .ok (.iastore, 1) := by decide +kernel
theorem dX12_work_125 : decode cX12_work 125 = .ok (.aload_n 0, 1) := by decide +kernel
theorem dX12_work_126 : decode cX12_work 126 = .ok (.getfield 96, 3) := by decide +kernel
theorem dX12_work_129 : decode cX12_work 129 = .ok (.iload_n 3, 1) := by decide +kernel
theorem dX12_work_130 : decode cX12_work 130 = .ok (.iconst 2, 1) := by decide +kernel
theorem dX12_work_131 : decode cX12_work 131 = .ok (.iadd, 1) := by decide +kernel
theorem dX12_work_132 : decode cX12_work 132 = .ok (.iload_n 2, 1) := by decide +kernel
theorem dX12_work_133 : decode cX12_work 133 = .ok (.iconst 1, 1) := by decide +kernel
theorem dX12_work_134 : decode cX12_work 134 = .ok (.if_icmp .eq 9, 3) := by decide +kernel
theorem dX12_work_137 : decode cX12_work 137 = .ok (.iload_n 2, 1) := by decide +kernel
theorem dX12_work_138 : decode cX12_work 138 = .ok (.bipush 7, 2) := by decide +kernel
theorem dX12_work_140 : decode cX12_work 140 = .ok (.if_icmp .ne 15, 3) := by decide +kernel
theorem dX12_work_143 : decode cX12_work 143 = .ok (.aload_n 0, 1) := by decide +kernel
theorem dX12_work_144 : decode cX12_work 144 = .ok (.iconst 0, 1) := by decide +kernel
theorem dX12_work_145 : decode cX12_work 145 = .ok (.aload_n 0, 1) := by decide +kernel
theorem dX12_work_146 : decode cX12_work 146 = .ok (.invokevirtual 236, 3) := by decide +kernel
theorem dX12_work_149 : decode cX12_work 149 = .ok (.invokevirtual 233, 3) := by decide +kernel
theorem dX12_work_152 : decode cX12_work 152 = .ok (.goto 20, 3) := by decide +kernel
theorem dX12_work_155 : decode cX12_work 155 = .ok (.iload_n 2, 1) := by decide +kernel
theorem dX12_work_156 : decode cX12_work 156 = .ok (.bipush 6, 2) := by decide +kernel
theorem dX12_work_158 : decode cX12_work 158 = .ok (.if_icmp .ne 13, 3) := by decide +kernel
theorem dX12_work_161 : decode cX12_work 161 = .ok (.aload_n 0, 1) := by decide +kernel
theorem dX12_work_162 : decode cX12_work 162 = .ok (.iconst 0, 1) := by decide +kernel
theorem dX12_work_163 : decode cX12_work 163 = .ok (.bipush 7, 2) := by decide +kernel
theorem dX12_work_165 : decode cX12_work 165 = .ok (.invokevirtual 175, 3) := by decide +kernel
theorem dX12_work_168 : decode cX12_work 168 = .ok (.goto 4, 3) := by decide +kernel
theorem dX12_work_171 : decode cX12_work 171 = .ok (.iconst 0, 1) := by decide +kernel
theorem dX12_work_172 : decode cX12_work 172 = .ok (.iastore, 1) := by decide +kernel
theorem dX12_work_173 : decode cX12_work 173 = .ok (.iinc 1 1, 3) := by decide +kernel
theorem dX12_work_176 : decode cX12_work 176 = .ok (.aload_n 0, 1) := by decide +kernel
theorem dX12_work_177 : decode cX12_work 177 = .ok (.bipush 59, 2) := by decide +kernel
theorem dX12_work_179 : decode cX12_work 179 = .ok (.invokevirtual 198, 3) := by decide +kernel
theorem dX12_work_182 : decode cX12_work 182 = .ok (.goto (-171), 3) := by decide +kernel
theorem dX12_work_185 : decode cX12_work 185 = .ok (.aload_n 0, 1) := by decide +kernel
theorem dX12_work_186 : decode cX12_work 186 = .ok (.getfield 157, 3) := by decide +kernel
theorem dX12_work_189 : decode cX12_work 189 = .ok (.ifCond .le 8, 3) := by decide +kernel
theorem dX12_work_192 : decode cX12_work 192 = .ok (.aload_n 0, 1) := by decide +kernel
theorem dX12_work_193 : decode cX12_work 193 = .ok (.getfield 157, 3) := by decide +kernel
theorem dX12_work_196 : decode cX12_work 196 = .ok (.ireturn, 1) := by decide +kernel
theorem dX12_work_197 : decode cX12_work 197 = .ok (.aload_n 0, 1) := by decide +kernel
theorem dX12_work_198 : decode cX12_work 198 = .ok (.getfield 96, 3) := by decide +kernel
theorem dX12_work_201 : decode cX12_work 201 = .ok (.iconst 0, 1) := by decide +kernel
theorem dX12_work_202 : decode cX12_work 202 = .ok (.iload_n 1, 1) := by decide +kernel
theorem dX12_work_203 : decode cX12_work 203 = .ok (.iastore, 1) := by decide +kernel
theorem dX12_work_204 : decode cX12_work 204 = .ok (.iconst 0, 1) := by decide +kernel
theorem dX12_work_205 : decode cX12_work 205 = .ok (.istore_n 2, 1) := by decide +kernel
theorem dX12_work_206 : decode cX12_work 206 = .ok (.iload_n 2, 1) := by decide +kernel
theorem dX12_work_207 : decode cX12_work 207 = .ok (.iconst 3, 1) := by decide +kernel
theorem dX12_work_208 : decode cX12_work 208 = .ok (.iload_n 1, 1) := by decide +kernel
theorem dX12_work_209 : decode cX12_work 209 = .ok (.imul, 1) := by decide +kernel
theorem dX12_work_210 : decode cX12_work 210 = .ok (.if_icmp .ge 26, 3) := by decide +kernel
theorem dX12_work_213 : decode cX12_work 213 = .ok (.aload_n 0, 1) := by decide +kernel
theorem dX12_work_214 : decode cX12_work 214 = .ok (.getfield 96, 3) := by decide +kernel
theorem dX12_work_217 : decode cX12_work 217 = .ok (.iconst 1, 1) := by decide +kernel
theorem dX12_work_218 : decode cX12_work 218 = .ok (.iload_n 2, 1) := by decide +kernel
theorem dX12_work_219 : decode cX12_work 219 = .ok (.iadd, 1) := by decide +kernel
theorem dX12_work_220 : decode cX12_work 220 = .ok (.aload_n 0, 1) := by decide +kernel
theorem dX12_work_221 : decode cX12_work 221 = .ok (.getfield 96, 3) := by decide +kernel
theorem dX12_work_224 : decode cX12_work 224 = .ok (.bipush 121, 2) := by decide +kernel
theorem dX12_work_226 : decode cX12_work 226 = .ok (.iload_n 2, 1) := by decide +kernel
theorem dX12_work_227 : decode cX12_work 227 = .ok (.iadd, 1) := by decide +kernel
theorem dX12_work_228 : decode cX12_work 228 = .ok (.iaload, 1) := by decide +kernel
theorem dX12_work_229 : decode cX12_work 229 = .ok (.iastore, 1) := by decide +kernel
theorem dX12_work_230 : decode cX12_work 230 = .ok (.iinc 2 1, 3) := by decide +kernel
theorem dX12_work_233 : decode cX12_work 233 = .ok (.goto (-27), 3) := by decide +kernel
theorem dX12_work_236 : decode cX12_work 236 = .ok (.iconst 0, 1) := by decide +kernel
theorem dX12_work_237 : decode cX12_work 237 = .ok (.ireturn, 1) := by decide +kernel
def fX12_work (a0 : Nat) (G : Hp) : RT := bh (up G a0 0 0) fun G1 => bn (fX12_cutAll a0 G1) fun _ G2 => bd 0 fun v3 => (lp (fun (_ : Int) (_ : Hp) => (none : RT)) 5000 (fun (rc6 : Int → Hp → RT) (v4 : Int) (G5 : Hp) => jn (if 0 < (G5 a0 8) then (rt (G5 a0 8) G5) else (bs (wr G5 ((rf a0 14)) 241 0 v4) fun G8 => bd 0 fun v9 => (lp (fun (_ : Int) (_ : Hp) => (none : RT)) 5000 (fun (rc12 : Int → Hp → RT) (v10 : Int) (G11 : Hp) => if v10 < (imul 3 v4) then (br (rd G11 ((rf a0 14)) 241 (iadd 121 v10)) fun v13 => bs (wr G11 ((rf a0 14)) 241 (iadd 1 v10) v13) fun G14 => bd (iadd v10 1) fun v15 => rc12 v15 G14) else rt 0 G11)) v9 G8)) fun (K7 : RT) => if (G5 a0 8) = 0 then (br (rd G5 ((rf a0 4)) 1002 (G5 a0 7)) fun v16 => if v16 = 0 then K7 else (bp (fX12_wordHere a0 6 9 G5) fun v17 => bd v17 fun v18 => jn (fun (v19 : Int) (G20 : Hp) => bn (fX12_takeSign a0 59 G20) fun _ G22 => rc6 v19 G22) fun (K21 : Int → Hp → RT) => if v18 < 0 then (bn (fX12_wrong a0 1 G5) fun _ G50 => K21 v4 G50) else (if v4 = 40 then (bn (fX12_wrong a0 5 G5) fun _ G48 => K21 v4 G48) else (bh (up G5 a0 7 (iadd (G5 a0 7) 1)) fun G24 => bd (iadd 121 (imul 3 v4)) fun v25 => bs (wr G24 ((rf a0 14)) 241 v25 v18) fun G26 => jn (fun (v27 : Int) (G28 : Hp) => bs (wr G28 ((rf a0 14)) 241 (iadd v25 1) v27) fun G30 => jn (fun (v31 : Int) (G32 : Hp) => bs (wr G32 ((rf a0 14)) 241 (iadd v25 2) v31) fun G34 => bd (iadd v4 1) fun v35 => K21 v35 G34) fun (K33 : Int → Hp → RT) => jn (bp (fX12_nodes a0 G30) fun v37 => bn (fX12_takeTold a0 0 v37 G30) fun v38 G39 => K33 v38 G39) fun (K36 : RT) => if v18 = 1 then K36 else (if v18 = 7 then K36 else (if v18 = 6 then (bn (fX12_takeNumber a0 0 7 G30) fun v40 G41 => K33 v40 G41) else K33 0 G30))) fun (K29 : Int → Hp → RT) => if v18 = 7 then (bp (fX12_keys a0 G26) fun v45 => bn (fX12_takeTold a0 8 v45 G26) fun v46 G47 => K29 v46 G47) else (bp (fX12_nodes a0 G26) fun v42 => bn (fX12_takeTold a0 0 v42 G26) fun v43 G44 => K29 v43 G44))))) else K7)) v3 G2
set_option maxRecDepth 20000 in
set_option maxHeartbeats 4000000 in
theorem tX12_work (l : Launch) (x : WX) (hi : Inj x.2.2) (G : Hp) (a0 : Nat) (ha0 : kd a0 = 12) : Ct l x yX12_work cX12_work 4 (some .int) 4 129 129 [vR a0] G (fX12_work a0 G) := by
  refine ct_of (plainFor_of_name (by decide)) hi (Nat.le_refl _) (Nat.le_refl _) (Nat.le_of_ble_eq_true rfl) (fun cx F hd hn0 hnE hl hQ => ?_)
  subst hl
  have F : Fx cx x RX12 cX12_work 4 (some .int) := F
  show Y cx x 4 (some .int) 129 0 [(0, vR a0)] [] G _
  unfold fX12_work
  refine x_aload_n F dX12_work_0 rfl rfl rfl ?_
  refine x_iconst F dX12_work_1 ⟨by decide, by decide⟩ rfl ?_
  refine s_putI F fpX12_1 ha0 rfl dX12_work_2 rfl (fun G1 => ?_)
  refine x_aload_n F dX12_work_5 rfl rfl rfl ?_
  refine s_callVv F [] [] lkX12_189 mX12_cutAll rfl ha0 rfl hnE hn0 hd (tX12_cutAll cx.l x hi G1 a0 ha0) rfl rfl dX12_work_6 rfl rfl (fun _ G2 => ?_)
  refine x_iconst F dX12_work_9 ⟨by decide, by decide⟩ rfl ?_
  refine x_istore_n F dX12_work_10 rfl (by decide) rfl rfl (fun v3 => ?_)
  show Y cx x _ _ _ _ [(0, vR a0), (1, vI v3)] _ _ _
  refine x_lp (fun (rc6 : Int → Hp → RT) => ∀ (v4 : Int) (G5 : Hp), Y cx x 4 (some .int) 129 11 [(0, vR a0), (1, vI v4)] [] G5 (rc6 v4 G5)) (fun _ _ => Y_none) (fun rc6 hrc6 v4 G5 => ?_) 5000 v3 G2
  refine x_aload_n F dX12_work_11 rfl rfl rfl ?_
  refine s_getI F flX12_157 ha0 rfl dX12_work_12 rfl ?_
  refine x_jn (fun (K7 : RT) => Y cx x 4 (some .int) 129 185 [(0, vR a0), (1, vI v4)] [] G5 K7) ?_ (fun K7 hK7 => ?_)
  · refine x_aload_n F dX12_work_185 rfl rfl rfl ?_
    refine s_getI F flX12_157 ha0 rfl dX12_work_186 rfl ?_
    refine x_ifle (pt := 197) F dX12_work_189 rfl rfl ?_ ?_
    · refine x_aload_n F dX12_work_192 rfl rfl rfl ?_
      refine s_getI F flX12_157 ha0 rfl dX12_work_193 rfl ?_
      exact x_iret F hnE hQ dX12_work_196
    · refine x_aload_n F dX12_work_197 rfl rfl rfl ?_
      refine x_getR F flX12_96 ha0 rfl dX12_work_198 rfl ?_
      refine x_iconst F dX12_work_201 ⟨by decide, by decide⟩ rfl ?_
      refine x_iload_n F dX12_work_202 rfl rfl rfl ?_
      refine s_iast F (tf12_14 ha0).1 (tf12_14 ha0).2 dX12_work_203 rfl (fun G8 => ?_)
      refine x_iconst F dX12_work_204 ⟨by decide, by decide⟩ rfl ?_
      refine x_istore_n F dX12_work_205 rfl (by decide) rfl rfl (fun v9 => ?_)
      show Y cx x _ _ _ _ [(0, vR a0), (1, vI v4), (2, vI v9)] _ _ _
      refine x_lp (fun (rc12 : Int → Hp → RT) => ∀ (v10 : Int) (G11 : Hp), Y cx x 4 (some .int) 129 206 [(0, vR a0), (1, vI v4), (2, vI v10)] [] G11 (rc12 v10 G11)) (fun _ _ => Y_none) (fun rc12 hrc12 v10 G11 => ?_) 5000 v9 G8
      refine x_iload_n F dX12_work_206 rfl rfl rfl ?_
      refine x_iconst F dX12_work_207 ⟨by decide, by decide⟩ rfl ?_
      refine x_iload_n F dX12_work_208 rfl rfl rfl ?_
      refine x_imul F dX12_work_209 rfl ?_
      refine x_icmpge (pt := 236) F dX12_work_210 rfl rfl ?_ ?_
      · refine x_aload_n F dX12_work_213 rfl rfl rfl ?_
        refine x_getR F flX12_96 ha0 rfl dX12_work_214 rfl ?_
        refine x_iconst F dX12_work_217 ⟨by decide, by decide⟩ rfl ?_
        refine x_iload_n F dX12_work_218 rfl rfl rfl ?_
        refine x_iadd F dX12_work_219 rfl ?_
        refine x_aload_n F dX12_work_220 rfl rfl rfl ?_
        refine x_getR F flX12_96 ha0 rfl dX12_work_221 rfl ?_
        refine x_bipush F dX12_work_224 ⟨by decide, by decide⟩ (by decide) rfl ?_
        refine x_iload_n F dX12_work_226 rfl rfl rfl ?_
        refine x_iadd F dX12_work_227 rfl ?_
        refine s_iald F (tf12_14 ha0).1 (tf12_14 ha0).2 dX12_work_228 rfl (fun v13 => ?_)
        refine s_iast F (tf12_14 ha0).1 (tf12_14 ha0).2 dX12_work_229 rfl (fun G14 => ?_)
        refine x_iinc F dX12_work_230 rfl (by decide) rfl rfl (fun v15 => ?_)
        show Y cx x _ _ _ _ [(0, vR a0), (1, vI v4), (2, vI v15)] _ _ _
        refine x_goto (pc' := 206) F dX12_work_233 rfl ?_
        exact hrc12 v15 G14
      · refine x_iconst F dX12_work_236 ⟨by decide, by decide⟩ rfl ?_
        exact x_iret F hnE hQ dX12_work_237
  · refine x_ifne (pt := 185) F dX12_work_15 rfl rfl ?_ ?_
    · refine x_aload_n F dX12_work_18 rfl rfl rfl ?_
      refine x_getR F flX12_24 ha0 rfl dX12_work_19 rfl ?_
      refine x_aload_n F dX12_work_22 rfl rfl rfl ?_
      refine s_getI F flX12_154 ha0 rfl dX12_work_23 rfl ?_
      refine s_iald F (tf12_4 ha0).1 (tf12_4 ha0).2 dX12_work_26 rfl (fun v16 => ?_)
      refine x_ifeq (pt := 185) F dX12_work_27 rfl rfl ?_ ?_
      · exact hK7
      · refine x_aload_n F dX12_work_30 rfl rfl rfl ?_
        refine x_bipush F dX12_work_31 ⟨by decide, by decide⟩ (by decide) rfl ?_
        refine x_bipush F dX12_work_33 ⟨by decide, by decide⟩ (by decide) rfl ?_
        refine s_callVP F [vI 6, vI 9] [] lkX12_179 mX12_wordHere rfl ha0 rfl hnE hn0 hd pX12_wordHere (tX12_wordHere cx.l x hi G5 a0 6 9 ha0) rfl rfl dX12_work_35 rfl rfl (fun v17 => ?_)
        refine x_istore_n F dX12_work_38 rfl (by decide) rfl rfl (fun v18 => ?_)
        show Y cx x _ _ _ _ [(0, vR a0), (1, vI v4), (2, vI v18)] _ _ _
        refine x_iload_n F dX12_work_39 rfl rfl rfl ?_
        refine x_jn (fun (K21 : Int → Hp → RT) => ∀ (v19 : Int) (G20 : Hp), Y cx x 4 (some .int) 129 176 [(0, vR a0), (1, vI v19)] [] G20 (K21 v19 G20)) ?_ (fun K21 hK21 => ?_)
        · intro v19 G20
          refine x_aload_n F dX12_work_176 rfl rfl rfl ?_
          refine x_bipush F dX12_work_177 ⟨by decide, by decide⟩ (by decide) rfl ?_
          refine s_callVv F [vI 59] [] lkX12_198 mX12_takeSign rfl ha0 rfl hnE hn0 hd (tX12_takeSign cx.l x hi G20 a0 59 ha0) rfl rfl dX12_work_179 rfl rfl (fun _ G22 => ?_)
          refine x_goto (pc' := 11) F dX12_work_182 rfl ?_
          exact hrc6 v19 G22
        · refine x_ifge (pt := 51) F dX12_work_40 rfl rfl ?_ ?_
          · refine x_aload_n F dX12_work_43 rfl rfl rfl ?_
            refine x_iconst F dX12_work_44 ⟨by decide, by decide⟩ rfl ?_
            refine s_callVv F [vI 1] [] lkX12_163 mX12_wrong rfl ha0 rfl hnE hn0 hd (tX12_wrong cx.l x hi G5 a0 1 ha0) rfl rfl dX12_work_45 rfl rfl (fun _ G50 => ?_)
            refine x_goto (pc' := 176) F dX12_work_48 rfl ?_
            refine x_dp (L' := [(0, vR a0), (1, vI v4)]) [0, 1] rfl ?_
            exact hK21 v4 G50
          · refine x_iload_n F dX12_work_51 rfl rfl rfl ?_
            refine x_bipush F dX12_work_52 ⟨by decide, by decide⟩ (by decide) rfl ?_
            refine x_icmpne (pt := 65) F dX12_work_54 rfl rfl ?_ ?_
            · refine x_aload_n F dX12_work_57 rfl rfl rfl ?_
              refine x_iconst F dX12_work_58 ⟨by decide, by decide⟩ rfl ?_
              refine s_callVv F [vI 5] [] lkX12_163 mX12_wrong rfl ha0 rfl hnE hn0 hd (tX12_wrong cx.l x hi G5 a0 5 ha0) rfl rfl dX12_work_59 rfl rfl (fun _ G48 => ?_)
              refine x_goto (pc' := 176) F dX12_work_62 rfl ?_
              refine x_dp (L' := [(0, vR a0), (1, vI v4)]) [0, 1] rfl ?_
              exact hK21 v4 G48
            · refine x_aload_n F dX12_work_65 rfl rfl rfl ?_
              refine x_dup F dX12_work_66 rfl rfl ?_
              refine s_getI F flX12_154 ha0 rfl dX12_work_67 rfl ?_
              refine x_iconst F dX12_work_70 ⟨by decide, by decide⟩ rfl ?_
              refine x_iadd F dX12_work_71 rfl ?_
              refine s_putI F fpX12_154 ha0 rfl dX12_work_72 rfl (fun G24 => ?_)
              refine x_bipush F dX12_work_75 ⟨by decide, by decide⟩ (by decide) rfl ?_
              refine x_iconst F dX12_work_77 ⟨by decide, by decide⟩ rfl ?_
              refine x_iload_n F dX12_work_78 rfl rfl rfl ?_
              refine x_imul F dX12_work_79 rfl ?_
              refine x_iadd F dX12_work_80 rfl ?_
              refine x_istore_n F dX12_work_81 rfl (by decide) rfl rfl (fun v25 => ?_)
              show Y cx x _ _ _ _ [(0, vR a0), (1, vI v4), (2, vI v18), (3, vI v25)] _ _ _
              refine x_aload_n F dX12_work_82 rfl rfl rfl ?_
              refine x_getR F flX12_96 ha0 rfl dX12_work_83 rfl ?_
              refine x_iload_n F dX12_work_86 rfl rfl rfl ?_
              refine x_iload_n F dX12_work_87 rfl rfl rfl ?_
              refine s_iast F (tf12_14 ha0).1 (tf12_14 ha0).2 dX12_work_88 rfl (fun G26 => ?_)
              refine x_aload_n F dX12_work_89 rfl rfl rfl ?_
              refine x_getR F flX12_96 ha0 rfl dX12_work_90 rfl ?_
              refine x_iload_n F dX12_work_93 rfl rfl rfl ?_
              refine x_iconst F dX12_work_94 ⟨by decide, by decide⟩ rfl ?_
              refine x_iadd F dX12_work_95 rfl ?_
              refine x_iload_n F dX12_work_96 rfl rfl rfl ?_
              refine x_bipush F dX12_work_97 ⟨by decide, by decide⟩ (by decide) rfl ?_
              refine x_jn (fun (K29 : Int → Hp → RT) => ∀ (v27 : Int) (G28 : Hp), Y cx x 4 (some .int) 129 124 [(0, vR a0), (1, vI v4), (2, vI v18), (3, vI v25)] [vI v27, vI (iadd v25 1), vR ((rf a0 14))] G28 (K29 v27 G28)) ?_ (fun K29 hK29 => ?_)
              · intro v27 G28
                refine s_iast F (tf12_14 ha0).1 (tf12_14 ha0).2 dX12_work_124 rfl (fun G30 => ?_)
                refine x_aload_n F dX12_work_125 rfl rfl rfl ?_
                refine x_getR F flX12_96 ha0 rfl dX12_work_126 rfl ?_
                refine x_iload_n F dX12_work_129 rfl rfl rfl ?_
                refine x_iconst F dX12_work_130 ⟨by decide, by decide⟩ rfl ?_
                refine x_iadd F dX12_work_131 rfl ?_
                refine x_iload_n F dX12_work_132 rfl rfl rfl ?_
                refine x_iconst F dX12_work_133 ⟨by decide, by decide⟩ rfl ?_
                refine x_jn (fun (K33 : Int → Hp → RT) => ∀ (v31 : Int) (G32 : Hp), Y cx x 4 (some .int) 129 172 [(0, vR a0), (1, vI v4)] [vI v31, vI (iadd v25 2), vR ((rf a0 14))] G32 (K33 v31 G32)) ?_ (fun K33 hK33 => ?_)
                · intro v31 G32
                  refine s_iast F (tf12_14 ha0).1 (tf12_14 ha0).2 dX12_work_172 rfl (fun G34 => ?_)
                  refine x_iinc F dX12_work_173 rfl (by decide) rfl rfl (fun v35 => ?_)
                  show Y cx x _ _ _ _ [(0, vR a0), (1, vI v35)] _ _ _
                  exact hK21 v35 G34
                · refine x_jn (fun (K36 : RT) => Y cx x 4 (some .int) 129 143 [(0, vR a0), (1, vI v4)] [vI (iadd v25 2), vR ((rf a0 14))] G30 K36) ?_ (fun K36 hK36 => ?_)
                  · refine x_aload_n F dX12_work_143 rfl rfl rfl ?_
                    refine x_iconst F dX12_work_144 ⟨by decide, by decide⟩ rfl ?_
                    refine x_aload_n F dX12_work_145 rfl rfl rfl ?_
                    refine s_callVP F [] [vI 0, vR a0, vI (iadd v25 2), vR ((rf a0 14))] lkX12_236 mX12_nodes rfl ha0 rfl hnE hn0 hd pX12_nodes (tX12_nodes cx.l x hi G30 a0 ha0) rfl rfl dX12_work_146 rfl rfl (fun v37 => ?_)
                    refine s_callV F [vI 0, vI v37] [vI (iadd v25 2), vR ((rf a0 14))] lkX12_233 mX12_takeTold rfl ha0 rfl hnE hn0 hd (tX12_takeTold cx.l x hi G30 a0 0 v37 ha0) rfl rfl dX12_work_149 rfl rfl (fun v38 G39 => ?_)
                    refine x_goto (pc' := 172) F dX12_work_152 rfl ?_
                    exact hK33 v38 G39
                  · refine x_icmpeq (pt := 143) F dX12_work_134 rfl rfl ?_ ?_
                    · refine x_dp (L' := [(0, vR a0), (1, vI v4)]) [0, 1] rfl ?_
                      exact hK36
                    · refine x_iload_n F dX12_work_137 rfl rfl rfl ?_
                      refine x_bipush F dX12_work_138 ⟨by decide, by decide⟩ (by decide) rfl ?_
                      refine x_icmpne (pt := 155) F dX12_work_140 rfl rfl ?_ ?_
                      · refine x_dp (L' := [(0, vR a0), (1, vI v4)]) [0, 1] rfl ?_
                        exact hK36
                      · refine x_iload_n F dX12_work_155 rfl rfl rfl ?_
                        refine x_bipush F dX12_work_156 ⟨by decide, by decide⟩ (by decide) rfl ?_
                        refine x_icmpne (pt := 171) F dX12_work_158 rfl rfl ?_ ?_
                        · refine x_aload_n F dX12_work_161 rfl rfl rfl ?_
                          refine x_iconst F dX12_work_162 ⟨by decide, by decide⟩ rfl ?_
                          refine x_bipush F dX12_work_163 ⟨by decide, by decide⟩ (by decide) rfl ?_
                          refine s_callV F [vI 0, vI 7] [vI (iadd v25 2), vR ((rf a0 14))] lkX12_175 mX12_takeNumber rfl ha0 rfl hnE hn0 hd (tX12_takeNumber cx.l x hi G30 a0 0 7 ha0) rfl rfl dX12_work_165 rfl rfl (fun v40 G41 => ?_)
                          refine x_goto (pc' := 172) F dX12_work_168 rfl ?_
                          refine x_dp (L' := [(0, vR a0), (1, vI v4)]) [0, 1] rfl ?_
                          exact hK33 v40 G41
                        · refine x_iconst F dX12_work_171 ⟨by decide, by decide⟩ rfl ?_
                          refine x_dp (L' := [(0, vR a0), (1, vI v4)]) [0, 1] rfl ?_
                          exact hK33 0 G30
              · refine x_icmpne (pt := 115) F dX12_work_99 rfl rfl ?_ ?_
                · refine x_aload_n F dX12_work_102 rfl rfl rfl ?_
                  refine x_bipush F dX12_work_103 ⟨by decide, by decide⟩ (by decide) rfl ?_
                  refine x_aload_n F dX12_work_105 rfl rfl rfl ?_
                  refine s_callVP F [] [vI 8, vR a0, vI (iadd v25 1), vR ((rf a0 14))] lkX12_229 mX12_keys rfl ha0 rfl hnE hn0 hd pX12_keys (tX12_keys cx.l x hi G26 a0 ha0) rfl rfl dX12_work_106 rfl rfl (fun v45 => ?_)
                  refine s_callV F [vI 8, vI v45] [vI (iadd v25 1), vR ((rf a0 14))] lkX12_233 mX12_takeTold rfl ha0 rfl hnE hn0 hd (tX12_takeTold cx.l x hi G26 a0 8 v45 ha0) rfl rfl dX12_work_109 rfl rfl (fun v46 G47 => ?_)
                  refine x_goto (pc' := 124) F dX12_work_112 rfl ?_
                  exact hK29 v46 G47
                · refine x_aload_n F dX12_work_115 rfl rfl rfl ?_
                  refine x_iconst F dX12_work_116 ⟨by decide, by decide⟩ rfl ?_
                  refine x_aload_n F dX12_work_117 rfl rfl rfl ?_
                  refine s_callVP F [] [vI 0, vR a0, vI (iadd v25 1), vR ((rf a0 14))] lkX12_236 mX12_nodes rfl ha0 rfl hnE hn0 hd pX12_nodes (tX12_nodes cx.l x hi G26 a0 ha0) rfl rfl dX12_work_118 rfl rfl (fun v42 => ?_)
                  refine s_callV F [vI 0, vI v42] [vI (iadd v25 1), vR ((rf a0 14))] lkX12_233 mX12_takeTold rfl ha0 rfl hnE hn0 hd (tX12_takeTold cx.l x hi G26 a0 0 v42 ha0) rfl rfl dX12_work_121 rfl rfl (fun v43 G44 => ?_)
                  exact hK29 v43 G44
    · exact hK7
theorem dX12_asksOn_0 : decode cX12_asksOn 0 = .ok (.iconst (-1), 1) := by decide +kernel
theorem dX12_asksOn_1 : decode cX12_asksOn 1 = .ok (.istore 4, 2) := by decide +kernel
theorem dX12_asksOn_3 : decode cX12_asksOn 3 = .ok (.iconst 0, 1) := by decide +kernel
theorem dX12_asksOn_4 : decode cX12_asksOn 4 = .ok (.istore 5, 2) := by decide +kernel
theorem dX12_asksOn_6 : decode cX12_asksOn 6 = .ok (.iload 5, 2) := by decide +kernel
theorem dX12_asksOn_8 : decode cX12_asksOn 8 = .ok (.aload_n 0, 1) := by decide +kernel
theorem dX12_asksOn_9 : decode cX12_asksOn 9 = .ok (.iload_n 1, 1) := by decide +kernel
theorem dX12_asksOn_10 : decode cX12_asksOn 10 = .ok (.iload_n 2, 1) := by decide +kernel
theorem dX12_asksOn_11 : decode cX12_asksOn 11 = .ok (.invokevirtual 291, 3) := by decide +kernel
theorem dX12_asksOn_14 : decode cX12_asksOn 14 = .ok (.if_icmp .ge 28, 3) := by decide +kernel
theorem dX12_asksOn_17 : decode cX12_asksOn 17 = .ok (.aload_n 0, 1) := by decide +kernel
theorem dX12_asksOn_18 : decode cX12_asksOn 18 = .ok (.iload_n 1, 1) := by decide +kernel
theorem dX12_asksOn_19 : decode cX12_asksOn 19 = .ok (.iload_n 2, 1) := by decide +kernel
theorem dX12_asksOn_20 : decode cX12_asksOn 20 = .ok (.iload_n 3, 1) := by decide +kernel
theorem dX12_asksOn_21 : decode cX12_asksOn 21 = .ok (.iload 4, 2) := by decide +kernel
theorem dX12_asksOn_23 : decode cX12_asksOn 23 = .ok (.aload_n 0, 1) := by decide +kernel
theorem dX12_asksOn_24 : decode cX12_asksOn 24 = .ok (.iload_n 1, 1) := by decide +kernel
theorem dX12_asksOn_25 : decode cX12_asksOn 25 = .ok (.iload_n 2, 1) := by decide +kernel
theorem dX12_asksOn_26 : decode cX12_asksOn 26 = .ok (.iload 5, 2) := by decide +kernel
theorem dX12_asksOn_28 : decode cX12_asksOn 28 = .ok (.invokevirtual 294, 3) := by decide +kernel
theorem dX12_asksOn_31 : decode cX12_asksOn 31 = .ok (.invokevirtual 300, 3) := by decide +kernel
theorem dX12_asksOn_34 : decode cX12_asksOn 34 = .ok (.istore 4, 2) := by decide +kernel
theorem dX12_asksOn_36 : decode cX12_asksOn 36 = .ok (.iinc 5 1, 3) := by decide +kernel
theorem dX12_asksOn_39 : decode cX12_asksOn 39 = .ok (.goto (-33), 3) := by decide +kernel
theorem dX12_asksOn_42 : decode cX12_asksOn 42 = .ok (.iconst 0, 1) := by decide +kernel
theorem dX12_asksOn_43 : decode cX12_asksOn 43 = .ok (.istore 5, 2) := by decide +kernel
theorem dX12_asksOn_45 : decode cX12_asksOn 45 = .ok (.iload 5, 2) := by decide +kernel
theorem dX12_asksOn_47 : decode cX12_asksOn 47 = .ok (.bipush 8, 2) := by decide +kernel
theorem dX12_asksOn_49 : decode cX12_asksOn 49 = .ok (.if_icmp .ge 28, 3) := by decide +kernel
theorem dX12_asksOn_52 : decode cX12_asksOn 52 = .ok (.aload_n 0, 1) := by decide +kernel
theorem dX12_asksOn_53 : decode cX12_asksOn 53 = .ok (.iload_n 1, 1) := by decide +kernel
theorem dX12_asksOn_54 : decode cX12_asksOn 54 = .ok (.iload_n 2, 1) := by decide +kernel
theorem dX12_asksOn_55 : decode cX12_asksOn 55 = .ok (.iload_n 3, 1) := by decide +kernel
theorem dX12_asksOn_56 : decode cX12_asksOn 56 = .ok (.iload 4, 2) := by decide +kernel
theorem dX12_asksOn_58 : decode cX12_asksOn 58 = .ok (.aload_n 0, 1) := by decide +kernel
theorem dX12_asksOn_59 : decode cX12_asksOn 59 = .ok (.iload_n 1, 1) := by decide +kernel
theorem dX12_asksOn_60 : decode cX12_asksOn 60 = .ok (.iload_n 2, 1) := by decide +kernel
theorem dX12_asksOn_61 : decode cX12_asksOn 61 = .ok (.iload 5, 2) := by decide +kernel
theorem dX12_asksOn_63 : decode cX12_asksOn 63 = .ok (.invokevirtual 304, 3) := by decide +kernel
theorem dX12_asksOn_66 : decode cX12_asksOn 66 = .ok (.invokevirtual 300, 3) := by decide +kernel
theorem dX12_asksOn_69 : decode cX12_asksOn 69 = .ok (.istore 4, 2) := by decide +kernel
theorem dX12_asksOn_71 : decode cX12_asksOn 71 = .ok (.iinc 5 1, 3) := by decide +kernel
theorem dX12_asksOn_74 : decode cX12_asksOn 74 = .ok (.goto (-29), 3) := by decide +kernel
theorem dX12_asksOn_77 : decode cX12_asksOn 77 = .ok (.iload 4, 2) := by decide +kernel
theorem dX12_asksOn_79 : decode cX12_asksOn 79 = .ok (.ireturn, 1) := by decide +kernel
def fX12_asksOn (a0 : Nat) (a1 : Int) (a2 : Int) (a3 : Int) (G : Hp) : RT := bd ((-1)) fun v1 => bd 0 fun v2 => (lp (fun (_ : Int) (_ : Int) => (none : RT)) 5000 (fun (rc5 : Int → Int → RT) (v3 : Int) (v4 : Int) => bp (fX12_longOf a0 a1 a2 G) fun v6 => if v4 < v6 then (bp (fX12_listedOf a0 a1 a2 v4 G) fun v15 => bp (fX12_farther a0 a1 a2 a3 v3 v15 G) fun v16 => bd v16 fun v17 => bd (iadd v4 1) fun v18 => rc5 v17 v18) else (bd 0 fun v7 => (lp (fun (_ : Int) (_ : Int) => (none : RT)) 5000 (fun (rc10 : Int → Int → RT) (v8 : Int) (v9 : Int) => if v9 < 8 then (bp (fX12_fingerOf a0 a1 a2 v9 G) fun v11 => bp (fX12_farther a0 a1 a2 a3 v8 v11 G) fun v12 => bd v12 fun v13 => bd (iadd v9 1) fun v14 => rc10 v13 v14) else rt v8 G)) v3 v7))) v1 v2
theorem pX12_asksOn {G : Hp} {a0 : Nat} {a1 : Int} {a2 : Int} {a3 : Int} : PU G (fX12_asksOn a0 a1 a2 a3 G) := by
  unfold fX12_asksOn
  refine PU_bd (fun v1 => ?_)
  refine PU_bd (fun v2 => ?_)
  refine x_lp (fun (rc5 : Int → Int → RT) => ∀ (v3 : Int) (v4 : Int), PU G (rc5 v3 v4)) (fun _ _ => PU_none) (fun rc5 phrc5 v3 v4 => ?_) 5000 v1 v2
  refine PU_bp (fun v6 => ?_)
  refine PU_ite ?_ ?_
  · refine PU_bp (fun v15 => ?_)
    refine PU_bp (fun v16 => ?_)
    refine PU_bd (fun v17 => ?_)
    refine PU_bd (fun v18 => ?_)
    exact phrc5 v17 v18
  · refine PU_bd (fun v7 => ?_)
    refine x_lp (fun (rc10 : Int → Int → RT) => ∀ (v8 : Int) (v9 : Int), PU G (rc10 v8 v9)) (fun _ _ => PU_none) (fun rc10 phrc10 v8 v9 => ?_) 5000 v3 v7
    refine PU_ite ?_ ?_
    · refine PU_bp (fun v11 => ?_)
      refine PU_bp (fun v12 => ?_)
      refine PU_bd (fun v13 => ?_)
      refine PU_bd (fun v14 => ?_)
      exact phrc10 v13 v14
    · exact PU_rt
set_option maxRecDepth 20000 in
set_option maxHeartbeats 4000000 in
theorem tX12_asksOn (l : Launch) (x : WX) (hi : Inj x.2.2) (G : Hp) (a0 : Nat) (a1 : Int) (a2 : Int) (a3 : Int) (ha0 : kd a0 = 12) : Ct l x yX12_asksOn cX12_asksOn 6 (some .int) 4 129 129 [vR a0, vI a1, vI a2, vI a3] G (fX12_asksOn a0 a1 a2 a3 G) := by
  refine ct_of (plainFor_of_name (by decide)) hi (Nat.le_refl _) (Nat.le_refl _) (Nat.le_of_ble_eq_true rfl) (fun cx F hd hn0 hnE hl hQ => ?_)
  subst hl
  have F : Fx cx x RX12 cX12_asksOn 6 (some .int) := F
  show Y cx x 6 (some .int) 129 0 [(0, vR a0), (1, vI a1), (2, vI a2), (3, vI a3)] [] G _
  unfold fX12_asksOn
  refine x_iconst F dX12_asksOn_0 ⟨by decide, by decide⟩ rfl ?_
  refine x_istore F dX12_asksOn_1 (by decide) rfl rfl (fun v1 => ?_)
  show Y cx x _ _ _ _ [(0, vR a0), (1, vI a1), (2, vI a2), (3, vI a3), (4, vI v1)] _ _ _
  refine x_iconst F dX12_asksOn_3 ⟨by decide, by decide⟩ rfl ?_
  refine x_istore F dX12_asksOn_4 (by decide) rfl rfl (fun v2 => ?_)
  show Y cx x _ _ _ _ [(0, vR a0), (1, vI a1), (2, vI a2), (3, vI a3), (4, vI v1), (5, vI v2)] _ _ _
  refine x_lp (fun (rc5 : Int → Int → RT) => ∀ (v3 : Int) (v4 : Int), Y cx x 6 (some .int) 129 6 [(0, vR a0), (1, vI a1), (2, vI a2), (3, vI a3), (4, vI v3), (5, vI v4)] [] G (rc5 v3 v4)) (fun _ _ => Y_none) (fun rc5 hrc5 v3 v4 => ?_) 5000 v1 v2
  refine x_iload F dX12_asksOn_6 rfl rfl ?_
  refine x_aload_n F dX12_asksOn_8 rfl rfl rfl ?_
  refine x_iload_n F dX12_asksOn_9 rfl rfl rfl ?_
  refine x_iload_n F dX12_asksOn_10 rfl rfl rfl ?_
  refine s_callVP F [vI a1, vI a2] [vI v4] lkX12_291 mX12_longOf rfl ha0 rfl hnE hn0 hd pX12_longOf (tX12_longOf cx.l x hi G a0 a1 a2 ha0) rfl rfl dX12_asksOn_11 rfl rfl (fun v6 => ?_)
  refine x_icmpge (pt := 42) F dX12_asksOn_14 rfl rfl ?_ ?_
  · refine x_aload_n F dX12_asksOn_17 rfl rfl rfl ?_
    refine x_iload_n F dX12_asksOn_18 rfl rfl rfl ?_
    refine x_iload_n F dX12_asksOn_19 rfl rfl rfl ?_
    refine x_iload_n F dX12_asksOn_20 rfl rfl rfl ?_
    refine x_iload F dX12_asksOn_21 rfl rfl ?_
    refine x_aload_n F dX12_asksOn_23 rfl rfl rfl ?_
    refine x_iload_n F dX12_asksOn_24 rfl rfl rfl ?_
    refine x_iload_n F dX12_asksOn_25 rfl rfl rfl ?_
    refine x_iload F dX12_asksOn_26 rfl rfl ?_
    refine s_callVP F [vI a1, vI a2, vI v4] [vI v3, vI a3, vI a2, vI a1, vR a0] lkX12_294 mX12_listedOf rfl ha0 rfl hnE hn0 hd pX12_listedOf (tX12_listedOf cx.l x hi G a0 a1 a2 v4 ha0) rfl rfl dX12_asksOn_28 rfl rfl (fun v15 => ?_)
    refine s_callVP F [vI a1, vI a2, vI a3, vI v3, vI v15] [] lkX12_300 mX12_farther rfl ha0 rfl hnE hn0 hd pX12_farther (tX12_farther cx.l x hi G a0 a1 a2 a3 v3 v15 ha0) rfl rfl dX12_asksOn_31 rfl rfl (fun v16 => ?_)
    refine x_istore F dX12_asksOn_34 (by decide) rfl rfl (fun v17 => ?_)
    show Y cx x _ _ _ _ [(0, vR a0), (1, vI a1), (2, vI a2), (3, vI a3), (4, vI v17), (5, vI v4)] _ _ _
    refine x_iinc F dX12_asksOn_36 rfl (by decide) rfl rfl (fun v18 => ?_)
    show Y cx x _ _ _ _ [(0, vR a0), (1, vI a1), (2, vI a2), (3, vI a3), (4, vI v17), (5, vI v18)] _ _ _
    refine x_goto (pc' := 6) F dX12_asksOn_39 rfl ?_
    exact hrc5 v17 v18
  · refine x_iconst F dX12_asksOn_42 ⟨by decide, by decide⟩ rfl ?_
    refine x_istore F dX12_asksOn_43 (by decide) rfl rfl (fun v7 => ?_)
    show Y cx x _ _ _ _ [(0, vR a0), (1, vI a1), (2, vI a2), (3, vI a3), (4, vI v3), (5, vI v7)] _ _ _
    refine x_lp (fun (rc10 : Int → Int → RT) => ∀ (v8 : Int) (v9 : Int), Y cx x 6 (some .int) 129 45 [(0, vR a0), (1, vI a1), (2, vI a2), (3, vI a3), (4, vI v8), (5, vI v9)] [] G (rc10 v8 v9)) (fun _ _ => Y_none) (fun rc10 hrc10 v8 v9 => ?_) 5000 v3 v7
    refine x_iload F dX12_asksOn_45 rfl rfl ?_
    refine x_bipush F dX12_asksOn_47 ⟨by decide, by decide⟩ (by decide) rfl ?_
    refine x_icmpge (pt := 77) F dX12_asksOn_49 rfl rfl ?_ ?_
    · refine x_aload_n F dX12_asksOn_52 rfl rfl rfl ?_
      refine x_iload_n F dX12_asksOn_53 rfl rfl rfl ?_
      refine x_iload_n F dX12_asksOn_54 rfl rfl rfl ?_
      refine x_iload_n F dX12_asksOn_55 rfl rfl rfl ?_
      refine x_iload F dX12_asksOn_56 rfl rfl ?_
      refine x_aload_n F dX12_asksOn_58 rfl rfl rfl ?_
      refine x_iload_n F dX12_asksOn_59 rfl rfl rfl ?_
      refine x_iload_n F dX12_asksOn_60 rfl rfl rfl ?_
      refine x_iload F dX12_asksOn_61 rfl rfl ?_
      refine s_callVP F [vI a1, vI a2, vI v9] [vI v8, vI a3, vI a2, vI a1, vR a0] lkX12_304 mX12_fingerOf rfl ha0 rfl hnE hn0 hd pX12_fingerOf (tX12_fingerOf cx.l x hi G a0 a1 a2 v9 ha0) rfl rfl dX12_asksOn_63 rfl rfl (fun v11 => ?_)
      refine s_callVP F [vI a1, vI a2, vI a3, vI v8, vI v11] [] lkX12_300 mX12_farther rfl ha0 rfl hnE hn0 hd pX12_farther (tX12_farther cx.l x hi G a0 a1 a2 a3 v8 v11 ha0) rfl rfl dX12_asksOn_66 rfl rfl (fun v12 => ?_)
      refine x_istore F dX12_asksOn_69 (by decide) rfl rfl (fun v13 => ?_)
      show Y cx x _ _ _ _ [(0, vR a0), (1, vI a1), (2, vI a2), (3, vI a3), (4, vI v13), (5, vI v9)] _ _ _
      refine x_iinc F dX12_asksOn_71 rfl (by decide) rfl rfl (fun v14 => ?_)
      show Y cx x _ _ _ _ [(0, vR a0), (1, vI a1), (2, vI a2), (3, vI a3), (4, vI v13), (5, vI v14)] _ _ _
      refine x_goto (pc' := 45) F dX12_asksOn_74 rfl ?_
      exact hrc10 v13 v14
    · refine x_iload F dX12_asksOn_77 rfl rfl ?_
      exact x_iret F hnE hQ dX12_asksOn_79
theorem dX12_tidied_0 : decode cX12_tidied 0 = .ok (.aload_n 0, 1) := by decide +kernel
theorem dX12_tidied_1 : decode cX12_tidied 1 = .ok (.iload_n 1, 1) := by decide +kernel
theorem dX12_tidied_2 : decode cX12_tidied 2 = .ok (.iload_n 2, 1) := by decide +kernel
theorem dX12_tidied_3 : decode cX12_tidied 3 = .ok (.invokevirtual 278, 3) := by decide +kernel
theorem dX12_tidied_6 : decode cX12_tidied 6 = .ok (.ifCond .eq 12, 3) := by decide +kernel
theorem dX12_tidied_9 : decode cX12_tidied 9 = .ok (.aload_n 0, 1) := by decide +kernel
theorem dX12_tidied_10 : decode cX12_tidied 10 = .ok (.iload_n 1, 1) := by decide +kernel
theorem dX12_tidied_11 : decode cX12_tidied 11 = .ok (.iload_n 2, 1) := by decide +kernel
theorem dX12_tidied_12 : decode cX12_tidied 12 = .ok (.invokevirtual 310, 3) := by decide +kernel
theorem dX12_tidied_15 : decode cX12_tidied 15 = .ok (.goto 4, 3) := by decide +kernel
theorem dX12_tidied_18 : decode cX12_tidied 18 = .ok (.iconst (-1), 1) := by decide +kernel
theorem dX12_tidied_19 : decode cX12_tidied 19 = .ok (.istore_n 3, 1) := by decide +kernel
theorem dX12_tidied_20 : decode cX12_tidied 20 = .ok (.iload_n 3, 1) := by decide +kernel
theorem dX12_tidied_21 : decode cX12_tidied 21 = .ok (.ifCond .ge 5, 3) := by decide +kernel
theorem dX12_tidied_24 : decode cX12_tidied 24 = .ok (.iconst (-1), 1) := by decide +kernel
theorem dX12_tidied_25 : decode cX12_tidied 25 = .ok (.ireturn, 1) := by decide +kernel
theorem dX12_tidied_26 : decode cX12_tidied 26 = .ok (.aload_n 0, 1) := by decide +kernel
theorem dX12_tidied_27 : decode cX12_tidied 27 = .ok (.iload_n 1, 1) := by decide +kernel
theorem dX12_tidied_28 : decode cX12_tidied 28 = .ok (.iload_n 3, 1) := by decide +kernel
theorem dX12_tidied_29 : decode cX12_tidied 29 = .ok (.invokevirtual 343, 3) := by decide +kernel
theorem dX12_tidied_32 : decode cX12_tidied 32 = .ok (.istore 4, 2) := by decide +kernel
theorem dX12_tidied_34 : decode cX12_tidied 34 = .ok (.aload_n 0, 1) := by decide +kernel
theorem dX12_tidied_35 : decode cX12_tidied 35 = .ok (.iload_n 1, 1) := by decide +kernel
theorem dX12_tidied_36 : decode cX12_tidied 36 = .ok (.iload 4, 2) := by decide +kernel
theorem dX12_tidied_38 : decode cX12_tidied 38 = .ok (.invokevirtual 278, 3) := by decide +kernel
theorem dX12_tidied_41 : decode cX12_tidied 41 = .ok (.ifCond .eq 24, 3) := by decide +kernel
theorem dX12_tidied_44 : decode cX12_tidied 44 = .ok (.aload_n 0, 1) := by decide +kernel
theorem dX12_tidied_45 : decode cX12_tidied 45 = .ok (.iload_n 2, 1) := by decide +kernel
theorem dX12_tidied_46 : decode cX12_tidied 46 = .ok (.iload 4, 2) := by decide +kernel
theorem dX12_tidied_48 : decode cX12_tidied 48 = .ok (.invokevirtual 297, 3) := by decide +kernel
theorem dX12_tidied_51 : decode cX12_tidied 51 = .ok (.aload_n 0, 1) := by decide +kernel
theorem dX12_tidied_52 : decode cX12_tidied 52 = .ok (.iload_n 2, 1) := by decide +kernel
theorem dX12_tidied_53 : decode cX12_tidied 53 = .ok (.iload_n 3, 1) := by decide +kernel
theorem dX12_tidied_54 : decode cX12_tidied 54 = .ok (.invokevirtual 297, 3) := by decide +kernel
theorem dX12_tidied_57 : decode cX12_tidied 57 = .ok (.if_icmp .ge 8, 3) := by decide +kernel
theorem dX12_tidied_60 : decode cX12_tidied 60 = .ok (.iload 4, 2) := by decide +kernel
theorem dX12_tidied_62 : decode cX12_tidied 62 = .ok (.goto 4, 3) := by decide +kernel
theorem dX12_tidied_65 : decode cX12_tidied 65 = .ok (.iload_n 3, 1) := by decide +kernel
theorem dX12_tidied_66 : decode cX12_tidied 66 = .ok (.istore 5, 2) := by decide +kernel
theorem dX12_tidied_68 : decode cX12_tidied 68 = .ok (.aload_n 0, 1) := by decide +kernel
theorem dX12_tidied_69 : decode cX12_tidied 69 = .ok (.iload_n 1, 1) := by decide +kernel
theorem dX12_tidied_70 : decode cX12_tidied 70 = .ok (.iload_n 2, 1) := by decide +kernel
theorem dX12_tidied_71 : decode cX12_tidied 71 = .ok (.iload 5, 2) := by decide +kernel
theorem dX12_tidied_73 : decode cX12_tidied 73 = .ok (.invokevirtual 328, 3) := by decide +kernel
theorem dX12_tidied_76 : decode cX12_tidied 76 = .ok (.aload_n 0, 1) := by decide +kernel
theorem dX12_tidied_77 : decode cX12_tidied 77 = .ok (.iload_n 1, 1) := by decide +kernel
theorem dX12_tidied_78 : decode cX12_tidied 78 = .ok (.iload 5, 2) := by decide +kernel
theorem dX12_tidied_80 : decode cX12_tidied 80 = .ok (.invokevirtual 343, 3) := by decide +kernel
theorem dX12_tidied_83 : decode cX12_tidied 83 = .ok (.istore 6, 2) := by decide +kernel
theorem dX12_tidied_85 : decode cX12_tidied 85 = .ok (.iload 5, 2) := by decide +kernel
theorem dX12_tidied_87 : decode cX12_tidied 87 = .ok (.iload_n 2, 1) := by decide +kernel
theorem dX12_tidied_88 : decode cX12_tidied 88 = .ok (.if_icmp .eq 55, 3) := by decide +kernel
theorem dX12_tidied_91 : decode cX12_tidied 91 = .ok (.aload_n 0, 1) := by decide +kernel
theorem dX12_tidied_92 : decode cX12_tidied 92 = .ok (.iload_n 1, 1) := by decide +kernel
theorem dX12_tidied_93 : decode cX12_tidied 93 = .ok (.iload 6, 2) := by decide +kernel
theorem dX12_tidied_95 : decode cX12_tidied 95 = .ok (.invokevirtual 278, 3) := by decide +kernel
theorem dX12_tidied_98 : decode cX12_tidied 98 = .ok (.ifCond .eq 21, 3) := by decide +kernel
theorem dX12_tidied_101 : decode cX12_tidied 101 = .ok (.aload_n 0, 1) := by decide +kernel
theorem dX12_tidied_102 : decode cX12_tidied 102 = .ok (.iload 6, 2) := by decide +kernel
theorem dX12_tidied_104 : decode cX12_tidied 104 = .ok (.iload_n 2, 1) := by decide +kernel
theorem dX12_tidied_105 : decode cX12_tidied 105 = .ok (.invokevirtual 297, 3) := by decide +kernel
theorem dX12_tidied_108 : decode cX12_tidied 108 = .ok (.aload_n 0, 1) := by decide +kernel
theorem dX12_tidied_109 : decode cX12_tidied 109 = .ok (.iload 6, 2) := by decide +kernel
theorem dX12_tidied_111 : decode cX12_tidied 111 = .ok (.iload 5, 2) := by decide +kernel
theorem dX12_tidied_113 : decode cX12_tidied 113 = .ok (.invokevirtual 297, 3) := by decide +kernel
theorem dX12_tidied_116 : decode cX12_tidied 116 = .ok (.if_icmp .ge 27, 3) := by decide +kernel
theorem dX12_tidied_119 : decode cX12_tidied 119 = .ok (.aload_n 0, 1) := by decide +kernel
theorem dX12_tidied_120 : decode cX12_tidied 120 = .ok (.getfield 105, 3) := by decide +kernel
theorem dX12_tidied_123 : decode cX12_tidied 123 = .ok (.iload_n 1, 1) := by decide +kernel
theorem dX12_tidied_124 : decode cX12_tidied 124 = .ok (.bipush 15, 2) := by decide +kernel
theorem dX12_tidied_126 : decode cX12_tidied 126 = .ok (.iload 5, 2) := by decide +kernel
theorem dX12_tidied_128 : decode cX12_tidied 128 = .ok (.imul, 1) := by decide +kernel
theorem dX12_tidied_129 : decode cX12_tidied 129 = .ok (.iadd, 1) := by decide +kernel
theorem dX12_tidied_130 : decode cX12_tidied 130 = .ok (.bipush 6, 2) := by decide +kernel
theorem dX12_tidied_132 : decode cX12_tidied 132 = .ok (.iadd, 1) := by decide +kernel
theorem dX12_tidied_133 : decode cX12_tidied 133 = .ok (.iload_n 2, 1) := by decide +kernel
theorem dX12_tidied_134 : decode cX12_tidied 134 = .ok (.iastore, 1) := by decide +kernel
theorem dX12_tidied_135 : decode cX12_tidied 135 = .ok (.aload_n 0, 1) := by decide +kernel
theorem dX12_tidied_136 : decode cX12_tidied 136 = .ok (.iload_n 1, 1) := by decide +kernel
theorem dX12_tidied_137 : decode cX12_tidied 137 = .ok (.iload 5, 2) := by decide +kernel
theorem dX12_tidied_139 : decode cX12_tidied 139 = .ok (.iload_n 2, 1) := by decide +kernel
theorem dX12_tidied_140 : decode cX12_tidied 140 = .ok (.invokevirtual 346, 3) := by decide +kernel
theorem dX12_tidied_143 : decode cX12_tidied 143 = .ok (.iload 5, 2) := by decide +kernel
theorem dX12_tidied_145 : decode cX12_tidied 145 = .ok (.ireturn, 1) := by decide +kernel
def fX12_tidied (a0 : Nat) (a1 : Int) (a2 : Int) (G : Hp) : RT := bp (fX12_isIn a0 a1 a2 G) fun v1 => jn (fun (v2 : Int) => bd v2 fun v4 => if v4 < 0 then (rt ((-1)) G) else (bp (fX12_aheadOf a0 a1 v4 G) fun v5 => bd v5 fun v6 => bp (fX12_isIn a0 a1 v6 G) fun v7 => jn (fun (v8 : Int) => bd v8 fun v10 => bn (fX12_lists a0 a1 a2 v10 G) fun _ G11 => bp (fX12_aheadOf a0 a1 v10 G11) fun v12 => bd v12 fun v13 => if v10 = a2 then rt v10 G11 else (bp (fX12_isIn a0 a1 v13 G11) fun v14 => jn (bs (wr G11 ((rf a0 17)) 3565 (iadd (iadd a1 (imul 15 v10)) 6) a2) fun G16 => bn (fX12_handsBack a0 a1 v10 a2 G16) fun _ G17 => rt v10 G17) fun (K15 : RT) => if v14 = 0 then K15 else (bp (fX12_wayTo a0 v13 a2 G11) fun v19 => bp (fX12_wayTo a0 v13 v10 G11) fun v20 => if v19 < v20 then K15 else rt v10 G11))) fun (K9 : Int → RT) => jn (K9 v4) fun (K22 : RT) => if v7 = 0 then K22 else (bp (fX12_wayTo a0 a2 v6 G) fun v23 => bp (fX12_wayTo a0 a2 v4 G) fun v24 => if v23 < v24 then K9 v6 else K22))) fun (K3 : Int → RT) => if v1 = 0 then (K3 ((-1))) else (bp (fX12_firstOf a0 a1 a2 G) fun v25 => K3 v25)
set_option maxRecDepth 20000 in
set_option maxHeartbeats 4000000 in
theorem tX12_tidied (l : Launch) (x : WX) (hi : Inj x.2.2) (G : Hp) (a0 : Nat) (a1 : Int) (a2 : Int) (ha0 : kd a0 = 12) : Ct l x yX12_tidied cX12_tidied 7 (some .int) 4 129 129 [vR a0, vI a1, vI a2] G (fX12_tidied a0 a1 a2 G) := by
  refine ct_of (plainFor_of_name (by decide)) hi (Nat.le_refl _) (Nat.le_refl _) (Nat.le_of_ble_eq_true rfl) (fun cx F hd hn0 hnE hl hQ => ?_)
  subst hl
  have F : Fx cx x RX12 cX12_tidied 7 (some .int) := F
  show Y cx x 7 (some .int) 129 0 [(0, vR a0), (1, vI a1), (2, vI a2)] [] G _
  unfold fX12_tidied
  refine x_aload_n F dX12_tidied_0 rfl rfl rfl ?_
  refine x_iload_n F dX12_tidied_1 rfl rfl rfl ?_
  refine x_iload_n F dX12_tidied_2 rfl rfl rfl ?_
  refine s_callVP F [vI a1, vI a2] [] lkX12_278 mX12_isIn rfl ha0 rfl hnE hn0 hd pX12_isIn (tX12_isIn cx.l x hi G a0 a1 a2 ha0) rfl rfl dX12_tidied_3 rfl rfl (fun v1 => ?_)
  refine x_jn (fun (K3 : Int → RT) => ∀ (v2 : Int), Y cx x 7 (some .int) 129 19 [(0, vR a0), (1, vI a1), (2, vI a2)] [vI v2] G (K3 v2)) ?_ (fun K3 hK3 => ?_)
  · intro v2
    refine x_istore_n F dX12_tidied_19 rfl (by decide) rfl rfl (fun v4 => ?_)
    show Y cx x _ _ _ _ [(0, vR a0), (1, vI a1), (2, vI a2), (3, vI v4)] _ _ _
    refine x_iload_n F dX12_tidied_20 rfl rfl rfl ?_
    refine x_ifge (pt := 26) F dX12_tidied_21 rfl rfl ?_ ?_
    · refine x_iconst F dX12_tidied_24 ⟨by decide, by decide⟩ rfl ?_
      exact x_iret F hnE hQ dX12_tidied_25
    · refine x_aload_n F dX12_tidied_26 rfl rfl rfl ?_
      refine x_iload_n F dX12_tidied_27 rfl rfl rfl ?_
      refine x_iload_n F dX12_tidied_28 rfl rfl rfl ?_
      refine s_callVP F [vI a1, vI v4] [] lkX12_343 mX12_aheadOf rfl ha0 rfl hnE hn0 hd pX12_aheadOf (tX12_aheadOf cx.l x hi G a0 a1 v4 ha0) rfl rfl dX12_tidied_29 rfl rfl (fun v5 => ?_)
      refine x_istore F dX12_tidied_32 (by decide) rfl rfl (fun v6 => ?_)
      show Y cx x _ _ _ _ [(0, vR a0), (1, vI a1), (2, vI a2), (3, vI v4), (4, vI v6)] _ _ _
      refine x_aload_n F dX12_tidied_34 rfl rfl rfl ?_
      refine x_iload_n F dX12_tidied_35 rfl rfl rfl ?_
      refine x_iload F dX12_tidied_36 rfl rfl ?_
      refine s_callVP F [vI a1, vI v6] [] lkX12_278 mX12_isIn rfl ha0 rfl hnE hn0 hd pX12_isIn (tX12_isIn cx.l x hi G a0 a1 v6 ha0) rfl rfl dX12_tidied_38 rfl rfl (fun v7 => ?_)
      refine x_jn (fun (K9 : Int → RT) => ∀ (v8 : Int), Y cx x 7 (some .int) 129 66 [(0, vR a0), (1, vI a1), (2, vI a2)] [vI v8] G (K9 v8)) ?_ (fun K9 hK9 => ?_)
      · intro v8
        refine x_istore F dX12_tidied_66 (by decide) rfl rfl (fun v10 => ?_)
        show Y cx x _ _ _ _ [(0, vR a0), (1, vI a1), (2, vI a2), (5, vI v10)] _ _ _
        refine x_aload_n F dX12_tidied_68 rfl rfl rfl ?_
        refine x_iload_n F dX12_tidied_69 rfl rfl rfl ?_
        refine x_iload_n F dX12_tidied_70 rfl rfl rfl ?_
        refine x_iload F dX12_tidied_71 rfl rfl ?_
        refine s_callVv F [vI a1, vI a2, vI v10] [] lkX12_328 mX12_lists rfl ha0 rfl hnE hn0 hd (tX12_lists cx.l x hi G a0 a1 a2 v10 ha0) rfl rfl dX12_tidied_73 rfl rfl (fun _ G11 => ?_)
        refine x_aload_n F dX12_tidied_76 rfl rfl rfl ?_
        refine x_iload_n F dX12_tidied_77 rfl rfl rfl ?_
        refine x_iload F dX12_tidied_78 rfl rfl ?_
        refine s_callVP F [vI a1, vI v10] [] lkX12_343 mX12_aheadOf rfl ha0 rfl hnE hn0 hd pX12_aheadOf (tX12_aheadOf cx.l x hi G11 a0 a1 v10 ha0) rfl rfl dX12_tidied_80 rfl rfl (fun v12 => ?_)
        refine x_istore F dX12_tidied_83 (by decide) rfl rfl (fun v13 => ?_)
        show Y cx x _ _ _ _ [(0, vR a0), (1, vI a1), (2, vI a2), (5, vI v10), (6, vI v13)] _ _ _
        refine x_iload F dX12_tidied_85 rfl rfl ?_
        refine x_iload_n F dX12_tidied_87 rfl rfl rfl ?_
        refine x_icmpeq (pt := 143) F dX12_tidied_88 rfl rfl ?_ ?_
        · refine x_iload F dX12_tidied_143 rfl rfl ?_
          exact x_iret F hnE hQ dX12_tidied_145
        · refine x_aload_n F dX12_tidied_91 rfl rfl rfl ?_
          refine x_iload_n F dX12_tidied_92 rfl rfl rfl ?_
          refine x_iload F dX12_tidied_93 rfl rfl ?_
          refine s_callVP F [vI a1, vI v13] [] lkX12_278 mX12_isIn rfl ha0 rfl hnE hn0 hd pX12_isIn (tX12_isIn cx.l x hi G11 a0 a1 v13 ha0) rfl rfl dX12_tidied_95 rfl rfl (fun v14 => ?_)
          refine x_jn (fun (K15 : RT) => Y cx x 7 (some .int) 129 119 [(0, vR a0), (1, vI a1), (2, vI a2), (5, vI v10)] [] G11 K15) ?_ (fun K15 hK15 => ?_)
          · refine x_aload_n F dX12_tidied_119 rfl rfl rfl ?_
            refine x_getR F flX12_105 ha0 rfl dX12_tidied_120 rfl ?_
            refine x_iload_n F dX12_tidied_123 rfl rfl rfl ?_
            refine x_bipush F dX12_tidied_124 ⟨by decide, by decide⟩ (by decide) rfl ?_
            refine x_iload F dX12_tidied_126 rfl rfl ?_
            refine x_imul F dX12_tidied_128 rfl ?_
            refine x_iadd F dX12_tidied_129 rfl ?_
            refine x_bipush F dX12_tidied_130 ⟨by decide, by decide⟩ (by decide) rfl ?_
            refine x_iadd F dX12_tidied_132 rfl ?_
            refine x_iload_n F dX12_tidied_133 rfl rfl rfl ?_
            refine s_iast F (tf12_17 ha0).1 (tf12_17 ha0).2 dX12_tidied_134 rfl (fun G16 => ?_)
            refine x_aload_n F dX12_tidied_135 rfl rfl rfl ?_
            refine x_iload_n F dX12_tidied_136 rfl rfl rfl ?_
            refine x_iload F dX12_tidied_137 rfl rfl ?_
            refine x_iload_n F dX12_tidied_139 rfl rfl rfl ?_
            refine s_callVv F [vI a1, vI v10, vI a2] [] lkX12_346 mX12_handsBack rfl ha0 rfl hnE hn0 hd (tX12_handsBack cx.l x hi G16 a0 a1 v10 a2 ha0) rfl rfl dX12_tidied_140 rfl rfl (fun _ G17 => ?_)
            refine x_iload F dX12_tidied_143 rfl rfl ?_
            exact x_iret F hnE hQ dX12_tidied_145
          · refine x_ifeq (pt := 119) F dX12_tidied_98 rfl rfl ?_ ?_
            · refine x_dp (L' := [(0, vR a0), (1, vI a1), (2, vI a2), (5, vI v10)]) [0, 1, 2, 3] rfl ?_
              exact hK15
            · refine x_aload_n F dX12_tidied_101 rfl rfl rfl ?_
              refine x_iload F dX12_tidied_102 rfl rfl ?_
              refine x_iload_n F dX12_tidied_104 rfl rfl rfl ?_
              refine s_callVP F [vI v13, vI a2] [] lkX12_297 mX12_wayTo rfl ha0 rfl hnE hn0 hd pX12_wayTo (tX12_wayTo cx.l x hi G11 a0 v13 a2 ha0) rfl rfl dX12_tidied_105 rfl rfl (fun v19 => ?_)
              refine x_aload_n F dX12_tidied_108 rfl rfl rfl ?_
              refine x_iload F dX12_tidied_109 rfl rfl ?_
              refine x_iload F dX12_tidied_111 rfl rfl ?_
              refine s_callVP F [vI v13, vI v10] [vI v19] lkX12_297 mX12_wayTo rfl ha0 rfl hnE hn0 hd pX12_wayTo (tX12_wayTo cx.l x hi G11 a0 v13 v10 ha0) rfl rfl dX12_tidied_113 rfl rfl (fun v20 => ?_)
              refine x_icmpge (pt := 143) F dX12_tidied_116 rfl rfl ?_ ?_
              · refine x_dp (L' := [(0, vR a0), (1, vI a1), (2, vI a2), (5, vI v10)]) [0, 1, 2, 3] rfl ?_
                exact hK15
              · refine x_iload F dX12_tidied_143 rfl rfl ?_
                exact x_iret F hnE hQ dX12_tidied_145
      · refine x_jn (fun (K22 : RT) => Y cx x 7 (some .int) 129 65 [(0, vR a0), (1, vI a1), (2, vI a2), (3, vI v4)] [] G K22) ?_ (fun K22 hK22 => ?_)
        · refine x_iload_n F dX12_tidied_65 rfl rfl rfl ?_
          refine x_dp (L' := [(0, vR a0), (1, vI a1), (2, vI a2)]) [0, 1, 2] rfl ?_
          exact hK9 v4
        · refine x_ifeq (pt := 65) F dX12_tidied_41 rfl rfl ?_ ?_
          · refine x_dp (L' := [(0, vR a0), (1, vI a1), (2, vI a2), (3, vI v4)]) [0, 1, 2, 3] rfl ?_
            exact hK22
          · refine x_aload_n F dX12_tidied_44 rfl rfl rfl ?_
            refine x_iload_n F dX12_tidied_45 rfl rfl rfl ?_
            refine x_iload F dX12_tidied_46 rfl rfl ?_
            refine s_callVP F [vI a2, vI v6] [] lkX12_297 mX12_wayTo rfl ha0 rfl hnE hn0 hd pX12_wayTo (tX12_wayTo cx.l x hi G a0 a2 v6 ha0) rfl rfl dX12_tidied_48 rfl rfl (fun v23 => ?_)
            refine x_aload_n F dX12_tidied_51 rfl rfl rfl ?_
            refine x_iload_n F dX12_tidied_52 rfl rfl rfl ?_
            refine x_iload_n F dX12_tidied_53 rfl rfl rfl ?_
            refine s_callVP F [vI a2, vI v4] [vI v23] lkX12_297 mX12_wayTo rfl ha0 rfl hnE hn0 hd pX12_wayTo (tX12_wayTo cx.l x hi G a0 a2 v4 ha0) rfl rfl dX12_tidied_54 rfl rfl (fun v24 => ?_)
            refine x_icmpge (pt := 65) F dX12_tidied_57 rfl rfl ?_ ?_
            · refine x_iload F dX12_tidied_60 rfl rfl ?_
              refine x_goto (pc' := 66) F dX12_tidied_62 rfl ?_
              refine x_dp (L' := [(0, vR a0), (1, vI a1), (2, vI a2)]) [0, 1, 2] rfl ?_
              exact hK9 v6
            · refine x_dp (L' := [(0, vR a0), (1, vI a1), (2, vI a2), (3, vI v4)]) [0, 1, 2, 3] rfl ?_
              exact hK22
  · refine x_ifeq (pt := 18) F dX12_tidied_6 rfl rfl ?_ ?_
    · refine x_iconst F dX12_tidied_18 ⟨by decide, by decide⟩ rfl ?_
      exact hK3 ((-1))
    · refine x_aload_n F dX12_tidied_9 rfl rfl rfl ?_
      refine x_iload_n F dX12_tidied_10 rfl rfl rfl ?_
      refine x_iload_n F dX12_tidied_11 rfl rfl rfl ?_
      refine s_callVP F [vI a1, vI a2] [] lkX12_310 mX12_firstOf rfl ha0 rfl hnE hn0 hd pX12_firstOf (tX12_firstOf cx.l x hi G a0 a1 a2 ha0) rfl rfl dX12_tidied_12 rfl rfl (fun v25 => ?_)
      refine x_goto (pc' := 19) F dX12_tidied_15 rfl ?_
      exact hK3 v25
