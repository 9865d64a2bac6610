theorem dX12_greatestGroup_0 : decode cX12_greatestGroup 0 = .ok (.iconst 0, 1) := by decide +kernel
theorem dX12_greatestGroup_1 : decode cX12_greatestGroup 1 = .ok (.istore_n 3, 1) := by decide +kernel
theorem dX12_greatestGroup_2 : decode cX12_greatestGroup 2 = .ok (.iconst 0, 1) := by decide +kernel
theorem dX12_greatestGroup_3 : decode cX12_greatestGroup 3 = .ok (.istore 4, 2) := by decide +kernel
theorem dX12_greatestGroup_5 : decode cX12_greatestGroup 5 = .ok (.iload 4, 2) := by decide +kernel
theorem dX12_greatestGroup_7 : decode cX12_greatestGroup 7 = .ok (.bipush 22, 2) := by decide +kernel
theorem dX12_greatestGroup_9 : decode cX12_greatestGroup 9 = .ok (.if_icmp .ge 17, 3) := by decide +kernel
theorem dX12_greatestGroup_12 : decode cX12_greatestGroup 12 = .ok (.aload_n 0, 1) := by decide +kernel
theorem dX12_greatestGroup_13 : decode cX12_greatestGroup 13 = .ok (.getfield 121, 3) := by decide +kernel
theorem dX12_greatestGroup_16 : decode cX12_greatestGroup 16 = .ok (.iload 4, 2) := by decide +kernel
theorem dX12_greatestGroup_18 : decode cX12_greatestGroup 18 = .ok (.iconst 0, 1) := by decide +kernel
theorem dX12_greatestGroup_19 : decode cX12_greatestGroup 19 = .ok (.iastore, 1) := by decide +kernel
theorem dX12_greatestGroup_20 : decode cX12_greatestGroup 20 = .ok (.iinc 4 1, 3) := by decide +kernel
theorem dX12_greatestGroup_23 : decode cX12_greatestGroup 23 = .ok (.goto (-18), 3) := by decide +kernel
theorem dX12_greatestGroup_26 : decode cX12_greatestGroup 26 = .ok (.iconst 0, 1) := by decide +kernel
theorem dX12_greatestGroup_27 : decode cX12_greatestGroup 27 = .ok (.istore 4, 2) := by decide +kernel
theorem dX12_greatestGroup_29 : decode cX12_greatestGroup 29 = .ok (.iload 4, 2) := by decide +kernel
theorem dX12_greatestGroup_31 : decode cX12_greatestGroup 31 = .ok (.aload_n 0, 1) := by decide +kernel
theorem dX12_greatestGroup_32 : decode cX12_greatestGroup 32 = .ok (.invokevirtual 236, 3) := by decide +kernel
theorem dX12_greatestGroup_35 : decode cX12_greatestGroup 35 = .ok (.if_icmp .ge 65, 3) := by decide +kernel
theorem dX12_greatestGroup_38 : decode cX12_greatestGroup 38 = .ok (.iload_n 1, 1) := by decide +kernel
theorem dX12_greatestGroup_39 : decode cX12_greatestGroup 39 = .ok (.iload 4, 2) := by decide +kernel
theorem dX12_greatestGroup_41 : decode cX12_greatestGroup 41 = .ok (.ishr, 1) := by decide +kernel
theorem dX12_greatestGroup_42 : decode cX12_greatestGroup 42 = .ok (.iconst 1, 1) := by decide +kernel
theorem dX12_greatestGroup_43 : decode cX12_greatestGroup 43 = .ok (.iand, 1) := by decide +kernel
theorem dX12_greatestGroup_44 : decode cX12_greatestGroup 44 = .ok (.iconst 1, 1) := by decide +kernel
theorem dX12_greatestGroup_45 : decode cX12_greatestGroup 45 = .ok (.if_icmp .ne 49, 3) := by decide +kernel
theorem dX12_greatestGroup_48 : decode cX12_greatestGroup 48 = .ok (.iconst 1, 1) := by decide +kernel
theorem dX12_greatestGroup_49 : decode cX12_greatestGroup 49 = .ok (.aload_n 0, 1) := by decide +kernel
theorem dX12_greatestGroup_50 : decode cX12_greatestGroup 50 = .ok (.iconst 0, 1) := by decide +kernel
theorem dX12_greatestGroup_51 : decode cX12_greatestGroup 51 = .ok (.iload 4, 2) := by decide +kernel
theorem dX12_greatestGroup_53 : decode cX12_greatestGroup 53 = .ok (.iload_n 2, 1) := by decide +kernel
theorem dX12_greatestGroup_54 : decode cX12_greatestGroup 54 = .ok (.invokevirtual 423, 3) := by decide +kernel
theorem dX12_greatestGroup_57 : decode cX12_greatestGroup 57 = .ok (.iadd, 1) := by decide +kernel
theorem dX12_greatestGroup_58 : decode cX12_greatestGroup 58 = .ok (.istore 5, 2) := by decide +kernel
theorem dX12_greatestGroup_60 : decode cX12_greatestGroup 60 = .ok (.aload_n 0, 1) := by decide +kernel
theorem dX12_greatestGroup_61 : decode cX12_greatestGroup 61 = .ok (.getfield 121, 3) := by decide +kernel
theorem dX12_greatestGroup_64 : decode cX12_greatestGroup 64 = .ok (.iload 5, 2) := by decide +kernel
theorem dX12_greatestGroup_66 : decode cX12_greatestGroup 66 = .ok (.dup2, 1) := by decide +kernel
theorem dX12_greatestGroup_67 : decode cX12_greatestGroup 67 = .ok (.iaload, 1) := by decide +kernel
theorem dX12_greatestGroup_68 : decode cX12_greatestGroup 68 = .ok (.iconst 1, 1) := by decide +kernel
theorem dX12_greatestGroup_69 : decode cX12_greatestGroup 69 = .ok (.iadd, 1) := by decide +kernel
theorem dX12_greatestGroup_70 : decode cX12_greatestGroup 70 = .ok (.iastore, 1) := by decide +kernel
theorem dX12_greatestGroup_71 : decode cX12_greatestGroup 71 = .ok (.aload_n 0, 1) := by decide +kernel
theorem dX12_greatestGroup_72 : decode cX12_greatestGroup 72 = .ok (.getfield 121, 3) := by decide +kernel
theorem dX12_greatestGroup_75 : decode cX12_greatestGroup 75 = .ok (.iload 5, 2) := by decide +kernel
theorem dX12_greatestGroup_77 : decode cX12_greatestGroup 77 = .ok (.iaload, 1) := by decide +kernel
theorem dX12_greatestGroup_78 : decode cX12_greatestGroup 78 = .ok (.iload_n 3, 1) := by decide +kernel
theorem dX12_greatestGroup_79 : decode cX12_greatestGroup 79 = .ok (.if_icmp .le 13, 3) := by decide +kernel
theorem dX12_greatestGroup_82 : decode cX12_greatestGroup 82 = .ok (.aload_n 0, 1) := by decide +kernel
theorem dX12_greatestGroup_83 : decode cX12_greatestGroup 83 = .ok (.getfield 121, 3) := by decide +kernel
theorem dX12_greatestGroup_86 : decode cX12_greatestGroup 86 = .ok (.iload 5, 2) := by decide +kernel
theorem dX12_greatestGroup_88 : decode cX12_greatestGroup 88 = .ok (.iaload, 1) := by decide +kernel
theorem dX12_greatestGroup_89 : decode cX12_greatestGroup 89 = .ok (.goto 4, 3) := by decide +kernel
theorem dX12_greatestGroup_92 : decode cX12_greatestGroup 92 = .ok (.iload_n 3, 1) := by decide +kernel
theorem dX12_greatestGroup_93 : decode cX12_greatestGroup 93 = .ok (.istore_n 3, 1) := by decide +kernel
theorem dX12_greatestGroup_94 : decode cX12_greatestGroup 94 = .ok (.iinc 4 1, 3) := by decide +kernel
theorem dX12_greatestGroup_97 : decode cX12_greatestGroup 97 = .ok (.goto (-68), 3) := by decide +kernel
theorem dX12_greatestGroup_100 : decode cX12_greatestGroup 100 = .ok (.iload_n 3, 1) := by decide +kernel
theorem dX12_greatestGroup_101 : decode cX12_greatestGroup 101 = .ok (.ireturn, 1) := by decide +kernel
def fX12_greatestGroup (a0 : Nat) (a1 : Int) (a2 : Int) (G : Hp) : RT := bd 0 fun v1 => bd 0 fun v2 => (lp (fun (_ : Int) (_ : Hp) => (none : RT)) 5000 (fun (rc5 : Int → Hp → RT) (v3 : Int) (G4 : Hp) => if v3 < 22 then (bs (wr G4 ((rf a0 24)) 22 v3 0) fun G26 => bd (iadd v3 1) fun v27 => rc5 v27 G26) else (bd 0 fun v6 => (lp (fun (_ : Int) (_ : Int) (_ : Hp) => (none : RT)) 5000 (fun (rc10 : Int → Int → Hp → RT) (v7 : Int) (v8 : Int) (G9 : Hp) => bp (fX12_nodes a0 G9) fun v11 => if v8 < v11 then (jn (fun (v12 : Int) (G13 : Hp) => bd (iadd v8 1) fun v15 => rc10 v12 v15 G13) fun (K14 : Int → Hp → RT) => if (iand (ishr a1 v8) 1) = 1 then (bn (fX12_stepsTo a0 0 v8 a2 G9) fun v16 G17 => bd (iadd 1 v16) fun v18 => br (rd G17 ((rf a0 24)) 22 v18) fun v19 => bs (wr G17 ((rf a0 24)) 22 v18 (iadd v19 1)) fun G20 => br (rd G20 ((rf a0 24)) 22 v18) fun v21 => jn (fun (v22 : Int) => bd v22 fun v24 => K14 v24 G20) fun (K23 : Int → RT) => if v7 < v21 then (br (rd G20 ((rf a0 24)) 22 v18) fun v25 => K23 v25) else K23 v7) else K14 v7 G9) else rt v7 G9)) v1 v6 G4))) v2 G
set_option maxRecDepth 20000 in
set_option maxHeartbeats 4000000 in
theorem tX12_greatestGroup (l : Launch) (x : WX) (hi : Inj x.2.2) (G : Hp) (a0 : Nat) (a1 : Int) (a2 : Int) (ha0 : kd a0 = 12) : Ct l x yX12_greatestGroup cX12_greatestGroup 6 (some .int) 7 129 129 [vR a0, vI a1, vI a2] G (fX12_greatestGroup a0 a1 a2 G) := by
  refine ct_of (plainFor_of_name (by decide)) hi (Nat.le_refl _) (Nat.le_refl _) (Nat.le_of_ble_eq_true rfl) (fun cx F hd hn0 hnE hl hQ => ?_)
  subst hl
  have F : Fx cx x RX12 cX12_greatestGroup 6 (some .int) := F
  show Y cx x 6 (some .int) 129 0 [(0, vR a0), (1, vI a1), (2, vI a2)] [] G _
  unfold fX12_greatestGroup
  refine x_iconst F dX12_greatestGroup_0 ⟨by decide, by decide⟩ rfl ?_
  refine x_istore_n F dX12_greatestGroup_1 rfl (by decide) rfl rfl (fun v1 => ?_)
  show Y cx x _ _ _ _ [(0, vR a0), (1, vI a1), (2, vI a2), (3, vI v1)] _ _ _
  refine x_iconst F dX12_greatestGroup_2 ⟨by decide, by decide⟩ rfl ?_
  refine x_istore F dX12_greatestGroup_3 (by decide) rfl rfl (fun v2 => ?_)
  show Y cx x _ _ _ _ [(0, vR a0), (1, vI a1), (2, vI a2), (3, vI v1), (4, vI v2)] _ _ _
  refine x_lp (fun (rc5 : Int → Hp → RT) => ∀ (v3 : Int) (G4 : Hp), Y cx x 6 (some .int) 129 5 [(0, vR a0), (1, vI a1), (2, vI a2), (3, vI v1), (4, vI v3)] [] G4 (rc5 v3 G4)) (fun _ _ => Y_none) (fun rc5 hrc5 v3 G4 => ?_) 5000 v2 G
  refine x_iload F dX12_greatestGroup_5 rfl rfl ?_
  refine x_bipush F dX12_greatestGroup_7 ⟨by decide, by decide⟩ (by decide) rfl ?_
  refine x_icmpge (pt := 26) F dX12_greatestGroup_9 rfl rfl ?_ ?_
  · refine x_aload_n F dX12_greatestGroup_12 rfl rfl rfl ?_
    refine x_getR F flX12_121 ha0 rfl dX12_greatestGroup_13 rfl ?_
    refine x_iload F dX12_greatestGroup_16 rfl rfl ?_
    refine x_iconst F dX12_greatestGroup_18 ⟨by decide, by decide⟩ rfl ?_
    refine s_iast F (tf12_24 ha0).1 (tf12_24 ha0).2 dX12_greatestGroup_19 rfl (fun G26 => ?_)
    refine x_iinc F dX12_greatestGroup_20 rfl (by decide) rfl rfl (fun v27 => ?_)
    show Y cx x _ _ _ _ [(0, vR a0), (1, vI a1), (2, vI a2), (3, vI v1), (4, vI v27)] _ _ _
    refine x_goto (pc' := 5) F dX12_greatestGroup_23 rfl ?_
    exact hrc5 v27 G26
  · refine x_iconst F dX12_greatestGroup_26 ⟨by decide, by decide⟩ rfl ?_
    refine x_istore F dX12_greatestGroup_27 (by decide) rfl rfl (fun v6 => ?_)
    show Y cx x _ _ _ _ [(0, vR a0), (1, vI a1), (2, vI a2), (3, vI v1), (4, vI v6)] _ _ _
    refine x_lp (fun (rc10 : Int → Int → Hp → RT) => ∀ (v7 : Int) (v8 : Int) (G9 : Hp), Y cx x 6 (some .int) 129 29 [(0, vR a0), (1, vI a1), (2, vI a2), (3, vI v7), (4, vI v8)] [] G9 (rc10 v7 v8 G9)) (fun _ _ _ => Y_none) (fun rc10 hrc10 v7 v8 G9 => ?_) 5000 v1 v6 G4
    refine x_iload F dX12_greatestGroup_29 rfl rfl ?_
    refine x_aload_n F dX12_greatestGroup_31 rfl rfl rfl ?_
    refine s_callVP F [] [vI v8] lkX12_236 mX12_nodes rfl ha0 rfl hnE hn0 hd pX12_nodes (tX12_nodes cx.l x hi G9 a0 ha0) rfl rfl dX12_greatestGroup_32 rfl rfl (fun v11 => ?_)
    refine x_icmpge (pt := 100) F dX12_greatestGroup_35 rfl rfl ?_ ?_
    · refine x_iload_n F dX12_greatestGroup_38 rfl rfl rfl ?_
      refine x_iload F dX12_greatestGroup_39 rfl rfl ?_
      refine x_ishr F dX12_greatestGroup_41 rfl ?_
      refine x_iconst F dX12_greatestGroup_42 ⟨by decide, by decide⟩ rfl ?_
      refine x_iand F dX12_greatestGroup_43 rfl ?_
      refine x_iconst F dX12_greatestGroup_44 ⟨by decide, by decide⟩ rfl ?_
      refine x_jn (fun (K14 : Int → Hp → RT) => ∀ (v12 : Int) (G13 : Hp), Y cx x 6 (some .int) 129 94 [(0, vR a0), (1, vI a1), (2, vI a2), (3, vI v12), (4, vI v8)] [] G13 (K14 v12 G13)) ?_ (fun K14 hK14 => ?_)
      · intro v12 G13
        refine x_iinc F dX12_greatestGroup_94 rfl (by decide) rfl rfl (fun v15 => ?_)
        show Y cx x _ _ _ _ [(0, vR a0), (1, vI a1), (2, vI a2), (3, vI v12), (4, vI v15)] _ _ _
        refine x_goto (pc' := 29) F dX12_greatestGroup_97 rfl ?_
        exact hrc10 v12 v15 G13
      · refine x_icmpne (pt := 94) F dX12_greatestGroup_45 rfl rfl ?_ ?_
        · refine x_iconst F dX12_greatestGroup_48 ⟨by decide, by decide⟩ rfl ?_
          refine x_aload_n F dX12_greatestGroup_49 rfl rfl rfl ?_
          refine x_iconst F dX12_greatestGroup_50 ⟨by decide, by decide⟩ rfl ?_
          refine x_iload F dX12_greatestGroup_51 rfl rfl ?_
          refine x_iload_n F dX12_greatestGroup_53 rfl rfl rfl ?_
          refine s_callV F [vI 0, vI v8, vI a2] [vI 1] lkX12_423 mX12_stepsTo rfl ha0 rfl hnE hn0 hd (tX12_stepsTo cx.l x hi G9 a0 0 v8 a2 ha0) rfl rfl dX12_greatestGroup_54 rfl rfl (fun v16 G17 => ?_)
          refine x_iadd F dX12_greatestGroup_57 rfl ?_
          refine x_istore F dX12_greatestGroup_58 (by decide) rfl rfl (fun v18 => ?_)
          show Y cx x _ _ _ _ [(0, vR a0), (1, vI a1), (2, vI a2), (3, vI v7), (4, vI v8), (5, vI v18)] _ _ _
          refine x_aload_n F dX12_greatestGroup_60 rfl rfl rfl ?_
          refine x_getR F flX12_121 ha0 rfl dX12_greatestGroup_61 rfl ?_
          refine x_iload F dX12_greatestGroup_64 rfl rfl ?_
          refine x_dup2 F dX12_greatestGroup_66 rfl rfl rfl ?_
          refine s_iald F (tf12_24 ha0).1 (tf12_24 ha0).2 dX12_greatestGroup_67 rfl (fun v19 => ?_)
          refine x_iconst F dX12_greatestGroup_68 ⟨by decide, by decide⟩ rfl ?_
          refine x_iadd F dX12_greatestGroup_69 rfl ?_
          refine s_iast F (tf12_24 ha0).1 (tf12_24 ha0).2 dX12_greatestGroup_70 rfl (fun G20 => ?_)
          refine x_aload_n F dX12_greatestGroup_71 rfl rfl rfl ?_
          refine x_getR F flX12_121 ha0 rfl dX12_greatestGroup_72 rfl ?_
          refine x_iload F dX12_greatestGroup_75 rfl rfl ?_
          refine s_iald F (tf12_24 ha0).1 (tf12_24 ha0).2 dX12_greatestGroup_77 rfl (fun v21 => ?_)
          refine x_iload_n F dX12_greatestGroup_78 rfl rfl rfl ?_
          refine x_jn (fun (K23 : Int → RT) => ∀ (v22 : Int), Y cx x 6 (some .int) 129 93 [(0, vR a0), (1, vI a1), (2, vI a2), (4, vI v8)] [vI v22] G20 (K23 v22)) ?_ (fun K23 hK23 => ?_)
          · intro v22
            refine x_istore_n F dX12_greatestGroup_93 rfl (by decide) rfl rfl (fun v24 => ?_)
            show Y cx x _ _ _ _ [(0, vR a0), (1, vI a1), (2, vI a2), (4, vI v8), (3, vI v24)] _ _ _
            refine x_dp (L' := [(0, vR a0), (1, vI a1), (2, vI a2), (3, vI v24), (4, vI v8)]) [0, 1, 2, 4, 3] rfl ?_
            exact hK14 v24 G20
          · refine x_icmple (pt := 92) F dX12_greatestGroup_79 rfl rfl ?_ ?_
            · refine x_aload_n F dX12_greatestGroup_82 rfl rfl rfl ?_
              refine x_getR F flX12_121 ha0 rfl dX12_greatestGroup_83 rfl ?_
              refine x_iload F dX12_greatestGroup_86 rfl rfl ?_
              refine s_iald F (tf12_24 ha0).1 (tf12_24 ha0).2 dX12_greatestGroup_88 rfl (fun v25 => ?_)
              refine x_goto (pc' := 93) F dX12_greatestGroup_89 rfl ?_
              refine x_dp (L' := [(0, vR a0), (1, vI a1), (2, vI a2), (4, vI v8)]) [0, 1, 2, 4] rfl ?_
              exact hK23 v25
            · refine x_iload_n F dX12_greatestGroup_92 rfl rfl rfl ?_
              refine x_dp (L' := [(0, vR a0), (1, vI a1), (2, vI a2), (4, vI v8)]) [0, 1, 2, 4] rfl ?_
              exact hK23 v7
        · exact hK14 v7 G9
    · refine x_iload_n F dX12_greatestGroup_100 rfl rfl rfl ?_
      exact x_iret F hnE hQ dX12_greatestGroup_101
theorem dX12_mend_0 : decode cX12_mend 0 = .ok (.aload_n 0, 1) := by decide +kernel
theorem dX12_mend_1 : decode cX12_mend 1 = .ok (.iconst 0, 1) := by decide +kernel
theorem dX12_mend_2 : decode cX12_mend 2 = .ok (.putfield 1, 3) := by decide +kernel
theorem dX12_mend_5 : decode cX12_mend 5 = .ok (.aload_n 0, 1) := by decide +kernel
theorem dX12_mend_6 : decode cX12_mend 6 = .ok (.invokevirtual 383, 3) := by decide +kernel
theorem dX12_mend_9 : decode cX12_mend 9 = .ok (.aload_n 0, 1) := by decide +kernel
theorem dX12_mend_10 : decode cX12_mend 10 = .ok (.iload_n 1, 1) := by decide +kernel
theorem dX12_mend_11 : decode cX12_mend 11 = .ok (.invokevirtual 386, 3) := by decide +kernel
theorem dX12_mend_14 : decode cX12_mend 14 = .ok (.ifCond .eq 12, 3) := by decide +kernel
theorem dX12_mend_17 : decode cX12_mend 17 = .ok (.aload_n 0, 1) := by decide +kernel
theorem dX12_mend_18 : decode cX12_mend 18 = .ok (.iconst 0, 1) := by decide +kernel
theorem dX12_mend_19 : decode cX12_mend 19 = .ok (.iload_n 1, 1) := by decide +kernel
theorem dX12_mend_20 : decode cX12_mend 20 = .ok (.invokevirtual 395, 3) := by decide +kernel
theorem dX12_mend_23 : decode cX12_mend 23 = .ok (.goto 4, 3) := by decide +kernel
theorem dX12_mend_26 : decode cX12_mend 26 = .ok (.iconst (-1), 1) := by decide +kernel
theorem dX12_mend_27 : decode cX12_mend 27 = .ok (.istore_n 2, 1) := by decide +kernel
theorem dX12_mend_28 : decode cX12_mend 28 = .ok (.aload_n 0, 1) := by decide +kernel
theorem dX12_mend_29 : decode cX12_mend 29 = .ok (.iload_n 2, 1) := by decide +kernel
theorem dX12_mend_30 : decode cX12_mend 30 = .ok (.invokevirtual 392, 3) := by decide +kernel
theorem dX12_mend_33 : decode cX12_mend 33 = .ok (.ireturn, 1) := by decide +kernel
def fX12_mend (a0 : Nat) (a1 : Int) (G : Hp) : RT := bh (up G a0 0 0) fun G1 => bn (fX12_aside a0 G1) fun _ G2 => bp (fX12_isNode a0 a1 G2) fun v3 => jn (fun (v4 : Int) (G5 : Hp) => bd v4 fun v7 => bn (fX12_done a0 v7 G5) fun v8 G9 => rt v8 G9) fun (K6 : Int → Hp → RT) => if v3 = 0 then (K6 ((-1)) G2) else (bn (fX12_mended a0 0 a1 G2) fun v10 G11 => K6 v10 G11)
set_option maxRecDepth 20000 in
set_option maxHeartbeats 4000000 in
theorem tX12_mend (l : Launch) (x : WX) (hi : Inj x.2.2) (G : Hp) (a0 : Nat) (a1 : Int) (ha0 : kd a0 = 12) : Ct l x yX12_mend cX12_mend 3 (some .int) 8 129 129 [vR a0, vI a1] G (fX12_mend a0 a1 G) := by
  refine ct_of (plainFor_of_name (by decide)) hi (Nat.le_refl _) (Nat.le_refl _) (Nat.le_of_ble_eq_true rfl) (fun cx F hd hn0 hnE hl hQ => ?_)
  subst hl
  have F : Fx cx x RX12 cX12_mend 3 (some .int) := F
  show Y cx x 3 (some .int) 129 0 [(0, vR a0), (1, vI a1)] [] G _
  unfold fX12_mend
  refine x_aload_n F dX12_mend_0 rfl rfl rfl ?_
  refine x_iconst F dX12_mend_1 ⟨by decide, by decide⟩ rfl ?_
  refine s_putI F fpX12_1 ha0 rfl dX12_mend_2 rfl (fun G1 => ?_)
  refine x_aload_n F dX12_mend_5 rfl rfl rfl ?_
  refine s_callVv F [] [] lkX12_383 mX12_aside rfl ha0 rfl hnE hn0 hd (tX12_aside cx.l x hi G1 a0 ha0) rfl rfl dX12_mend_6 rfl rfl (fun _ G2 => ?_)
  refine x_aload_n F dX12_mend_9 rfl rfl rfl ?_
  refine x_iload_n F dX12_mend_10 rfl rfl rfl ?_
  refine s_callVP F [vI a1] [] lkX12_386 mX12_isNode rfl ha0 rfl hnE hn0 hd pX12_isNode (tX12_isNode cx.l x hi G2 a0 a1 ha0) rfl rfl dX12_mend_11 rfl rfl (fun v3 => ?_)
  refine x_jn (fun (K6 : Int → Hp → RT) => ∀ (v4 : Int) (G5 : Hp), Y cx x 3 (some .int) 129 27 [(0, vR a0)] [vI v4] G5 (K6 v4 G5)) ?_ (fun K6 hK6 => ?_)
  · intro v4 G5
    refine x_istore_n F dX12_mend_27 rfl (by decide) rfl rfl (fun v7 => ?_)
    show Y cx x _ _ _ _ [(0, vR a0), (2, vI v7)] _ _ _
    refine x_aload_n F dX12_mend_28 rfl rfl rfl ?_
    refine x_iload_n F dX12_mend_29 rfl rfl rfl ?_
    refine s_callV F [vI v7] [] lkX12_392 mX12_done rfl ha0 rfl hnE hn0 hd (tX12_done cx.l x hi G5 a0 v7 ha0) rfl rfl dX12_mend_30 rfl rfl (fun v8 G9 => ?_)
    exact x_iret F hnE hQ dX12_mend_33
  · refine x_ifeq (pt := 26) F dX12_mend_14 rfl rfl ?_ ?_
    · refine x_iconst F dX12_mend_26 ⟨by decide, by decide⟩ rfl ?_
      refine x_dp (L' := [(0, vR a0)]) [0] rfl ?_
      exact hK6 ((-1)) G2
    · refine x_aload_n F dX12_mend_17 rfl rfl rfl ?_
      refine x_iconst F dX12_mend_18 ⟨by decide, by decide⟩ rfl ?_
      refine x_iload_n F dX12_mend_19 rfl rfl rfl ?_
      refine s_callV F [vI 0, vI a1] [] lkX12_395 mX12_mended rfl ha0 rfl hnE hn0 hd (tX12_mended cx.l x hi G2 a0 0 a1 ha0) rfl rfl dX12_mend_20 rfl rfl (fun v10 G11 => ?_)
      refine x_goto (pc' := 27) F dX12_mend_23 rfl ?_
      refine x_dp (L' := [(0, vR a0)]) [0] rfl ?_
      exact hK6 v10 G11
theorem dX12_judged_0 : decode cX12_judged 0 = .ok (.aload_n 0, 1) := by decide +kernel
theorem dX12_judged_1 : decode cX12_judged 1 = .ok (.iconst 0, 1) := by decide +kernel
theorem dX12_judged_2 : decode cX12_judged 2 = .ok (.putfield 1, 3) := by decide +kernel
theorem dX12_judged_5 : decode cX12_judged 5 = .ok (.iload_n 1, 1) := by decide +kernel
theorem dX12_judged_6 : decode cX12_judged 6 = .ok (.iconst 0, 1) := by decide +kernel
theorem dX12_judged_7 : decode cX12_judged 7 = .ok (.iconst 2, 1) := by decide +kernel
theorem dX12_judged_8 : decode cX12_judged 8 = .ok (.invokestatic 401, 3) := by decide +kernel
theorem dX12_judged_11 : decode cX12_judged 11 = .ok (.ifCond .ne 6, 3) := by decide +kernel
theorem dX12_judged_14 : decode cX12_judged 14 = .ok (.bipush (-2), 2) := by decide +kernel
theorem dX12_judged_16 : decode cX12_judged 16 = .ok (.ireturn, 1) := by decide +kernel
theorem dX12_judged_17 : decode cX12_judged 17 = .ok (.aload_n 0, 1) := by decide +kernel
theorem dX12_judged_18 : decode cX12_judged 18 = .ok (.sipush 3255, 3) := by decide +kernel
theorem dX12_judged_21 : decode cX12_judged 21 = .ok (.invokevirtual 269, 3) := by decide +kernel
theorem dX12_judged_24 : decode cX12_judged 24 = .ok (.iconst (-1), 1) := by decide +kernel
theorem dX12_judged_25 : decode cX12_judged 25 = .ok (.istore_n 2, 1) := by decide +kernel
theorem dX12_judged_26 : decode cX12_judged 26 = .ok (.iconst 0, 1) := by decide +kernel
theorem dX12_judged_27 : decode cX12_judged 27 = .ok (.istore_n 3, 1) := by decide +kernel
theorem dX12_judged_28 : decode cX12_judged 28 = .ok (.iload_n 3, 1) := by decide +kernel
theorem dX12_judged_29 : decode cX12_judged 29 = .ok (.aload_n 0, 1) := by decide +kernel
theorem dX12_judged_30 : decode cX12_judged 30 = .ok (.getfield 96, 3) := by decide +kernel
theorem dX12_judged_33 : decode cX12_judged 33 = .ok (.iconst 0, 1) := by decide +kernel
theorem dX12_judged_34 : decode cX12_judged 34 = .ok (.iaload, 1) := by decide +kernel
theorem dX12_judged_35 : decode cX12_judged 35 = .ok (.if_icmp .ge 65, 3) := by decide +kernel
theorem dX12_judged_38 : decode cX12_judged 38 = .ok (.iconst 1, 1) := by decide +kernel
theorem dX12_judged_39 : decode cX12_judged 39 = .ok (.iconst 3, 1) := by decide +kernel
theorem dX12_judged_40 : decode cX12_judged 40 = .ok (.iload_n 3, 1) := by decide +kernel
theorem dX12_judged_41 : decode cX12_judged 41 = .ok (.imul, 1) := by decide +kernel
theorem dX12_judged_42 : decode cX12_judged 42 = .ok (.iadd, 1) := by decide +kernel
theorem dX12_judged_43 : decode cX12_judged 43 = .ok (.istore 4, 2) := by decide +kernel
theorem dX12_judged_45 : decode cX12_judged 45 = .ok (.aload_n 0, 1) := by decide +kernel
theorem dX12_judged_46 : decode cX12_judged 46 = .ok (.sipush 3255, 3) := by decide +kernel
theorem dX12_judged_49 : decode cX12_judged 49 = .ok (.aload_n 0, 1) := by decide +kernel
theorem dX12_judged_50 : decode cX12_judged 50 = .ok (.getfield 96, 3) := by decide +kernel
theorem dX12_judged_53 : decode cX12_judged 53 = .ok (.iload 4, 2) := by decide +kernel
theorem dX12_judged_55 : decode cX12_judged 55 = .ok (.iaload, 1) := by decide +kernel
theorem dX12_judged_56 : decode cX12_judged 56 = .ok (.aload_n 0, 1) := by decide +kernel
theorem dX12_judged_57 : decode cX12_judged 57 = .ok (.getfield 96, 3) := by decide +kernel
theorem dX12_judged_60 : decode cX12_judged 60 = .ok (.iload 4, 2) := by decide +kernel
theorem dX12_judged_62 : decode cX12_judged 62 = .ok (.iconst 1, 1) := by decide +kernel
theorem dX12_judged_63 : decode cX12_judged 63 = .ok (.iadd, 1) := by decide +kernel
theorem dX12_judged_64 : decode cX12_judged 64 = .ok (.iaload, 1) := by decide +kernel
theorem dX12_judged_65 : decode cX12_judged 65 = .ok (.aload_n 0, 1) := by decide +kernel
theorem dX12_judged_66 : decode cX12_judged 66 = .ok (.getfield 96, 3) := by decide +kernel
theorem dX12_judged_69 : decode cX12_judged 69 = .ok (.iload 4, 2) := by decide +kernel
theorem dX12_judged_71 : decode cX12_judged 71 = .ok (.iconst 2, 1) := by decide +kernel
theorem dX12_judged_72 : decode cX12_judged 72 = .ok (.iadd, 1) := by decide +kernel
theorem dX12_judged_73 : decode cX12_judged 73 = .ok (.iaload, 1) := by decide +kernel
theorem dX12_judged_74 : decode cX12_judged 74 = .ok (.invokevirtual 404, 3) := by decide +kernel
theorem dX12_judged_77 : decode cX12_judged 77 = .ok (.istore 5, 2) := by decide +kernel
theorem dX12_judged_79 : decode cX12_judged 79 = .ok (.iload 5, 2) := by decide +kernel
theorem dX12_judged_81 : decode cX12_judged 81 = .ok (.ifCond .ne 11, 3) := by decide +kernel
theorem dX12_judged_84 : decode cX12_judged 84 = .ok (.iload_n 2, 1) := by decide +kernel
theorem dX12_judged_85 : decode cX12_judged 85 = .ok (.ifCond .ge 7, 3) := by decide +kernel
theorem dX12_judged_88 : decode cX12_judged 88 = .ok (.iload_n 3, 1) := by decide +kernel
theorem dX12_judged_89 : decode cX12_judged 89 = .ok (.goto 4, 3) := by decide +kernel
theorem dX12_judged_92 : decode cX12_judged 92 = .ok (.iload_n 2, 1) := by decide +kernel
theorem dX12_judged_93 : decode cX12_judged 93 = .ok (.istore_n 2, 1) := by decide +kernel
theorem dX12_judged_94 : decode cX12_judged 94 = .ok (.iinc 3 1, 3) := by decide +kernel
theorem dX12_judged_97 : decode cX12_judged 97 = .ok (.goto (-69), 3) := by decide +kernel
theorem dX12_judged_100 : decode cX12_judged 100 = .ok (.iload_n 1, 1) := by decide +kernel
theorem dX12_judged_101 : decode cX12_judged 101 = .ok (.ifCond .ne 7, 3) := by decide +kernel
theorem dX12_judged_104 : decode cX12_judged 104 = .ok (.iload_n 2, 1) := by decide +kernel
theorem dX12_judged_105 : decode cX12_judged 105 = .ok (.goto 28, 3) := by decide +kernel
theorem dX12_judged_108 : decode cX12_judged 108 = .ok (.iload_n 1, 1) := by decide +kernel
theorem dX12_judged_109 : decode cX12_judged 109 = .ok (.iconst 1, 1) := by decide +kernel
theorem dX12_judged_110 : decode cX12_judged 110 = .ok (.if_icmp .ne 16, 3) := by decide +kernel
theorem dX12_judged_113 : decode cX12_judged 113 = .ok (.aload_n 0, 1) := by decide +kernel
theorem dX12_judged_114 : decode cX12_judged 114 = .ok (.sipush 3255, 3) := by decide +kernel
theorem dX12_judged_117 : decode cX12_judged 117 = .ok (.invokevirtual 316, 3) := by decide +kernel
theorem dX12_judged_120 : decode cX12_judged 120 = .ok (.invokestatic 340, 3) := by decide +kernel
theorem dX12_judged_123 : decode cX12_judged 123 = .ok (.goto 10, 3) := by decide +kernel
theorem dX12_judged_126 : decode cX12_judged 126 = .ok (.aload_n 0, 1) := by decide +kernel
theorem dX12_judged_127 : decode cX12_judged 127 = .ok (.sipush 3255, 3) := by decide +kernel
theorem dX12_judged_130 : decode cX12_judged 130 = .ok (.invokevirtual 408, 3) := by decide +kernel
theorem dX12_judged_133 : decode cX12_judged 133 = .ok (.ireturn, 1) := by decide +kernel
def fX12_judged (a0 : Nat) (a1 : Int) (G : Hp) : RT := bh (up G a0 0 0) fun G1 => bp (fX12_within a1 0 2 G1) fun v2 => if v2 = 0 then (rt ((-2)) G1) else (bn (fX12_starts a0 3255 G1) fun _ G3 => bd ((-1)) fun v4 => bd 0 fun v5 => (lp (fun (_ : Int) (_ : Int) (_ : Hp) => (none : RT)) 5000 (fun (rc9 : Int → Int → Hp → RT) (v6 : Int) (v7 : Int) (G8 : Hp) => br (rd G8 ((rf a0 14)) 241 0) fun v10 => if v7 < v10 then (bd (iadd 1 (imul 3 v7)) fun v14 => br (rd G8 ((rf a0 14)) 241 v14) fun v15 => br (rd G8 ((rf a0 14)) 241 (iadd v14 1)) fun v16 => br (rd G8 ((rf a0 14)) 241 (iadd v14 2)) fun v17 => bn (fX12_acts a0 3255 v15 v16 v17 G8) fun v18 G19 => bd v18 fun v20 => jn (fun (v21 : Int) => bd v21 fun v23 => bd (iadd v7 1) fun v24 => rc9 v23 v24 G19) fun (K22 : Int → RT) => jn (K22 v6) fun (K25 : RT) => if v20 = 0 then (if v6 < 0 then K22 v7 else K25) else K25) else (if a1 = 0 then rt v6 G8 else (if a1 = 1 then (bp (fX12_inSet a0 3255 G8) fun v12 => bp (fX12_manyOf v12 G8) fun v13 => rt v13 G8) else (bp (fX12_heldMany a0 3255 G8) fun v11 => rt v11 G8))))) v4 v5 G3)
set_option maxRecDepth 20000 in
set_option maxHeartbeats 4000000 in
theorem tX12_judged (l : Launch) (x : WX) (hi : Inj x.2.2) (G : Hp) (a0 : Nat) (a1 : Int) (ha0 : kd a0 = 12) : Ct l x yX12_judged cX12_judged 6 (some .int) 8 129 129 [vR a0, vI a1] G (fX12_judged a0 a1 G) := by
  refine ct_of (plainFor_of_name (by decide)) hi (Nat.le_refl _) (Nat.le_refl _) (Nat.le_of_ble_eq_true rfl) (fun cx F hd hn0 hnE hl hQ => ?_)
  subst hl
  have F : Fx cx x RX12 cX12_judged 6 (some .int) := F
  show Y cx x 6 (some .int) 129 0 [(0, vR a0), (1, vI a1)] [] G _
  unfold fX12_judged
  refine x_aload_n F dX12_judged_0 rfl rfl rfl ?_
  refine x_iconst F dX12_judged_1 ⟨by decide, by decide⟩ rfl ?_
  refine s_putI F fpX12_1 ha0 rfl dX12_judged_2 rfl (fun G1 => ?_)
  refine x_iload_n F dX12_judged_5 rfl rfl rfl ?_
  refine x_iconst F dX12_judged_6 ⟨by decide, by decide⟩ rfl ?_
  refine x_iconst F dX12_judged_7 ⟨by decide, by decide⟩ rfl ?_
  refine s_callSP F [vI a1, vI 0, vI 2] [] lkX12_401 mX12_within hnE hn0 hd pX12_within (tX12_within cx.l x hi G1 a1 0 2) rfl rfl dX12_judged_8 rfl rfl (fun v2 => ?_)
  refine x_ifne (pt := 17) F dX12_judged_11 rfl rfl ?_ ?_
  · refine x_bipush F dX12_judged_14 ⟨by decide, by decide⟩ (by decide) rfl ?_
    exact x_iret F hnE hQ dX12_judged_16
  · refine x_aload_n F dX12_judged_17 rfl rfl rfl ?_
    refine x_sipush F dX12_judged_18 ⟨by decide, by decide⟩ (by decide) rfl ?_
    refine s_callVv F [vI 3255] [] lkX12_269 mX12_starts rfl ha0 rfl hnE hn0 hd (tX12_starts cx.l x hi G1 a0 3255 ha0) rfl rfl dX12_judged_21 rfl rfl (fun _ G3 => ?_)
    refine x_iconst F dX12_judged_24 ⟨by decide, by decide⟩ rfl ?_
    refine x_istore_n F dX12_judged_25 rfl (by decide) rfl rfl (fun v4 => ?_)
    show Y cx x _ _ _ _ [(0, vR a0), (1, vI a1), (2, vI v4)] _ _ _
    refine x_iconst F dX12_judged_26 ⟨by decide, by decide⟩ rfl ?_
    refine x_istore_n F dX12_judged_27 rfl (by decide) rfl rfl (fun v5 => ?_)
    show Y cx x _ _ _ _ [(0, vR a0), (1, vI a1), (2, vI v4), (3, vI v5)] _ _ _
    refine x_lp (fun (rc9 : Int → Int → Hp → RT) => ∀ (v6 : Int) (v7 : Int) (G8 : Hp), Y cx x 6 (some .int) 129 28 [(0, vR a0), (1, vI a1), (2, vI v6), (3, vI v7)] [] G8 (rc9 v6 v7 G8)) (fun _ _ _ => Y_none) (fun rc9 hrc9 v6 v7 G8 => ?_) 5000 v4 v5 G3
    refine x_iload_n F dX12_judged_28 rfl rfl rfl ?_
    refine x_aload_n F dX12_judged_29 rfl rfl rfl ?_
    refine x_getR F flX12_96 ha0 rfl dX12_judged_30 rfl ?_
    refine x_iconst F dX12_judged_33 ⟨by decide, by decide⟩ rfl ?_
    refine s_iald F (tf12_14 ha0).1 (tf12_14 ha0).2 dX12_judged_34 rfl (fun v10 => ?_)
    refine x_icmpge (pt := 100) F dX12_judged_35 rfl rfl ?_ ?_
    · refine x_iconst F dX12_judged_38 ⟨by decide, by decide⟩ rfl ?_
      refine x_iconst F dX12_judged_39 ⟨by decide, by decide⟩ rfl ?_
      refine x_iload_n F dX12_judged_40 rfl rfl rfl ?_
      refine x_imul F dX12_judged_41 rfl ?_
      refine x_iadd F dX12_judged_42 rfl ?_
      refine x_istore F dX12_judged_43 (by decide) rfl rfl (fun v14 => ?_)
      show Y cx x _ _ _ _ [(0, vR a0), (1, vI a1), (2, vI v6), (3, vI v7), (4, vI v14)] _ _ _
      refine x_aload_n F dX12_judged_45 rfl rfl rfl ?_
      refine x_sipush F dX12_judged_46 ⟨by decide, by decide⟩ (by decide) rfl ?_
      refine x_aload_n F dX12_judged_49 rfl rfl rfl ?_
      refine x_getR F flX12_96 ha0 rfl dX12_judged_50 rfl ?_
      refine x_iload F dX12_judged_53 rfl rfl ?_
      refine s_iald F (tf12_14 ha0).1 (tf12_14 ha0).2 dX12_judged_55 rfl (fun v15 => ?_)
      refine x_aload_n F dX12_judged_56 rfl rfl rfl ?_
      refine x_getR F flX12_96 ha0 rfl dX12_judged_57 rfl ?_
      refine x_iload F dX12_judged_60 rfl rfl ?_
      refine x_iconst F dX12_judged_62 ⟨by decide, by decide⟩ rfl ?_
      refine x_iadd F dX12_judged_63 rfl ?_
      refine s_iald F (tf12_14 ha0).1 (tf12_14 ha0).2 dX12_judged_64 rfl (fun v16 => ?_)
      refine x_aload_n F dX12_judged_65 rfl rfl rfl ?_
      refine x_getR F flX12_96 ha0 rfl dX12_judged_66 rfl ?_
      refine x_iload F dX12_judged_69 rfl rfl ?_
      refine x_iconst F dX12_judged_71 ⟨by decide, by decide⟩ rfl ?_
      refine x_iadd F dX12_judged_72 rfl ?_
      refine s_iald F (tf12_14 ha0).1 (tf12_14 ha0).2 dX12_judged_73 rfl (fun v17 => ?_)
      refine s_callV F [vI 3255, vI v15, vI v16, vI v17] [] lkX12_404 mX12_acts rfl ha0 rfl hnE hn0 hd (tX12_acts cx.l x hi G8 a0 3255 v15 v16 v17 ha0) rfl rfl dX12_judged_74 rfl rfl (fun v18 G19 => ?_)
      refine x_dp (L' := [(0, vR a0), (1, vI a1), (2, vI v6), (3, vI v7)]) [0, 1, 2, 3] rfl ?_
      refine x_istore F dX12_judged_77 (by decide) rfl rfl (fun v20 => ?_)
      show Y cx x _ _ _ _ [(0, vR a0), (1, vI a1), (2, vI v6), (3, vI v7), (5, vI v20)] _ _ _
      refine x_iload F dX12_judged_79 rfl rfl ?_
      refine x_jn (fun (K22 : Int → RT) => ∀ (v21 : Int), Y cx x 6 (some .int) 129 93 [(0, vR a0), (1, vI a1), (3, vI v7)] [vI v21] G19 (K22 v21)) ?_ (fun K22 hK22 => ?_)
      · intro v21
        refine x_istore_n F dX12_judged_93 rfl (by decide) rfl rfl (fun v23 => ?_)
        show Y cx x _ _ _ _ [(0, vR a0), (1, vI a1), (3, vI v7), (2, vI v23)] _ _ _
        refine x_iinc F dX12_judged_94 rfl (by decide) rfl rfl (fun v24 => ?_)
        show Y cx x _ _ _ _ [(0, vR a0), (1, vI a1), (3, vI v24), (2, vI v23)] _ _ _
        refine x_goto (pc' := 28) F dX12_judged_97 rfl ?_
        refine x_dp (L' := [(0, vR a0), (1, vI a1), (2, vI v23), (3, vI v24)]) [0, 1, 3, 2] rfl ?_
        exact hrc9 v23 v24 G19
      · refine x_jn (fun (K25 : RT) => Y cx x 6 (some .int) 129 92 [(0, vR a0), (1, vI a1), (2, vI v6), (3, vI v7)] [] G19 K25) ?_ (fun K25 hK25 => ?_)
        · refine x_iload_n F dX12_judged_92 rfl rfl rfl ?_
          refine x_dp (L' := [(0, vR a0), (1, vI a1), (3, vI v7)]) [0, 1, 3] rfl ?_
          exact hK22 v6
        · refine x_ifne (pt := 92) F dX12_judged_81 rfl rfl ?_ ?_
          · refine x_iload_n F dX12_judged_84 rfl rfl rfl ?_
            refine x_ifge (pt := 92) F dX12_judged_85 rfl rfl ?_ ?_
            · refine x_iload_n F dX12_judged_88 rfl rfl rfl ?_
              refine x_goto (pc' := 93) F dX12_judged_89 rfl ?_
              refine x_dp (L' := [(0, vR a0), (1, vI a1), (3, vI v7)]) [0, 1, 3] rfl ?_
              exact hK22 v7
            · refine x_dp (L' := [(0, vR a0), (1, vI a1), (2, vI v6), (3, vI v7)]) [0, 1, 2, 3] rfl ?_
              exact hK25
          · refine x_dp (L' := [(0, vR a0), (1, vI a1), (2, vI v6), (3, vI v7)]) [0, 1, 2, 3] rfl ?_
            exact hK25
    · refine x_iload_n F dX12_judged_100 rfl rfl rfl ?_
      refine x_ifne (pt := 108) F dX12_judged_101 rfl rfl ?_ ?_
      · refine x_iload_n F dX12_judged_104 rfl rfl rfl ?_
        refine x_goto (pc' := 133) F dX12_judged_105 rfl ?_
        exact x_iret F hnE hQ dX12_judged_133
      · refine x_iload_n F dX12_judged_108 rfl rfl rfl ?_
        refine x_iconst F dX12_judged_109 ⟨by decide, by decide⟩ rfl ?_
        refine x_icmpne (pt := 126) F dX12_judged_110 rfl rfl ?_ ?_
        · refine x_aload_n F dX12_judged_113 rfl rfl rfl ?_
          refine x_sipush F dX12_judged_114 ⟨by decide, by decide⟩ (by decide) rfl ?_
          refine s_callVP F [vI 3255] [] lkX12_316 mX12_inSet rfl ha0 rfl hnE hn0 hd pX12_inSet (tX12_inSet cx.l x hi G8 a0 3255 ha0) rfl rfl dX12_judged_117 rfl rfl (fun v12 => ?_)
          refine s_callSP F [vI v12] [] lkX12_340 mX12_manyOf hnE hn0 hd pX12_manyOf (tX12_manyOf cx.l x hi G8 v12) rfl rfl dX12_judged_120 rfl rfl (fun v13 => ?_)
          refine x_goto (pc' := 133) F dX12_judged_123 rfl ?_
          exact x_iret F hnE hQ dX12_judged_133
        · refine x_aload_n F dX12_judged_126 rfl rfl rfl ?_
          refine x_sipush F dX12_judged_127 ⟨by decide, by decide⟩ (by decide) rfl ?_
          refine s_callVP F [vI 3255] [] lkX12_408 mX12_heldMany rfl ha0 rfl hnE hn0 hd pX12_heldMany (tX12_heldMany cx.l x hi G8 a0 3255 ha0) rfl rfl dX12_judged_130 rfl rfl (fun v11 => ?_)
          exact x_iret F hnE hQ dX12_judged_133
theorem dX12_who_0 : decode cX12_who 0 = .ok (.aload_n 0, 1) := by decide +kernel
theorem dX12_who_1 : decode cX12_who 1 = .ok (.iconst 0, 1) := by decide +kernel
theorem dX12_who_2 : decode cX12_who 2 = .ok (.putfield 1, 3) := by decide +kernel
theorem dX12_who_5 : decode cX12_who 5 = .ok (.aload_n 0, 1) := by decide +kernel
theorem dX12_who_6 : decode cX12_who 6 = .ok (.invokevirtual 480, 3) := by decide +kernel
theorem dX12_who_9 : decode cX12_who 9 = .ok (.ireturn, 1) := by decide +kernel
def fX12_who (a0 : Nat) (G : Hp) : RT := bh (up G a0 0 0) fun G1 => bn (fX12_whoNow a0 G1) fun v2 G3 => rt v2 G3
set_option maxRecDepth 20000 in
set_option maxHeartbeats 4000000 in
theorem tX12_who (l : Launch) (x : WX) (hi : Inj x.2.2) (G : Hp) (a0 : Nat) (ha0 : kd a0 = 12) : Ct l x yX12_who cX12_who 1 (some .int) 8 129 129 [vR a0] G (fX12_who a0 G) := by
  refine ct_of (plainFor_of_name (by decide)) hi (Nat.le_refl _) (Nat.le_refl _) (Nat.le_of_ble_eq_true rfl) (fun cx F hd hn0 hnE hl hQ => ?_)
  subst hl
  have F : Fx cx x RX12 cX12_who 1 (some .int) := F
  show Y cx x 1 (some .int) 129 0 [(0, vR a0)] [] G _
  unfold fX12_who
  refine x_aload_n F dX12_who_0 rfl rfl rfl ?_
  refine x_iconst F dX12_who_1 ⟨by decide, by decide⟩ rfl ?_
  refine s_putI F fpX12_1 ha0 rfl dX12_who_2 rfl (fun G1 => ?_)
  refine x_aload_n F dX12_who_5 rfl rfl rfl ?_
  refine s_callV F [] [] lkX12_480 mX12_whoNow rfl ha0 rfl hnE hn0 hd (tX12_whoNow cx.l x hi G1 a0 ha0) rfl rfl dX12_who_6 rfl rfl (fun v2 G3 => ?_)
  exact x_iret F hnE hQ dX12_who_9
theorem dX12_ask_0 : decode cX12_ask 0 = .ok (.aload_n 0, 1) := by decide +kernel
theorem dX12_ask_1 : decode cX12_ask 1 = .ok (.iconst 0, 1) := by decide +kernel
theorem dX12_ask_2 : decode cX12_ask 2 = .ok (.putfield 1, 3) := by decide +kernel
theorem dX12_ask_5 : decode cX12_ask 5 = .ok (.aload_n 0, 1) := by decide +kernel
theorem dX12_ask_6 : decode cX12_ask 6 = .ok (.invokevirtual 480, 3) := by decide +kernel
theorem dX12_ask_9 : decode cX12_ask 9 = .ok (.istore_n 1, 1) := by decide +kernel
theorem dX12_ask_10 : decode cX12_ask 10 = .ok (.iconst (-1), 1) := by decide +kernel
theorem dX12_ask_11 : decode cX12_ask 11 = .ok (.istore_n 2, 1) := by decide +kernel
theorem dX12_ask_12 : decode cX12_ask 12 = .ok (.iload_n 1, 1) := by decide +kernel
theorem dX12_ask_13 : decode cX12_ask 13 = .ok (.invokestatic 340, 3) := by decide +kernel
theorem dX12_ask_16 : decode cX12_ask 16 = .ok (.istore_n 3, 1) := by decide +kernel
theorem dX12_ask_17 : decode cX12_ask 17 = .ok (.iconst 0, 1) := by decide +kernel
theorem dX12_ask_18 : decode cX12_ask 18 = .ok (.istore 4, 2) := by decide +kernel
theorem dX12_ask_20 : decode cX12_ask 20 = .ok (.iload 4, 2) := by decide +kernel
theorem dX12_ask_22 : decode cX12_ask 22 = .ok (.aload_n 0, 1) := by decide +kernel
theorem dX12_ask_23 : decode cX12_ask 23 = .ok (.invokevirtual 257, 3) := by decide +kernel
theorem dX12_ask_26 : decode cX12_ask 26 = .ok (.if_icmp .ge 44, 3) := by decide +kernel
theorem dX12_ask_29 : decode cX12_ask 29 = .ok (.aload_n 0, 1) := by decide +kernel
theorem dX12_ask_30 : decode cX12_ask 30 = .ok (.iload_n 1, 1) := by decide +kernel
theorem dX12_ask_31 : decode cX12_ask 31 = .ok (.iload 4, 2) := by decide +kernel
theorem dX12_ask_33 : decode cX12_ask 33 = .ok (.invokevirtual 483, 3) := by decide +kernel
theorem dX12_ask_36 : decode cX12_ask 36 = .ok (.istore 5, 2) := by decide +kernel
theorem dX12_ask_38 : decode cX12_ask 38 = .ok (.iload 5, 2) := by decide +kernel
theorem dX12_ask_40 : decode cX12_ask 40 = .ok (.iload_n 3, 1) := by decide +kernel
theorem dX12_ask_41 : decode cX12_ask 41 = .ok (.if_icmp .ge 8, 3) := by decide +kernel
theorem dX12_ask_44 : decode cX12_ask 44 = .ok (.iload 4, 2) := by decide +kernel
theorem dX12_ask_46 : decode cX12_ask 46 = .ok (.goto 4, 3) := by decide +kernel
theorem dX12_ask_49 : decode cX12_ask 49 = .ok (.iload_n 2, 1) := by decide +kernel
theorem dX12_ask_50 : decode cX12_ask 50 = .ok (.istore_n 2, 1) := by decide +kernel
theorem dX12_ask_51 : decode cX12_ask 51 = .ok (.iload 5, 2) := by decide +kernel
theorem dX12_ask_53 : decode cX12_ask 53 = .ok (.iload_n 3, 1) := by decide +kernel
theorem dX12_ask_54 : decode cX12_ask 54 = .ok (.if_icmp .ge 8, 3) := by decide +kernel
theorem dX12_ask_57 : decode cX12_ask 57 = .ok (.iload 5, 2) := by decide +kernel
theorem dX12_ask_59 : decode cX12_ask 59 = .ok (.goto 4, 3) := by decide +kernel
theorem dX12_ask_62 : decode cX12_ask 62 = .ok (.iload_n 3, 1) := by decide +kernel
theorem dX12_ask_63 : decode cX12_ask 63 = .ok (.istore_n 3, 1) := by decide +kernel
theorem dX12_ask_64 : decode cX12_ask 64 = .ok (.iinc 4 1, 3) := by decide +kernel
theorem dX12_ask_67 : decode cX12_ask 67 = .ok (.goto (-47), 3) := by decide +kernel
theorem dX12_ask_70 : decode cX12_ask 70 = .ok (.iload_n 2, 1) := by decide +kernel
theorem dX12_ask_71 : decode cX12_ask 71 = .ok (.ireturn, 1) := by decide +kernel
def fX12_ask (a0 : Nat) (G : Hp) : RT := bh (up G a0 0 0) fun G1 => bn (fX12_whoNow a0 G1) fun v2 G3 => bd v2 fun v4 => bd ((-1)) fun v5 => bp (fX12_manyOf v4 G3) fun v6 => bd v6 fun v7 => bd 0 fun v8 => (lp (fun (_ : Int) (_ : Int) (_ : Int) (_ : Hp) => (none : RT)) 5000 (fun (rc13 : Int → Int → Int → Hp → RT) (v9 : Int) (v10 : Int) (v11 : Int) (G12 : Hp) => bp (fX12_circle a0 G12) fun v14 => if v11 < v14 then (bn (fX12_greatestGroup a0 v4 v11 G12) fun v15 G16 => bd v15 fun v17 => jn (fun (v18 : Int) => bd v18 fun v20 => jn (fun (v21 : Int) => bd v21 fun v23 => bd (iadd v11 1) fun v24 => rc13 v20 v23 v24 G16) fun (K22 : Int → RT) => if v17 < v10 then K22 v17 else K22 v10) fun (K19 : Int → RT) => if v17 < v10 then K19 v11 else K19 v9) else rt v9 G12)) v5 v7 v8 G3
set_option maxRecDepth 20000 in
set_option maxHeartbeats 4000000 in
theorem tX12_ask (l : Launch) (x : WX) (hi : Inj x.2.2) (G : Hp) (a0 : Nat) (ha0 : kd a0 = 12) : Ct l x yX12_ask cX12_ask 6 (some .int) 8 129 129 [vR a0] G (fX12_ask a0 G) := by
  refine ct_of (plainFor_of_name (by decide)) hi (Nat.le_refl _) (Nat.le_refl _) (Nat.le_of_ble_eq_true rfl) (fun cx F hd hn0 hnE hl hQ => ?_)
  subst hl
  have F : Fx cx x RX12 cX12_ask 6 (some .int) := F
  show Y cx x 6 (some .int) 129 0 [(0, vR a0)] [] G _
  unfold fX12_ask
  refine x_aload_n F dX12_ask_0 rfl rfl rfl ?_
  refine x_iconst F dX12_ask_1 ⟨by decide, by decide⟩ rfl ?_
  refine s_putI F fpX12_1 ha0 rfl dX12_ask_2 rfl (fun G1 => ?_)
  refine x_aload_n F dX12_ask_5 rfl rfl rfl ?_
  refine s_callV F [] [] lkX12_480 mX12_whoNow rfl ha0 rfl hnE hn0 hd (tX12_whoNow cx.l x hi G1 a0 ha0) rfl rfl dX12_ask_6 rfl rfl (fun v2 G3 => ?_)
  refine x_istore_n F dX12_ask_9 rfl (by decide) rfl rfl (fun v4 => ?_)
  show Y cx x _ _ _ _ [(0, vR a0), (1, vI v4)] _ _ _
  refine x_iconst F dX12_ask_10 ⟨by decide, by decide⟩ rfl ?_
  refine x_istore_n F dX12_ask_11 rfl (by decide) rfl rfl (fun v5 => ?_)
  show Y cx x _ _ _ _ [(0, vR a0), (1, vI v4), (2, vI v5)] _ _ _
  refine x_iload_n F dX12_ask_12 rfl rfl rfl ?_
  refine s_callSP F [vI v4] [] lkX12_340 mX12_manyOf hnE hn0 hd pX12_manyOf (tX12_manyOf cx.l x hi G3 v4) rfl rfl dX12_ask_13 rfl rfl (fun v6 => ?_)
  refine x_istore_n F dX12_ask_16 rfl (by decide) rfl rfl (fun v7 => ?_)
  show Y cx x _ _ _ _ [(0, vR a0), (1, vI v4), (2, vI v5), (3, vI v7)] _ _ _
  refine x_iconst F dX12_ask_17 ⟨by decide, by decide⟩ rfl ?_
  refine x_istore F dX12_ask_18 (by decide) rfl rfl (fun v8 => ?_)
  show Y cx x _ _ _ _ [(0, vR a0), (1, vI v4), (2, vI v5), (3, vI v7), (4, vI v8)] _ _ _
  refine x_lp (fun (rc13 : Int → Int → Int → Hp → RT) => ∀ (v9 : Int) (v10 : Int) (v11 : Int) (G12 : Hp), Y cx x 6 (some .int) 129 20 [(0, vR a0), (1, vI v4), (2, vI v9), (3, vI v10), (4, vI v11)] [] G12 (rc13 v9 v10 v11 G12)) (fun _ _ _ _ => Y_none) (fun rc13 hrc13 v9 v10 v11 G12 => ?_) 5000 v5 v7 v8 G3
  refine x_iload F dX12_ask_20 rfl rfl ?_
  refine x_aload_n F dX12_ask_22 rfl rfl rfl ?_
  refine s_callVP F [] [vI v11] lkX12_257 mX12_circle rfl ha0 rfl hnE hn0 hd pX12_circle (tX12_circle cx.l x hi G12 a0 ha0) rfl rfl dX12_ask_23 rfl rfl (fun v14 => ?_)
  refine x_icmpge (pt := 70) F dX12_ask_26 rfl rfl ?_ ?_
  · refine x_aload_n F dX12_ask_29 rfl rfl rfl ?_
    refine x_iload_n F dX12_ask_30 rfl rfl rfl ?_
    refine x_iload F dX12_ask_31 rfl rfl ?_
    refine s_callV F [vI v4, vI v11] [] lkX12_483 mX12_greatestGroup rfl ha0 rfl hnE hn0 hd (tX12_greatestGroup cx.l x hi G12 a0 v4 v11 ha0) rfl rfl dX12_ask_33 rfl rfl (fun v15 G16 => ?_)
    refine x_istore F dX12_ask_36 (by decide) rfl rfl (fun v17 => ?_)
    show Y cx x _ _ _ _ [(0, vR a0), (1, vI v4), (2, vI v9), (3, vI v10), (4, vI v11), (5, vI v17)] _ _ _
    refine x_iload F dX12_ask_38 rfl rfl ?_
    refine x_iload_n F dX12_ask_40 rfl rfl rfl ?_
    refine x_jn (fun (K19 : Int → RT) => ∀ (v18 : Int), Y cx x 6 (some .int) 129 50 [(0, vR a0), (1, vI v4), (3, vI v10), (4, vI v11), (5, vI v17)] [vI v18] G16 (K19 v18)) ?_ (fun K19 hK19 => ?_)
    · intro v18
      refine x_istore_n F dX12_ask_50 rfl (by decide) rfl rfl (fun v20 => ?_)
      show Y cx x _ _ _ _ [(0, vR a0), (1, vI v4), (3, vI v10), (4, vI v11), (5, vI v17), (2, vI v20)] _ _ _
      refine x_iload F dX12_ask_51 rfl rfl ?_
      refine x_iload_n F dX12_ask_53 rfl rfl rfl ?_
      refine x_jn (fun (K22 : Int → RT) => ∀ (v21 : Int), Y cx x 6 (some .int) 129 63 [(0, vR a0), (1, vI v4), (2, vI v20), (4, vI v11)] [vI v21] G16 (K22 v21)) ?_ (fun K22 hK22 => ?_)
      · intro v21
        refine x_istore_n F dX12_ask_63 rfl (by decide) rfl rfl (fun v23 => ?_)
        show Y cx x _ _ _ _ [(0, vR a0), (1, vI v4), (2, vI v20), (4, vI v11), (3, vI v23)] _ _ _
        refine x_iinc F dX12_ask_64 rfl (by decide) rfl rfl (fun v24 => ?_)
        show Y cx x _ _ _ _ [(0, vR a0), (1, vI v4), (2, vI v20), (4, vI v24), (3, vI v23)] _ _ _
        refine x_goto (pc' := 20) F dX12_ask_67 rfl ?_
        refine x_dp (L' := [(0, vR a0), (1, vI v4), (2, vI v20), (3, vI v23), (4, vI v24)]) [0, 1, 2, 4, 3] rfl ?_
        exact hrc13 v20 v23 v24 G16
      · refine x_icmpge (pt := 62) F dX12_ask_54 rfl rfl ?_ ?_
        · refine x_iload F dX12_ask_57 rfl rfl ?_
          refine x_goto (pc' := 63) F dX12_ask_59 rfl ?_
          refine x_dp (L' := [(0, vR a0), (1, vI v4), (2, vI v20), (4, vI v11)]) [0, 1, 5, 3] rfl ?_
          exact hK22 v17
        · refine x_iload_n F dX12_ask_62 rfl rfl rfl ?_
          refine x_dp (L' := [(0, vR a0), (1, vI v4), (2, vI v20), (4, vI v11)]) [0, 1, 5, 3] rfl ?_
          exact hK22 v10
    · refine x_icmpge (pt := 49) F dX12_ask_41 rfl rfl ?_ ?_
      · refine x_iload F dX12_ask_44 rfl rfl ?_
        refine x_goto (pc' := 50) F dX12_ask_46 rfl ?_
        refine x_dp (L' := [(0, vR a0), (1, vI v4), (3, vI v10), (4, vI v11), (5, vI v17)]) [0, 1, 3, 4, 5] rfl ?_
        exact hK19 v11
      · refine x_iload_n F dX12_ask_49 rfl rfl rfl ?_
        refine x_dp (L' := [(0, vR a0), (1, vI v4), (3, vI v10), (4, vI v11), (5, vI v17)]) [0, 1, 3, 4, 5] rfl ?_
        exact hK19 v9
  · refine x_iload_n F dX12_ask_70 rfl rfl rfl ?_
    exact x_iret F hnE hQ dX12_ask_71
theorem dX12_drives_0 : decode cX12_drives 0 = .ok (.aload_n 0, 1) := by decide +kernel
theorem dX12_drives_1 : decode cX12_drives 1 = .ok (.iconst 0, 1) := by decide +kernel
theorem dX12_drives_2 : decode cX12_drives 2 = .ok (.putfield 1, 3) := by decide +kernel
theorem dX12_drives_5 : decode cX12_drives 5 = .ok (.iload_n 1, 1) := by decide +kernel
theorem dX12_drives_6 : decode cX12_drives 6 = .ok (.iconst 0, 1) := by decide +kernel
theorem dX12_drives_7 : decode cX12_drives 7 = .ok (.sipush 9999, 3) := by decide +kernel
theorem dX12_drives_10 : decode cX12_drives 10 = .ok (.invokestatic 401, 3) := by decide +kernel
theorem dX12_drives_13 : decode cX12_drives 13 = .ok (.ifCond .eq 22, 3) := by decide +kernel
theorem dX12_drives_16 : decode cX12_drives 16 = .ok (.iload_n 2, 1) := by decide +kernel
theorem dX12_drives_17 : decode cX12_drives 17 = .ok (.iconst 1, 1) := by decide +kernel
theorem dX12_drives_18 : decode cX12_drives 18 = .ok (.bipush 99, 2) := by decide +kernel
theorem dX12_drives_20 : decode cX12_drives 20 = .ok (.invokestatic 401, 3) := by decide +kernel
theorem dX12_drives_23 : decode cX12_drives 23 = .ok (.ifCond .eq 12, 3) := by decide +kernel
theorem dX12_drives_26 : decode cX12_drives 26 = .ok (.iload_n 3, 1) := by decide +kernel
theorem dX12_drives_27 : decode cX12_drives 27 = .ok (.iconst 0, 1) := by decide +kernel
theorem dX12_drives_28 : decode cX12_drives 28 = .ok (.iconst 2, 1) := by decide +kernel
theorem dX12_drives_29 : decode cX12_drives 29 = .ok (.invokestatic 401, 3) := by decide +kernel
theorem dX12_drives_32 : decode cX12_drives 32 = .ok (.ifCond .ne 5, 3) := by decide +kernel
theorem dX12_drives_35 : decode cX12_drives 35 = .ok (.iconst (-1), 1) := by decide +kernel
theorem dX12_drives_36 : decode cX12_drives 36 = .ok (.ireturn, 1) := by decide +kernel
theorem dX12_drives_37 : decode cX12_drives 37 = .ok (.aload_n 0, 1) := by decide +kernel
theorem dX12_drives_38 : decode cX12_drives 38 = .ok (.iconst 0, 1) := by decide +kernel
theorem dX12_drives_39 : decode cX12_drives 39 = .ok (.sipush 3255, 3) := by decide +kernel
theorem dX12_drives_42 : decode cX12_drives 42 = .ok (.sipush 130, 3) := by decide +kernel
theorem dX12_drives_45 : decode cX12_drives 45 = .ok (.invokevirtual 275, 3) := by decide +kernel
theorem dX12_drives_48 : decode cX12_drives 48 = .ok (.aload_n 0, 1) := by decide +kernel
theorem dX12_drives_49 : decode cX12_drives 49 = .ok (.iload_n 1, 1) := by decide +kernel
theorem dX12_drives_50 : decode cX12_drives 50 = .ok (.i2l, 1) := by decide +kernel
theorem dX12_drives_51 : decode cX12_drives 51 = .ok (.putfield 486, 3) := by decide +kernel
theorem dX12_drives_54 : decode cX12_drives 54 = .ok (.iconst 0, 1) := by decide +kernel
theorem dX12_drives_55 : decode cX12_drives 55 = .ok (.istore 4, 2) := by decide +kernel
theorem dX12_drives_57 : decode cX12_drives 57 = .ok (.iconst 0, 1) := by decide +kernel
theorem dX12_drives_58 : decode cX12_drives 58 = .ok (.istore 5, 2) := by decide +kernel
theorem dX12_drives_60 : decode cX12_drives 60 = .ok (.iload 5, 2) := by decide +kernel
theorem dX12_drives_62 : decode cX12_drives 62 = .ok (.iload_n 2, 1) := by decide +kernel
theorem dX12_drives_63 : decode cX12_drives 63 = .ok (.if_icmp .ge 97, 3) := by decide +kernel
theorem dX12_drives_66 : decode cX12_drives 66 = .ok (.aload_n 0, 1) := by decide +kernel
theorem dX12_drives_67 : decode cX12_drives 67 = .ok (.invokevirtual 236, 3) := by decide +kernel
theorem dX12_drives_70 : decode cX12_drives 70 = .ok (.ifCond .le 90, 3) := by decide +kernel
theorem dX12_drives_73 : decode cX12_drives 73 = .ok (.aload_n 0, 1) := by decide +kernel
theorem dX12_drives_74 : decode cX12_drives 74 = .ok (.bipush 8, 2) := by decide +kernel
theorem dX12_drives_76 : decode cX12_drives 76 = .ok (.invokevirtual 498, 3) := by decide +kernel
theorem dX12_drives_79 : decode cX12_drives 79 = .ok (.istore 6, 2) := by decide +kernel
theorem dX12_drives_81 : decode cX12_drives 81 = .ok (.aload_n 0, 1) := by decide +kernel
theorem dX12_drives_82 : decode cX12_drives 82 = .ok (.aload_n 0, 1) := by decide +kernel
theorem dX12_drives_83 : decode cX12_drives 83 = .ok (.invokevirtual 236, 3) := by decide +kernel
theorem dX12_drives_86 : decode cX12_drives 86 = .ok (.invokevirtual 498, 3) := by decide +kernel
theorem dX12_drives_89 : decode cX12_drives 89 = .ok (.istore 7, 2) := by decide +kernel
theorem dX12_drives_91 : decode cX12_drives 91 = .ok (.aload_n 0, 1) := by decide +kernel
theorem dX12_drives_92 : decode cX12_drives 92 = .ok (.aload_n 0, 1) := by decide +kernel
theorem dX12_drives_93 : decode cX12_drives 93 = .ok (.invokevirtual 236, 3) := by decide +kernel
theorem dX12_drives_96 : decode cX12_drives 96 = .ok (.invokevirtual 498, 3) := by decide +kernel
theorem dX12_drives_99 : decode cX12_drives 99 = .ok (.istore 8, 2) := by decide +kernel
theorem dX12_drives_101 : decode cX12_drives 101 = .ok (.iload 6, 2) := by decide +kernel
theorem dX12_drives_103 : decode cX12_drives 103 = .ok (.bipush 7, 2) := by decide +kernel
theorem dX12_drives_105 : decode cX12_drives 105 = .ok (.if_icmp .ne 12, 3) := by decide +kernel
theorem dX12_drives_108 : decode cX12_drives 108 = .ok (.aload_n 0, 1) := by decide +kernel
theorem dX12_drives_109 : decode cX12_drives 109 = .ok (.bipush 8, 2) := by decide +kernel
theorem dX12_drives_111 : decode cX12_drives 111 = .ok (.invokevirtual 498, 3) := by decide +kernel
theorem dX12_drives_114 : decode cX12_drives 114 = .ok (.goto 5, 3) := by decide +kernel
theorem dX12_drives_117 : decode cX12_drives 117 = .ok (.iload 8, 2) := by decide +kernel
theorem dX12_drives_119 : decode cX12_drives 119 = .ok (.istore 9, 2) := by decide +kernel
theorem dX12_drives_121 : decode cX12_drives 121 = .ok (.aload_n 0, 1) := by decide +kernel
theorem dX12_drives_122 : decode cX12_drives 122 = .ok (.sipush 3255, 3) := by decide +kernel
theorem dX12_drives_125 : decode cX12_drives 125 = .ok (.iload 6, 2) := by decide +kernel
theorem dX12_drives_127 : decode cX12_drives 127 = .ok (.invokestatic 501, 3) := by decide +kernel
theorem dX12_drives_130 : decode cX12_drives 130 = .ok (.iload 7, 2) := by decide +kernel
theorem dX12_drives_132 : decode cX12_drives 132 = .ok (.iload 9, 2) := by decide +kernel
theorem dX12_drives_134 : decode cX12_drives 134 = .ok (.invokevirtual 404, 3) := by decide +kernel
theorem dX12_drives_137 : decode cX12_drives 137 = .ok (.istore 10, 2) := by decide +kernel
theorem dX12_drives_139 : decode cX12_drives 139 = .ok (.iload 4, 2) := by decide +kernel
theorem dX12_drives_141 : decode cX12_drives 141 = .ok (.iload 10, 2) := by decide +kernel
theorem dX12_drives_143 : decode cX12_drives 143 = .ok (.ifCond .eq 7, 3) := by decide +kernel
theorem dX12_drives_146 : decode cX12_drives 146 = .ok (.iconst 1, 1) := by decide +kernel
theorem dX12_drives_147 : decode cX12_drives 147 = .ok (.goto 4, 3) := by decide +kernel
theorem dX12_drives_150 : decode cX12_drives 150 = .ok (.iconst 0, 1) := by decide +kernel
theorem dX12_drives_151 : decode cX12_drives 151 = .ok (.iadd, 1) := by decide +kernel
theorem dX12_drives_152 : decode cX12_drives 152 = .ok (.istore 4, 2) := by decide +kernel
theorem dX12_drives_154 : decode cX12_drives 154 = .ok (.iinc 5 1, 3) := by decide +kernel
theorem dX12_drives_157 : decode cX12_drives 157 = .ok (.goto (-97), 3) := by decide +kernel
theorem dX12_drives_160 : decode cX12_drives 160 = .ok (.iload_n 3, 1) := by decide +kernel
theorem dX12_drives_161 : decode cX12_drives 161 = .ok (.ifCond .ne 8, 3) := by decide +kernel
theorem dX12_drives_164 : decode cX12_drives 164 = .ok (.iload 4, 2) := by decide +kernel
theorem dX12_drives_166 : decode cX12_drives 166 = .ok (.goto 28, 3) := by decide +kernel
theorem dX12_drives_169 : decode cX12_drives 169 = .ok (.iload_n 3, 1) := by decide +kernel
theorem dX12_drives_170 : decode cX12_drives 170 = .ok (.iconst 1, 1) := by decide +kernel
theorem dX12_drives_171 : decode cX12_drives 171 = .ok (.if_icmp .ne 16, 3) := by decide +kernel
theorem dX12_drives_174 : decode cX12_drives 174 = .ok (.aload_n 0, 1) := by decide +kernel
theorem dX12_drives_175 : decode cX12_drives 175 = .ok (.sipush 3255, 3) := by decide +kernel
theorem dX12_drives_178 : decode cX12_drives 178 = .ok (.invokevirtual 316, 3) := by decide +kernel
theorem dX12_drives_181 : decode cX12_drives 181 = .ok (.invokestatic 340, 3) := by decide +kernel
theorem dX12_drives_184 : decode cX12_drives 184 = .ok (.goto 10, 3) := by decide +kernel
theorem dX12_drives_187 : decode cX12_drives 187 = .ok (.aload_n 0, 1) := by decide +kernel
theorem dX12_drives_188 : decode cX12_drives 188 = .ok (.sipush 3255, 3) := by decide +kernel
theorem dX12_drives_191 : decode cX12_drives 191 = .ok (.invokevirtual 450, 3) := by decide +kernel
theorem dX12_drives_194 : decode cX12_drives 194 = .ok (.ireturn, 1) := by decide +kernel
def fX12_drives (a0 : Nat) (a1 : Int) (a2 : Int) (a3 : Int) (G : Hp) : RT := bh (up G a0 0 0) fun G1 => bp (fX12_within a1 0 9999 G1) fun v2 => if v2 = 0 then (rt ((-1)) G1) else (bp (fX12_within a2 1 99 G1) fun v3 => if v3 = 0 then (rt ((-1)) G1) else (bp (fX12_within a3 0 2 G1) fun v4 => if v4 = 0 then (rt ((-1)) G1) else (bn (fX12_copies a0 0 3255 130 G1) fun _ G5 => bh (up G5 a0 25 a1) fun G6 => bd 0 fun v7 => bd 0 fun v8 => (lp (fun (_ : Int) (_ : Int) (_ : Hp) => (none : RT)) 5000 (fun (rc12 : Int → Int → Hp → RT) (v9 : Int) (v10 : Int) (G11 : Hp) => jn (if a3 = 0 then rt v9 G11 else (if a3 = 1 then (bp (fX12_inSet a0 3255 G11) fun v15 => bp (fX12_manyOf v15 G11) fun v16 => rt v16 G11) else (bp (fX12_amissBy a0 3255 G11) fun v14 => rt v14 G11))) fun (K13 : RT) => if v10 < a2 then (bp (fX12_nodes a0 G11) fun v17 => if 0 < v17 then (bn (fX12_draw a0 8 G11) fun v18 G19 => bd v18 fun v20 => bp (fX12_nodes a0 G19) fun v21 => bn (fX12_draw a0 v21 G19) fun v22 G23 => bd v22 fun v24 => bp (fX12_nodes a0 G23) fun v25 => bn (fX12_draw a0 v25 G23) fun v26 G27 => bd v26 fun v28 => jn (fun (v29 : Int) (G30 : Hp) => bd v29 fun v32 => bp (fX12_doneBy v20 G30) fun v33 => bn (fX12_acts a0 3255 v33 v24 v32 G30) fun v34 G35 => bd v34 fun v36 => jn (fun (v37 : Int) => bd (iadd v9 v37) fun v39 => bd (iadd v10 1) fun v40 => rc12 v39 v40 G35) fun (K38 : Int → RT) => if v36 = 0 then K38 0 else K38 1) fun (K31 : Int → Hp → RT) => if v20 = 7 then (bn (fX12_draw a0 8 G27) fun v41 G42 => K31 v41 G42) else K31 v28 G27) else K13) else K13)) v7 v8 G6)))
set_option maxRecDepth 20000 in
set_option maxHeartbeats 4000000 in
theorem tX12_drives (l : Launch) (x : WX) (hi : Inj x.2.2) (G : Hp) (a0 : Nat) (a1 : Int) (a2 : Int) (a3 : Int) (ha0 : kd a0 = 12) : Ct l x yX12_drives cX12_drives 11 (some .int) 8 129 129 [vR a0, vI a1, vI a2, vI a3] G (fX12_drives a0 a1 a2 a3 G) := by
  refine ct_of (plainFor_of_name (by decide)) hi (Nat.le_refl _) (Nat.le_refl _) (Nat.le_of_ble_eq_true rfl) (fun cx F hd hn0 hnE hl hQ => ?_)
  subst hl
  have F : Fx cx x RX12 cX12_drives 11 (some .int) := F
  show Y cx x 11 (some .int) 129 0 [(0, vR a0), (1, vI a1), (2, vI a2), (3, vI a3)] [] G _
  unfold fX12_drives
  refine x_aload_n F dX12_drives_0 rfl rfl rfl ?_
  refine x_iconst F dX12_drives_1 ⟨by decide, by decide⟩ rfl ?_
  refine s_putI F fpX12_1 ha0 rfl dX12_drives_2 rfl (fun G1 => ?_)
  refine x_iload_n F dX12_drives_5 rfl rfl rfl ?_
  refine x_iconst F dX12_drives_6 ⟨by decide, by decide⟩ rfl ?_
  refine x_sipush F dX12_drives_7 ⟨by decide, by decide⟩ (by decide) rfl ?_
  refine s_callSP F [vI a1, vI 0, vI 9999] [] lkX12_401 mX12_within hnE hn0 hd pX12_within (tX12_within cx.l x hi G1 a1 0 9999) rfl rfl dX12_drives_10 rfl rfl (fun v2 => ?_)
  refine x_ifeq (pt := 35) F dX12_drives_13 rfl rfl ?_ ?_
  · refine x_iconst F dX12_drives_35 ⟨by decide, by decide⟩ rfl ?_
    exact x_iret F hnE hQ dX12_drives_36
  · refine x_iload_n F dX12_drives_16 rfl rfl rfl ?_
    refine x_iconst F dX12_drives_17 ⟨by decide, by decide⟩ rfl ?_
    refine x_bipush F dX12_drives_18 ⟨by decide, by decide⟩ (by decide) rfl ?_
    refine s_callSP F [vI a2, vI 1, vI 99] [] lkX12_401 mX12_within hnE hn0 hd pX12_within (tX12_within cx.l x hi G1 a2 1 99) rfl rfl dX12_drives_20 rfl rfl (fun v3 => ?_)
    refine x_ifeq (pt := 35) F dX12_drives_23 rfl rfl ?_ ?_
    · refine x_iconst F dX12_drives_35 ⟨by decide, by decide⟩ rfl ?_
      exact x_iret F hnE hQ dX12_drives_36
    · refine x_iload_n F dX12_drives_26 rfl rfl rfl ?_
      refine x_iconst F dX12_drives_27 ⟨by decide, by decide⟩ rfl ?_
      refine x_iconst F dX12_drives_28 ⟨by decide, by decide⟩ rfl ?_
      refine s_callSP F [vI a3, vI 0, vI 2] [] lkX12_401 mX12_within hnE hn0 hd pX12_within (tX12_within cx.l x hi G1 a3 0 2) rfl rfl dX12_drives_29 rfl rfl (fun v4 => ?_)
      refine x_ifne (pt := 37) F dX12_drives_32 rfl rfl ?_ ?_
      · refine x_iconst F dX12_drives_35 ⟨by decide, by decide⟩ rfl ?_
        exact x_iret F hnE hQ dX12_drives_36
      · refine x_aload_n F dX12_drives_37 rfl rfl rfl ?_
        refine x_iconst F dX12_drives_38 ⟨by decide, by decide⟩ rfl ?_
        refine x_sipush F dX12_drives_39 ⟨by decide, by decide⟩ (by decide) rfl ?_
        refine x_sipush F dX12_drives_42 ⟨by decide, by decide⟩ (by decide) rfl ?_
        refine s_callVv F [vI 0, vI 3255, vI 130] [] lkX12_275 mX12_copies rfl ha0 rfl hnE hn0 hd (tX12_copies cx.l x hi G1 a0 0 3255 130 ha0) rfl rfl dX12_drives_45 rfl rfl (fun _ G5 => ?_)
        refine x_aload_n F dX12_drives_48 rfl rfl rfl ?_
        refine x_iload_n F dX12_drives_49 rfl rfl rfl ?_
        refine x_i2l F dX12_drives_50 rfl ?_
        refine s_putJ F fpX12_486 ha0 rfl rfl dX12_drives_51 rfl (fun G6 => ?_)
        refine x_iconst F dX12_drives_54 ⟨by decide, by decide⟩ rfl ?_
        refine x_dp (L' := [(0, vR a0), (2, vI a2), (3, vI a3)]) [0, 2, 3] rfl ?_
        refine x_istore F dX12_drives_55 (by decide) rfl rfl (fun v7 => ?_)
        show Y cx x _ _ _ _ [(0, vR a0), (2, vI a2), (3, vI a3), (4, vI v7)] _ _ _
        refine x_iconst F dX12_drives_57 ⟨by decide, by decide⟩ rfl ?_
        refine x_istore F dX12_drives_58 (by decide) rfl rfl (fun v8 => ?_)
        show Y cx x _ _ _ _ [(0, vR a0), (2, vI a2), (3, vI a3), (4, vI v7), (5, vI v8)] _ _ _
        refine x_lp (fun (rc12 : Int → Int → Hp → RT) => ∀ (v9 : Int) (v10 : Int) (G11 : Hp), Y cx x 11 (some .int) 129 60 [(0, vR a0), (2, vI a2), (3, vI a3), (4, vI v9), (5, vI v10)] [] G11 (rc12 v9 v10 G11)) (fun _ _ _ => Y_none) (fun rc12 hrc12 v9 v10 G11 => ?_) 5000 v7 v8 G6
        refine x_iload F dX12_drives_60 rfl rfl ?_
        refine x_iload_n F dX12_drives_62 rfl rfl rfl ?_
        refine x_jn (fun (K13 : RT) => Y cx x 11 (some .int) 129 160 [(0, vR a0), (3, vI a3), (4, vI v9)] [] G11 K13) ?_ (fun K13 hK13 => ?_)
        · refine x_iload_n F dX12_drives_160 rfl rfl rfl ?_
          refine x_ifne (pt := 169) F dX12_drives_161 rfl rfl ?_ ?_
          · refine x_iload F dX12_drives_164 rfl rfl ?_
            refine x_goto (pc' := 194) F dX12_drives_166 rfl ?_
            exact x_iret F hnE hQ dX12_drives_194
          · refine x_iload_n F dX12_drives_169 rfl rfl rfl ?_
            refine x_iconst F dX12_drives_170 ⟨by decide, by decide⟩ rfl ?_
            refine x_icmpne (pt := 187) F dX12_drives_171 rfl rfl ?_ ?_
            · refine x_aload_n F dX12_drives_174 rfl rfl rfl ?_
              refine x_sipush F dX12_drives_175 ⟨by decide, by decide⟩ (by decide) rfl ?_
              refine s_callVP F [vI 3255] [] lkX12_316 mX12_inSet rfl ha0 rfl hnE hn0 hd pX12_inSet (tX12_inSet cx.l x hi G11 a0 3255 ha0) rfl rfl dX12_drives_178 rfl rfl (fun v15 => ?_)
              refine s_callSP F [vI v15] [] lkX12_340 mX12_manyOf hnE hn0 hd pX12_manyOf (tX12_manyOf cx.l x hi G11 v15) rfl rfl dX12_drives_181 rfl rfl (fun v16 => ?_)
              refine x_goto (pc' := 194) F dX12_drives_184 rfl ?_
              exact x_iret F hnE hQ dX12_drives_194
            · refine x_aload_n F dX12_drives_187 rfl rfl rfl ?_
              refine x_sipush F dX12_drives_188 ⟨by decide, by decide⟩ (by decide) rfl ?_
              refine s_callVP F [vI 3255] [] lkX12_450 mX12_amissBy rfl ha0 rfl hnE hn0 hd pX12_amissBy (tX12_amissBy cx.l x hi G11 a0 3255 ha0) rfl rfl dX12_drives_191 rfl rfl (fun v14 => ?_)
              exact x_iret F hnE hQ dX12_drives_194
        · refine x_icmpge (pt := 160) F dX12_drives_63 rfl rfl ?_ ?_
          · refine x_aload_n F dX12_drives_66 rfl rfl rfl ?_
            refine s_callVP F [] [] lkX12_236 mX12_nodes rfl ha0 rfl hnE hn0 hd pX12_nodes (tX12_nodes cx.l x hi G11 a0 ha0) rfl rfl dX12_drives_67 rfl rfl (fun v17 => ?_)
            refine x_ifle (pt := 160) F dX12_drives_70 rfl rfl ?_ ?_
            · refine x_aload_n F dX12_drives_73 rfl rfl rfl ?_
              refine x_bipush F dX12_drives_74 ⟨by decide, by decide⟩ (by decide) rfl ?_
              refine s_callV F [vI 8] [] lkX12_498 mX12_draw rfl ha0 rfl hnE hn0 hd (tX12_draw cx.l x hi G11 a0 8 ha0) rfl rfl dX12_drives_76 rfl rfl (fun v18 G19 => ?_)
              refine x_istore F dX12_drives_79 (by decide) rfl rfl (fun v20 => ?_)
              show Y cx x _ _ _ _ [(0, vR a0), (2, vI a2), (3, vI a3), (4, vI v9), (5, vI v10), (6, vI v20)] _ _ _
              refine x_aload_n F dX12_drives_81 rfl rfl rfl ?_
              refine x_aload_n F dX12_drives_82 rfl rfl rfl ?_
              refine s_callVP F [] [vR a0] lkX12_236 mX12_nodes rfl ha0 rfl hnE hn0 hd pX12_nodes (tX12_nodes cx.l x hi G19 a0 ha0) rfl rfl dX12_drives_83 rfl rfl (fun v21 => ?_)
              refine s_callV F [vI v21] [] lkX12_498 mX12_draw rfl ha0 rfl hnE hn0 hd (tX12_draw cx.l x hi G19 a0 v21 ha0) rfl rfl dX12_drives_86 rfl rfl (fun v22 G23 => ?_)
              refine x_istore F dX12_drives_89 (by decide) rfl rfl (fun v24 => ?_)
              show Y cx x _ _ _ _ [(0, vR a0), (2, vI a2), (3, vI a3), (4, vI v9), (5, vI v10), (6, vI v20), (7, vI v24)] _ _ _
              refine x_aload_n F dX12_drives_91 rfl rfl rfl ?_
              refine x_aload_n F dX12_drives_92 rfl rfl rfl ?_
              refine s_callVP F [] [vR a0] lkX12_236 mX12_nodes rfl ha0 rfl hnE hn0 hd pX12_nodes (tX12_nodes cx.l x hi G23 a0 ha0) rfl rfl dX12_drives_93 rfl rfl (fun v25 => ?_)
              refine s_callV F [vI v25] [] lkX12_498 mX12_draw rfl ha0 rfl hnE hn0 hd (tX12_draw cx.l x hi G23 a0 v25 ha0) rfl rfl dX12_drives_96 rfl rfl (fun v26 G27 => ?_)
              refine x_istore F dX12_drives_99 (by decide) rfl rfl (fun v28 => ?_)
              show Y cx x _ _ _ _ [(0, vR a0), (2, vI a2), (3, vI a3), (4, vI v9), (5, vI v10), (6, vI v20), (7, vI v24), (8, vI v28)] _ _ _
              refine x_iload F dX12_drives_101 rfl rfl ?_
              refine x_bipush F dX12_drives_103 ⟨by decide, by decide⟩ (by decide) rfl ?_
              refine x_jn (fun (K31 : Int → Hp → RT) => ∀ (v29 : Int) (G30 : Hp), Y cx x 11 (some .int) 129 119 [(0, vR a0), (2, vI a2), (3, vI a3), (4, vI v9), (5, vI v10), (6, vI v20), (7, vI v24)] [vI v29] G30 (K31 v29 G30)) ?_ (fun K31 hK31 => ?_)
              · intro v29 G30
                refine x_istore F dX12_drives_119 (by decide) rfl rfl (fun v32 => ?_)
                show Y cx x _ _ _ _ [(0, vR a0), (2, vI a2), (3, vI a3), (4, vI v9), (5, vI v10), (6, vI v20), (7, vI v24), (9, vI v32)] _ _ _
                refine x_aload_n F dX12_drives_121 rfl rfl rfl ?_
                refine x_sipush F dX12_drives_122 ⟨by decide, by decide⟩ (by decide) rfl ?_
                refine x_iload F dX12_drives_125 rfl rfl ?_
                refine s_callSP F [vI v20] [vI 3255, vR a0] lkX12_501 mX12_doneBy hnE hn0 hd pX12_doneBy (tX12_doneBy cx.l x hi G30 v20) rfl rfl dX12_drives_127 rfl rfl (fun v33 => ?_)
                refine x_iload F dX12_drives_130 rfl rfl ?_
                refine x_iload F dX12_drives_132 rfl rfl ?_
                refine s_callV F [vI 3255, vI v33, vI v24, vI v32] [] lkX12_404 mX12_acts rfl ha0 rfl hnE hn0 hd (tX12_acts cx.l x hi G30 a0 3255 v33 v24 v32 ha0) rfl rfl dX12_drives_134 rfl rfl (fun v34 G35 => ?_)
                refine x_dp (L' := [(0, vR a0), (2, vI a2), (3, vI a3), (4, vI v9), (5, vI v10)]) [0, 1, 2, 3, 4] rfl ?_
                refine x_istore F dX12_drives_137 (by decide) rfl rfl (fun v36 => ?_)
                show Y cx x _ _ _ _ [(0, vR a0), (2, vI a2), (3, vI a3), (4, vI v9), (5, vI v10), (10, vI v36)] _ _ _
                refine x_iload F dX12_drives_139 rfl rfl ?_
                refine x_iload F dX12_drives_141 rfl rfl ?_
                refine x_jn (fun (K38 : Int → RT) => ∀ (v37 : Int), Y cx x 11 (some .int) 129 151 [(0, vR a0), (2, vI a2), (3, vI a3), (5, vI v10)] [vI v37, vI v9] G35 (K38 v37)) ?_ (fun K38 hK38 => ?_)
                · intro v37
                  refine x_iadd F dX12_drives_151 rfl ?_
                  refine x_istore F dX12_drives_152 (by decide) rfl rfl (fun v39 => ?_)
                  show Y cx x _ _ _ _ [(0, vR a0), (2, vI a2), (3, vI a3), (5, vI v10), (4, vI v39)] _ _ _
                  refine x_iinc F dX12_drives_154 rfl (by decide) rfl rfl (fun v40 => ?_)
                  show Y cx x _ _ _ _ [(0, vR a0), (2, vI a2), (3, vI a3), (5, vI v40), (4, vI v39)] _ _ _
                  refine x_goto (pc' := 60) F dX12_drives_157 rfl ?_
                  refine x_dp (L' := [(0, vR a0), (2, vI a2), (3, vI a3), (4, vI v39), (5, vI v40)]) [0, 1, 2, 4, 3] rfl ?_
                  exact hrc12 v39 v40 G35
                · refine x_ifeq (pt := 150) F dX12_drives_143 rfl rfl ?_ ?_
                  · refine x_iconst F dX12_drives_150 ⟨by decide, by decide⟩ rfl ?_
                    refine x_dp (L' := [(0, vR a0), (2, vI a2), (3, vI a3), (5, vI v10)]) [0, 1, 2, 4] rfl ?_
                    exact hK38 0
                  · refine x_iconst F dX12_drives_146 ⟨by decide, by decide⟩ rfl ?_
                    refine x_goto (pc' := 151) F dX12_drives_147 rfl ?_
                    refine x_dp (L' := [(0, vR a0), (2, vI a2), (3, vI a3), (5, vI v10)]) [0, 1, 2, 4] rfl ?_
                    exact hK38 1
              · refine x_icmpne (pt := 117) F dX12_drives_105 rfl rfl ?_ ?_
                · refine x_aload_n F dX12_drives_108 rfl rfl rfl ?_
                  refine x_bipush F dX12_drives_109 ⟨by decide, by decide⟩ (by decide) rfl ?_
                  refine s_callV F [vI 8] [] lkX12_498 mX12_draw rfl ha0 rfl hnE hn0 hd (tX12_draw cx.l x hi G27 a0 8 ha0) rfl rfl dX12_drives_111 rfl rfl (fun v41 G42 => ?_)
                  refine x_goto (pc' := 119) F dX12_drives_114 rfl ?_
                  refine x_dp (L' := [(0, vR a0), (2, vI a2), (3, vI a3), (4, vI v9), (5, vI v10), (6, vI v20), (7, vI v24)]) [0, 1, 2, 3, 4, 5, 6] rfl ?_
                  exact hK31 v41 G42
                · refine x_iload F dX12_drives_117 rfl rfl ?_
                  refine x_dp (L' := [(0, vR a0), (2, vI a2), (3, vI a3), (4, vI v9), (5, vI v10), (6, vI v20), (7, vI v24)]) [0, 1, 2, 3, 4, 5, 6] rfl ?_
                  exact hK31 v28 G27
            · refine x_dp (L' := [(0, vR a0), (3, vI a3), (4, vI v9)]) [0, 2, 3] rfl ?_
              exact hK13
          · refine x_dp (L' := [(0, vR a0), (3, vI a3), (4, vI v9)]) [0, 2, 3] rfl ?_
            exact hK13
