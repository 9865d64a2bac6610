theorem dX12_thrown_0 : decode cX12_thrown 0 = .ok (.aload_n 0, 1) := by decide +kernel
theorem dX12_thrown_1 : decode cX12_thrown 1 = .ok (.getfield 1, 3) := by decide +kernel
theorem dX12_thrown_4 : decode cX12_thrown 4 = .ok (.ireturn, 1) := by decide +kernel
def fX12_thrown (a0 : Nat) (G : Hp) : RT := rt (G a0 0) G
theorem pX12_thrown {G : Hp} {a0 : Nat} : PU G (fX12_thrown a0 G) := by
  unfold fX12_thrown
  exact PU_rt
set_option maxRecDepth 20000 in
set_option maxHeartbeats 4000000 in
theorem tX12_thrown (l : Launch) (x : WX) (hi : Inj x.2.2) (G : Hp) (a0 : Nat) (ha0 : kd a0 = 12) : Ct l x yX12_thrown cX12_thrown 1 (some .int) 0 129 129 [vR a0] G (fX12_thrown a0 G) := by
  refine ct_of (plainFor_of_name (by decide)) hi (Nat.le_refl _) (Nat.le_refl _) (Nat.le_of_ble_eq_true rfl) (fun cx F hd hn0 hnE hl hQ => ?_)
  subst hl
  have F : Fx cx x RX12 cX12_thrown 1 (some .int) := F
  show Y cx x 1 (some .int) 129 0 [(0, vR a0)] [] G _
  unfold fX12_thrown
  refine x_aload_n F dX12_thrown_0 rfl rfl rfl ?_
  refine s_getI F flX12_1 ha0 rfl dX12_thrown_1 rfl ?_
  exact x_iret F hnE hQ dX12_thrown_4
theorem dX12_lay_0 : decode cX12_lay 0 = .ok (.bipush 56, 2) := by decide +kernel
theorem dX12_lay_2 : decode cX12_lay 2 = .ok (.istore_n 3, 1) := by decide +kernel
theorem dX12_lay_3 : decode cX12_lay 3 = .ok (.iload_n 3, 1) := by decide +kernel
theorem dX12_lay_4 : decode cX12_lay 4 = .ok (.ifCond .lt 71, 3) := by decide +kernel
theorem dX12_lay_7 : decode cX12_lay 7 = .ok (.lload_n 1, 1) := by decide +kernel
theorem dX12_lay_8 : decode cX12_lay 8 = .ok (.iload_n 3, 1) := by decide +kernel
theorem dX12_lay_9 : decode cX12_lay 9 = .ok (.lshr, 1) := by decide +kernel
theorem dX12_lay_10 : decode cX12_lay 10 = .ok (.l2i, 1) := by decide +kernel
theorem dX12_lay_11 : decode cX12_lay 11 = .ok (.sipush 255, 3) := by decide +kernel
theorem dX12_lay_14 : decode cX12_lay 14 = .ok (.iand, 1) := by decide +kernel
theorem dX12_lay_15 : decode cX12_lay 15 = .ok (.istore 4, 2) := by decide +kernel
theorem dX12_lay_17 : decode cX12_lay 17 = .ok (.iload 4, 2) := by decide +kernel
theorem dX12_lay_19 : decode cX12_lay 19 = .ok (.bipush 10, 2) := by decide +kernel
theorem dX12_lay_21 : decode cX12_lay 21 = .ok (.if_icmp .eq 17, 3) := by decide +kernel
theorem dX12_lay_24 : decode cX12_lay 24 = .ok (.iload 4, 2) := by decide +kernel
theorem dX12_lay_26 : decode cX12_lay 26 = .ok (.bipush 32, 2) := by decide +kernel
theorem dX12_lay_28 : decode cX12_lay 28 = .ok (.if_icmp .lt 41, 3) := by decide +kernel
theorem dX12_lay_31 : decode cX12_lay 31 = .ok (.iload 4, 2) := by decide +kernel
theorem dX12_lay_33 : decode cX12_lay 33 = .ok (.bipush 126, 2) := by decide +kernel
theorem dX12_lay_35 : decode cX12_lay 35 = .ok (.if_icmp .gt 34, 3) := by decide +kernel
theorem dX12_lay_38 : decode cX12_lay 38 = .ok (.aload_n 0, 1) := by decide +kernel
theorem dX12_lay_39 : decode cX12_lay 39 = .ok (.getfield 11, 3) := by decide +kernel
theorem dX12_lay_42 : decode cX12_lay 42 = .ok (.sipush 1000, 3) := by decide +kernel
theorem dX12_lay_45 : decode cX12_lay 45 = .ok (.if_icmp .ge 24, 3) := by decide +kernel
theorem dX12_lay_48 : decode cX12_lay 48 = .ok (.aload_n 0, 1) := by decide +kernel
theorem dX12_lay_49 : decode cX12_lay 49 = .ok (.getfield 14, 3) := by decide +kernel
theorem dX12_lay_52 : decode cX12_lay 52 = .ok (.aload_n 0, 1) := by decide +kernel
theorem dX12_lay_53 : decode cX12_lay 53 = .ok (.getfield 11, 3) := by decide +kernel
theorem dX12_lay_56 : decode cX12_lay 56 = .ok (.iload 4, 2) := by decide +kernel
theorem dX12_lay_58 : decode cX12_lay 58 = .ok (.iastore, 1) := by decide +kernel
theorem dX12_lay_59 : decode cX12_lay 59 = .ok (.aload_n 0, 1) := by decide +kernel
theorem dX12_lay_60 : decode cX12_lay 60 = .ok (.dup, 1) := by decide +kernel
theorem dX12_lay_61 : decode cX12_lay 61 = .ok (.getfield 11, 3) := by decide +kernel
theorem dX12_lay_64 : decode cX12_lay 64 = .ok (.iconst 1, 1) := by decide +kernel
theorem dX12_lay_65 : decode cX12_lay 65 = .ok (.iadd, 1) := by decide +kernel
theorem dX12_lay_66 : decode cX12_lay 66 = .ok (.putfield 11, 3) := by decide +kernel
theorem dX12_lay_69 : decode cX12_lay 69 = .ok (.iinc 3 (-8), 3) := by decide +kernel
theorem dX12_lay_72 : decode cX12_lay 72 = .ok (.goto (-69), 3) := by decide +kernel
theorem dX12_lay_75 : decode cX12_lay 75 = .ok (.return_, 1) := by decide +kernel
def fX12_lay (a0 : Nat) (a1 : Int) (G : Hp) : RT := bd 56 fun v1 => (lp (fun (_ : Int) (_ : Hp) => (none : RT)) 5000 (fun (rc4 : Int → Hp → RT) (v2 : Int) (G3 : Hp) => if v2 < 0 then rt 0 G3 else (bd (iand (l2i (lshr a1 v2)) 255) fun v5 => jn (fun (G6 : Hp) => bd (iadd v2 (-8)) fun v8 => rc4 v8 G6) fun (K7 : Hp → RT) => jn (if (G3 a0 2) < 1000 then (bs (wr G3 ((rf a0 1)) 1000 (G3 a0 2) v5) fun G10 => bh (up G10 a0 2 (iadd (G10 a0 2) 1)) fun G11 => K7 G11) else K7 G3) fun (K9 : RT) => if v5 = 10 then K9 else (if v5 < 32 then K7 G3 else (if 126 < v5 then K7 G3 else K9))))) v1 G
set_option maxRecDepth 20000 in
set_option maxHeartbeats 4000000 in
theorem tX12_lay (l : Launch) (x : WX) (hi : Inj x.2.2) (G : Hp) (a0 : Nat) (a1 : Int) (ha0 : kd a0 = 12) : Ct l x yX12_lay cX12_lay 5 none 0 129 129 [vR a0, vL a1] G (fX12_lay a0 a1 G) := by
  refine ct_of (plainFor_of_name (by decide)) hi (Nat.le_refl _) (Nat.le_refl _) (Nat.le_of_ble_eq_true rfl) (fun cx F hd hn0 hnE hl hQ => ?_)
  subst hl
  have F : Fx cx x RX12 cX12_lay 5 none := F
  show Y cx x 5 none 129 0 [(0, vR a0), (1, vL a1)] [] G _
  unfold fX12_lay
  refine x_bipush F dX12_lay_0 ⟨by decide, by decide⟩ (by decide) rfl ?_
  refine x_istore_n F dX12_lay_2 rfl (by decide) rfl rfl (fun v1 => ?_)
  show Y cx x _ _ _ _ [(0, vR a0), (1, vL a1), (3, vI v1)] _ _ _
  refine x_lp (fun (rc4 : Int → Hp → RT) => ∀ (v2 : Int) (G3 : Hp), Y cx x 5 none 129 3 [(0, vR a0), (1, vL a1), (3, vI v2)] [] G3 (rc4 v2 G3)) (fun _ _ => Y_none) (fun rc4 hrc4 v2 G3 => ?_) 5000 v1 G
  refine x_iload_n F dX12_lay_3 rfl rfl rfl ?_
  refine x_iflt (pt := 75) F dX12_lay_4 rfl rfl ?_ ?_
  · exact x_vret F hnE hQ dX12_lay_75
  · refine x_lload_n F dX12_lay_7 rfl rfl rfl ?_
    refine x_iload_n F dX12_lay_8 rfl rfl rfl ?_
    refine x_lshr F dX12_lay_9 rfl ?_
    refine x_l2i F dX12_lay_10 rfl ?_
    refine x_sipush F dX12_lay_11 ⟨by decide, by decide⟩ (by decide) rfl ?_
    refine x_iand F dX12_lay_14 rfl ?_
    refine x_istore F dX12_lay_15 (by decide) rfl rfl (fun v5 => ?_)
    show Y cx x _ _ _ _ [(0, vR a0), (1, vL a1), (3, vI v2), (4, vI v5)] _ _ _
    refine x_iload F dX12_lay_17 rfl rfl ?_
    refine x_bipush F dX12_lay_19 ⟨by decide, by decide⟩ (by decide) rfl ?_
    refine x_jn (fun (K7 : Hp → RT) => ∀ (G6 : Hp), Y cx x 5 none 129 69 [(0, vR a0), (1, vL a1), (3, vI v2)] [] G6 (K7 G6)) ?_ (fun K7 hK7 => ?_)
    · intro G6
      refine x_iinc F dX12_lay_69 rfl (by decide) rfl rfl (fun v8 => ?_)
      show Y cx x _ _ _ _ [(0, vR a0), (1, vL a1), (3, vI v8)] _ _ _
      refine x_goto (pc' := 3) F dX12_lay_72 rfl ?_
      exact hrc4 v8 G6
    · refine x_jn (fun (K9 : RT) => Y cx x 5 none 129 38 [(0, vR a0), (1, vL a1), (3, vI v2), (4, vI v5)] [] G3 K9) ?_ (fun K9 hK9 => ?_)
      · refine x_aload_n F dX12_lay_38 rfl rfl rfl ?_
        refine s_getI F flX12_11 ha0 rfl dX12_lay_39 rfl ?_
        refine x_sipush F dX12_lay_42 ⟨by decide, by decide⟩ (by decide) rfl ?_
        refine x_icmpge (pt := 69) F dX12_lay_45 rfl rfl ?_ ?_
        · refine x_aload_n F dX12_lay_48 rfl rfl rfl ?_
          refine x_getR F flX12_14 ha0 rfl dX12_lay_49 rfl ?_
          refine x_aload_n F dX12_lay_52 rfl rfl rfl ?_
          refine s_getI F flX12_11 ha0 rfl dX12_lay_53 rfl ?_
          refine x_iload F dX12_lay_56 rfl rfl ?_
          refine s_iast F (tf12_1 ha0).1 (tf12_1 ha0).2 dX12_lay_58 rfl (fun G10 => ?_)
          refine x_aload_n F dX12_lay_59 rfl rfl rfl ?_
          refine x_dup F dX12_lay_60 rfl rfl ?_
          refine s_getI F flX12_11 ha0 rfl dX12_lay_61 rfl ?_
          refine x_iconst F dX12_lay_64 ⟨by decide, by decide⟩ rfl ?_
          refine x_iadd F dX12_lay_65 rfl ?_
          refine s_putI F fpX12_11 ha0 rfl dX12_lay_66 rfl (fun G11 => ?_)
          refine x_dp (L' := [(0, vR a0), (1, vL a1), (3, vI v2)]) [0, 1, 2] rfl ?_
          exact hK7 G11
        · refine x_dp (L' := [(0, vR a0), (1, vL a1), (3, vI v2)]) [0, 1, 2] rfl ?_
          exact hK7 G3
      · refine x_icmpeq (pt := 38) F dX12_lay_21 rfl rfl ?_ ?_
        · exact hK9
        · refine x_iload F dX12_lay_24 rfl rfl ?_
          refine x_bipush F dX12_lay_26 ⟨by decide, by decide⟩ (by decide) rfl ?_
          refine x_icmplt (pt := 69) F dX12_lay_28 rfl rfl ?_ ?_
          · refine x_dp (L' := [(0, vR a0), (1, vL a1), (3, vI v2)]) [0, 1, 2] rfl ?_
            exact hK7 G3
          · refine x_iload F dX12_lay_31 rfl rfl ?_
            refine x_bipush F dX12_lay_33 ⟨by decide, by decide⟩ (by decide) rfl ?_
            refine x_icmpgt (pt := 69) F dX12_lay_35 rfl rfl ?_ ?_
            · refine x_dp (L' := [(0, vR a0), (1, vL a1), (3, vI v2)]) [0, 1, 2] rfl ?_
              exact hK7 G3
            · exact hK9
theorem dX12_isLetter_0 : decode cX12_isLetter 0 = .ok (.iload_n 0, 1) := by decide +kernel
theorem dX12_isLetter_1 : decode cX12_isLetter 1 = .ok (.bipush 97, 2) := by decide +kernel
theorem dX12_isLetter_3 : decode cX12_isLetter 3 = .ok (.if_icmp .lt 13, 3) := by decide +kernel
theorem dX12_isLetter_6 : decode cX12_isLetter 6 = .ok (.iload_n 0, 1) := by decide +kernel
theorem dX12_isLetter_7 : decode cX12_isLetter 7 = .ok (.bipush 122, 2) := by decide +kernel
theorem dX12_isLetter_9 : decode cX12_isLetter 9 = .ok (.if_icmp .gt 7, 3) := by decide +kernel
theorem dX12_isLetter_12 : decode cX12_isLetter 12 = .ok (.iconst 1, 1) := by decide +kernel
theorem dX12_isLetter_13 : decode cX12_isLetter 13 = .ok (.goto 4, 3) := by decide +kernel
theorem dX12_isLetter_16 : decode cX12_isLetter 16 = .ok (.iconst 0, 1) := by decide +kernel
theorem dX12_isLetter_17 : decode cX12_isLetter 17 = .ok (.ireturn, 1) := by decide +kernel
def fX12_isLetter (a0 : Int) (G : Hp) : RT := if a0 < 97 then rz 0 G else (if 122 < a0 then rz 0 G else rz 1 G)
theorem pX12_isLetter {G : Hp} {a0 : Int} : PU G (fX12_isLetter a0 G) := by
  unfold fX12_isLetter
  refine PU_ite ?_ ?_
  · exact PU_rz
  · refine PU_ite ?_ ?_
    · exact PU_rz
    · exact PU_rz
set_option maxRecDepth 20000 in
set_option maxHeartbeats 4000000 in
theorem tX12_isLetter (l : Launch) (x : WX) (hi : Inj x.2.2) (G : Hp) (a0 : Int)  : Ct l x yX12_isLetter cX12_isLetter 1 (some .boolean) 0 129 129 [vI a0] G (fX12_isLetter a0 G) := by
  refine ct_of (plainFor_of_name (by decide)) hi (Nat.le_refl _) (Nat.le_refl _) (Nat.le_of_ble_eq_true rfl) (fun cx F hd hn0 hnE hl hQ => ?_)
  subst hl
  have F : Fx cx x RX12 cX12_isLetter 1 (some .boolean) := F
  show Y cx x 1 (some .boolean) 129 0 [(0, vI a0)] [] G _
  unfold fX12_isLetter
  refine x_iload_n F dX12_isLetter_0 rfl rfl rfl ?_
  refine x_bipush F dX12_isLetter_1 ⟨by decide, by decide⟩ (by decide) rfl ?_
  refine x_icmplt (pt := 16) F dX12_isLetter_3 rfl rfl ?_ ?_
  · refine x_iconst F dX12_isLetter_16 ⟨by decide, by decide⟩ rfl ?_
    exact x_zret F hnE hQ dX12_isLetter_17
  · refine x_iload_n F dX12_isLetter_6 rfl rfl rfl ?_
    refine x_bipush F dX12_isLetter_7 ⟨by decide, by decide⟩ (by decide) rfl ?_
    refine x_icmpgt (pt := 16) F dX12_isLetter_9 rfl rfl ?_ ?_
    · refine x_iconst F dX12_isLetter_16 ⟨by decide, by decide⟩ rfl ?_
      exact x_zret F hnE hQ dX12_isLetter_17
    · refine x_iconst F dX12_isLetter_12 ⟨by decide, by decide⟩ rfl ?_
      refine x_goto (pc' := 17) F dX12_isLetter_13 rfl ?_
      exact x_zret F hnE hQ dX12_isLetter_17
theorem dX12_isDigit_0 : decode cX12_isDigit 0 = .ok (.iload_n 0, 1) := by decide +kernel
theorem dX12_isDigit_1 : decode cX12_isDigit 1 = .ok (.bipush 48, 2) := by decide +kernel
theorem dX12_isDigit_3 : decode cX12_isDigit 3 = .ok (.if_icmp .lt 13, 3) := by decide +kernel
theorem dX12_isDigit_6 : decode cX12_isDigit 6 = .ok (.iload_n 0, 1) := by decide +kernel
theorem dX12_isDigit_7 : decode cX12_isDigit 7 = .ok (.bipush 57, 2) := by decide +kernel
theorem dX12_isDigit_9 : decode cX12_isDigit 9 = .ok (.if_icmp .gt 7, 3) := by decide +kernel
theorem dX12_isDigit_12 : decode cX12_isDigit 12 = .ok (.iconst 1, 1) := by decide +kernel
theorem dX12_isDigit_13 : decode cX12_isDigit 13 = .ok (.goto 4, 3) := by decide +kernel
theorem dX12_isDigit_16 : decode cX12_isDigit 16 = .ok (.iconst 0, 1) := by decide +kernel
theorem dX12_isDigit_17 : decode cX12_isDigit 17 = .ok (.ireturn, 1) := by decide +kernel
def fX12_isDigit (a0 : Int) (G : Hp) : RT := if a0 < 48 then rz 0 G else (if 57 < a0 then rz 0 G else rz 1 G)
theorem pX12_isDigit {G : Hp} {a0 : Int} : PU G (fX12_isDigit a0 G) := by
  unfold fX12_isDigit
  refine PU_ite ?_ ?_
  · exact PU_rz
  · refine PU_ite ?_ ?_
    · exact PU_rz
    · exact PU_rz
set_option maxRecDepth 20000 in
set_option maxHeartbeats 4000000 in
theorem tX12_isDigit (l : Launch) (x : WX) (hi : Inj x.2.2) (G : Hp) (a0 : Int)  : Ct l x yX12_isDigit cX12_isDigit 1 (some .boolean) 0 129 129 [vI a0] G (fX12_isDigit a0 G) := by
  refine ct_of (plainFor_of_name (by decide)) hi (Nat.le_refl _) (Nat.le_refl _) (Nat.le_of_ble_eq_true rfl) (fun cx F hd hn0 hnE hl hQ => ?_)
  subst hl
  have F : Fx cx x RX12 cX12_isDigit 1 (some .boolean) := F
  show Y cx x 1 (some .boolean) 129 0 [(0, vI a0)] [] G _
  unfold fX12_isDigit
  refine x_iload_n F dX12_isDigit_0 rfl rfl rfl ?_
  refine x_bipush F dX12_isDigit_1 ⟨by decide, by decide⟩ (by decide) rfl ?_
  refine x_icmplt (pt := 16) F dX12_isDigit_3 rfl rfl ?_ ?_
  · refine x_iconst F dX12_isDigit_16 ⟨by decide, by decide⟩ rfl ?_
    exact x_zret F hnE hQ dX12_isDigit_17
  · refine x_iload_n F dX12_isDigit_6 rfl rfl rfl ?_
    refine x_bipush F dX12_isDigit_7 ⟨by decide, by decide⟩ (by decide) rfl ?_
    refine x_icmpgt (pt := 16) F dX12_isDigit_9 rfl rfl ?_ ?_
    · refine x_iconst F dX12_isDigit_16 ⟨by decide, by decide⟩ rfl ?_
      exact x_zret F hnE hQ dX12_isDigit_17
    · refine x_iconst F dX12_isDigit_12 ⟨by decide, by decide⟩ rfl ?_
      refine x_goto (pc' := 17) F dX12_isDigit_13 rfl ?_
      exact x_zret F hnE hQ dX12_isDigit_17
theorem dX12_isSignOf_0 : decode cX12_isSignOf 0 = .ok (.iload_n 0, 1) := by decide +kernel
theorem dX12_isSignOf_1 : decode cX12_isSignOf 1 = .ok (.bipush 40, 2) := by decide +kernel
theorem dX12_isSignOf_3 : decode cX12_isSignOf 3 = .ok (.if_icmp .eq 45, 3) := by decide +kernel
theorem dX12_isSignOf_6 : decode cX12_isSignOf 6 = .ok (.iload_n 0, 1) := by decide +kernel
theorem dX12_isSignOf_7 : decode cX12_isSignOf 7 = .ok (.bipush 41, 2) := by decide +kernel
theorem dX12_isSignOf_9 : decode cX12_isSignOf 9 = .ok (.if_icmp .eq 39, 3) := by decide +kernel
theorem dX12_isSignOf_12 : decode cX12_isSignOf 12 = .ok (.iload_n 0, 1) := by decide +kernel
theorem dX12_isSignOf_13 : decode cX12_isSignOf 13 = .ok (.bipush 59, 2) := by decide +kernel
theorem dX12_isSignOf_15 : decode cX12_isSignOf 15 = .ok (.if_icmp .eq 33, 3) := by decide +kernel
theorem dX12_isSignOf_18 : decode cX12_isSignOf 18 = .ok (.iload_n 0, 1) := by decide +kernel
theorem dX12_isSignOf_19 : decode cX12_isSignOf 19 = .ok (.bipush 61, 2) := by decide +kernel
theorem dX12_isSignOf_21 : decode cX12_isSignOf 21 = .ok (.if_icmp .eq 27, 3) := by decide +kernel
theorem dX12_isSignOf_24 : decode cX12_isSignOf 24 = .ok (.iload_n 0, 1) := by decide +kernel
theorem dX12_isSignOf_25 : decode cX12_isSignOf 25 = .ok (.bipush 60, 2) := by decide +kernel
theorem dX12_isSignOf_27 : decode cX12_isSignOf 27 = .ok (.if_icmp .eq 21, 3) := by decide +kernel
theorem dX12_isSignOf_30 : decode cX12_isSignOf 30 = .ok (.iload_n 0, 1) := by decide +kernel
theorem dX12_isSignOf_31 : decode cX12_isSignOf 31 = .ok (.bipush 43, 2) := by decide +kernel
theorem dX12_isSignOf_33 : decode cX12_isSignOf 33 = .ok (.if_icmp .eq 15, 3) := by decide +kernel
theorem dX12_isSignOf_36 : decode cX12_isSignOf 36 = .ok (.iload_n 0, 1) := by decide +kernel
theorem dX12_isSignOf_37 : decode cX12_isSignOf 37 = .ok (.bipush 45, 2) := by decide +kernel
theorem dX12_isSignOf_39 : decode cX12_isSignOf 39 = .ok (.if_icmp .eq 9, 3) := by decide +kernel
theorem dX12_isSignOf_42 : decode cX12_isSignOf 42 = .ok (.iload_n 0, 1) := by decide +kernel
theorem dX12_isSignOf_43 : decode cX12_isSignOf 43 = .ok (.bipush 42, 2) := by decide +kernel
theorem dX12_isSignOf_45 : decode cX12_isSignOf 45 = .ok (.if_icmp .ne 7, 3) := by decide +kernel
theorem dX12_isSignOf_48 : decode cX12_isSignOf 48 = .ok (.iconst 1, 1) := by decide +kernel
theorem dX12_isSignOf_49 : decode cX12_isSignOf 49 = .ok (.goto 4, 3) := by decide +kernel
theorem dX12_isSignOf_52 : decode cX12_isSignOf 52 = .ok (.iconst 0, 1) := by decide +kernel
theorem dX12_isSignOf_53 : decode cX12_isSignOf 53 = .ok (.ireturn, 1) := by decide +kernel
def fX12_isSignOf (a0 : Int) (G : Hp) : RT := jn (rz 1 G) fun (K1 : RT) => if a0 = 40 then K1 else (if a0 = 41 then K1 else (if a0 = 59 then K1 else (if a0 = 61 then K1 else (if a0 = 60 then K1 else (if a0 = 43 then K1 else (if a0 = 45 then K1 else (if a0 = 42 then K1 else rz 0 G)))))))
theorem pX12_isSignOf {G : Hp} {a0 : Int} : PU G (fX12_isSignOf a0 G) := by
  unfold fX12_isSignOf
  refine PU_jn (fun (K1 : RT) => PU G (K1)) ?_ (fun K1 phK1 => ?_)
  · exact PU_rz
  · refine PU_ite ?_ ?_
    · exact phK1
    · refine PU_ite ?_ ?_
      · exact phK1
      · refine PU_ite ?_ ?_
        · exact phK1
        · refine PU_ite ?_ ?_
          · exact phK1
          · refine PU_ite ?_ ?_
            · exact phK1
            · refine PU_ite ?_ ?_
              · exact phK1
              · refine PU_ite ?_ ?_
                · exact phK1
                · refine PU_ite ?_ ?_
                  · exact phK1
                  · exact PU_rz
set_option maxRecDepth 20000 in
set_option maxHeartbeats 4000000 in
theorem tX12_isSignOf (l : Launch) (x : WX) (hi : Inj x.2.2) (G : Hp) (a0 : Int)  : Ct l x yX12_isSignOf cX12_isSignOf 1 (some .boolean) 0 129 129 [vI a0] G (fX12_isSignOf a0 G) := by
  refine ct_of (plainFor_of_name (by decide)) hi (Nat.le_refl _) (Nat.le_refl _) (Nat.le_of_ble_eq_true rfl) (fun cx F hd hn0 hnE hl hQ => ?_)
  subst hl
  have F : Fx cx x RX12 cX12_isSignOf 1 (some .boolean) := F
  show Y cx x 1 (some .boolean) 129 0 [(0, vI a0)] [] G _
  unfold fX12_isSignOf
  refine x_iload_n F dX12_isSignOf_0 rfl rfl rfl ?_
  refine x_bipush F dX12_isSignOf_1 ⟨by decide, by decide⟩ (by decide) rfl ?_
  refine x_jn (fun (K1 : RT) => Y cx x 1 (some .boolean) 129 48 [] [] G K1) ?_ (fun K1 hK1 => ?_)
  · refine x_iconst F dX12_isSignOf_48 ⟨by decide, by decide⟩ rfl ?_
    refine x_goto (pc' := 53) F dX12_isSignOf_49 rfl ?_
    exact x_zret F hnE hQ dX12_isSignOf_53
  · refine x_icmpeq (pt := 48) F dX12_isSignOf_3 rfl rfl ?_ ?_
    · refine x_dp (L' := []) [] rfl ?_
      exact hK1
    · refine x_iload_n F dX12_isSignOf_6 rfl rfl rfl ?_
      refine x_bipush F dX12_isSignOf_7 ⟨by decide, by decide⟩ (by decide) rfl ?_
      refine x_icmpeq (pt := 48) F dX12_isSignOf_9 rfl rfl ?_ ?_
      · refine x_dp (L' := []) [] rfl ?_
        exact hK1
      · refine x_iload_n F dX12_isSignOf_12 rfl rfl rfl ?_
        refine x_bipush F dX12_isSignOf_13 ⟨by decide, by decide⟩ (by decide) rfl ?_
        refine x_icmpeq (pt := 48) F dX12_isSignOf_15 rfl rfl ?_ ?_
        · refine x_dp (L' := []) [] rfl ?_
          exact hK1
        · refine x_iload_n F dX12_isSignOf_18 rfl rfl rfl ?_
          refine x_bipush F dX12_isSignOf_19 ⟨by decide, by decide⟩ (by decide) rfl ?_
          refine x_icmpeq (pt := 48) F dX12_isSignOf_21 rfl rfl ?_ ?_
          · refine x_dp (L' := []) [] rfl ?_
            exact hK1
          · refine x_iload_n F dX12_isSignOf_24 rfl rfl rfl ?_
            refine x_bipush F dX12_isSignOf_25 ⟨by decide, by decide⟩ (by decide) rfl ?_
            refine x_icmpeq (pt := 48) F dX12_isSignOf_27 rfl rfl ?_ ?_
            · refine x_dp (L' := []) [] rfl ?_
              exact hK1
            · refine x_iload_n F dX12_isSignOf_30 rfl rfl rfl ?_
              refine x_bipush F dX12_isSignOf_31 ⟨by decide, by decide⟩ (by decide) rfl ?_
              refine x_icmpeq (pt := 48) F dX12_isSignOf_33 rfl rfl ?_ ?_
              · refine x_dp (L' := []) [] rfl ?_
                exact hK1
              · refine x_iload_n F dX12_isSignOf_36 rfl rfl rfl ?_
                refine x_bipush F dX12_isSignOf_37 ⟨by decide, by decide⟩ (by decide) rfl ?_
                refine x_icmpeq (pt := 48) F dX12_isSignOf_39 rfl rfl ?_ ?_
                · refine x_dp (L' := []) [] rfl ?_
                  exact hK1
                · refine x_iload_n F dX12_isSignOf_42 rfl rfl rfl ?_
                  refine x_bipush F dX12_isSignOf_43 ⟨by decide, by decide⟩ (by decide) rfl ?_
                  refine x_icmpne (pt := 52) F dX12_isSignOf_45 rfl rfl ?_ ?_
                  · refine x_dp (L' := []) [] rfl ?_
                    exact hK1
                  · refine x_iconst F dX12_isSignOf_52 ⟨by decide, by decide⟩ rfl ?_
                    exact x_zret F hnE hQ dX12_isSignOf_53
theorem dX12_wrong_0 : decode cX12_wrong 0 = .ok (.aload_n 0, 1) := by decide +kernel
theorem dX12_wrong_1 : decode cX12_wrong 1 = .ok (.getfield 157, 3) := by decide +kernel
theorem dX12_wrong_4 : decode cX12_wrong 4 = .ok (.ifCond .ne 21, 3) := by decide +kernel
theorem dX12_wrong_7 : decode cX12_wrong 7 = .ok (.aload_n 0, 1) := by decide +kernel
theorem dX12_wrong_8 : decode cX12_wrong 8 = .ok (.iload_n 1, 1) := by decide +kernel
theorem dX12_wrong_9 : decode cX12_wrong 9 = .ok (.bipush 16, 2) := by decide +kernel
theorem dX12_wrong_11 : decode cX12_wrong 11 = .ok (.aload_n 0, 1) := by decide +kernel
theorem dX12_wrong_12 : decode cX12_wrong 12 = .ok (.getfield 27, 3) := by decide +kernel
theorem dX12_wrong_15 : decode cX12_wrong 15 = .ok (.aload_n 0, 1) := by decide +kernel
theorem dX12_wrong_16 : decode cX12_wrong 16 = .ok (.getfield 154, 3) := by decide +kernel
theorem dX12_wrong_19 : decode cX12_wrong 19 = .ok (.iaload, 1) := by decide +kernel
theorem dX12_wrong_20 : decode cX12_wrong 20 = .ok (.imul, 1) := by decide +kernel
theorem dX12_wrong_21 : decode cX12_wrong 21 = .ok (.iadd, 1) := by decide +kernel
theorem dX12_wrong_22 : decode cX12_wrong 22 = .ok (.putfield 157, 3) := by decide +kernel
theorem dX12_wrong_25 : decode cX12_wrong 25 = .ok (.return_, 1) := by decide +kernel
def fX12_wrong (a0 : Nat) (a1 : Int) (G : Hp) : RT := if (G a0 8) = 0 then (br (rd G ((rf a0 5)) 1002 (G a0 7)) fun v1 => bh (up G a0 8 (iadd a1 (imul 16 v1))) fun G2 => rt 0 G2) else rt 0 G
set_option maxRecDepth 20000 in
set_option maxHeartbeats 4000000 in
theorem tX12_wrong (l : Launch) (x : WX) (hi : Inj x.2.2) (G : Hp) (a0 : Nat) (a1 : Int) (ha0 : kd a0 = 12) : Ct l x yX12_wrong cX12_wrong 2 none 0 129 129 [vR a0, vI a1] G (fX12_wrong a0 a1 G) := by
  refine ct_of (plainFor_of_name (by decide)) hi (Nat.le_refl _) (Nat.le_refl _) (Nat.le_of_ble_eq_true rfl) (fun cx F hd hn0 hnE hl hQ => ?_)
  subst hl
  have F : Fx cx x RX12 cX12_wrong 2 none := F
  show Y cx x 2 none 129 0 [(0, vR a0), (1, vI a1)] [] G _
  unfold fX12_wrong
  refine x_aload_n F dX12_wrong_0 rfl rfl rfl ?_
  refine s_getI F flX12_157 ha0 rfl dX12_wrong_1 rfl ?_
  refine x_ifne (pt := 25) F dX12_wrong_4 rfl rfl ?_ ?_
  · refine x_aload_n F dX12_wrong_7 rfl rfl rfl ?_
    refine x_iload_n F dX12_wrong_8 rfl rfl rfl ?_
    refine x_bipush F dX12_wrong_9 ⟨by decide, by decide⟩ (by decide) rfl ?_
    refine x_aload_n F dX12_wrong_11 rfl rfl rfl ?_
    refine x_getR F flX12_27 ha0 rfl dX12_wrong_12 rfl ?_
    refine x_aload_n F dX12_wrong_15 rfl rfl rfl ?_
    refine s_getI F flX12_154 ha0 rfl dX12_wrong_16 rfl ?_
    refine s_iald F (tf12_5 ha0).1 (tf12_5 ha0).2 dX12_wrong_19 rfl (fun v1 => ?_)
    refine x_imul F dX12_wrong_20 rfl ?_
    refine x_iadd F dX12_wrong_21 rfl ?_
    refine s_putI F fpX12_157 ha0 rfl dX12_wrong_22 rfl (fun G2 => ?_)
    exact x_vret F hnE hQ dX12_wrong_25
  · exact x_vret F hnE hQ dX12_wrong_25
theorem dX12_isSign_0 : decode cX12_isSign 0 = .ok (.aload_n 0, 1) := by decide +kernel
theorem dX12_isSign_1 : decode cX12_isSign 1 = .ok (.getfield 157, 3) := by decide +kernel
theorem dX12_isSign_4 : decode cX12_isSign 4 = .ok (.ifCond .ne 35, 3) := by decide +kernel
theorem dX12_isSign_7 : decode cX12_isSign 7 = .ok (.aload_n 0, 1) := by decide +kernel
theorem dX12_isSign_8 : decode cX12_isSign 8 = .ok (.getfield 24, 3) := by decide +kernel
theorem dX12_isSign_11 : decode cX12_isSign 11 = .ok (.aload_n 0, 1) := by decide +kernel
theorem dX12_isSign_12 : decode cX12_isSign 12 = .ok (.getfield 154, 3) := by decide +kernel
theorem dX12_isSign_15 : decode cX12_isSign 15 = .ok (.iaload, 1) := by decide +kernel
theorem dX12_isSign_16 : decode cX12_isSign 16 = .ok (.iconst 3, 1) := by decide +kernel
theorem dX12_isSign_17 : decode cX12_isSign 17 = .ok (.if_icmp .ne 22, 3) := by decide +kernel
theorem dX12_isSign_20 : decode cX12_isSign 20 = .ok (.aload_n 0, 1) := by decide +kernel
theorem dX12_isSign_21 : decode cX12_isSign 21 = .ok (.getfield 30, 3) := by decide +kernel
theorem dX12_isSign_24 : decode cX12_isSign 24 = .ok (.aload_n 0, 1) := by decide +kernel
theorem dX12_isSign_25 : decode cX12_isSign 25 = .ok (.getfield 154, 3) := by decide +kernel
theorem dX12_isSign_28 : decode cX12_isSign 28 = .ok (.laload, 1) := by decide +kernel
theorem dX12_isSign_29 : decode cX12_isSign 29 = .ok (.iload_n 1, 1) := by decide +kernel
theorem dX12_isSign_30 : decode cX12_isSign 30 = .ok (.i2l, 1) := by decide +kernel
theorem dX12_isSign_31 : decode cX12_isSign 31 = .ok (.lcmp, 1) := by decide +kernel
theorem dX12_isSign_32 : decode cX12_isSign 32 = .ok (.ifCond .ne 7, 3) := by decide +kernel
theorem dX12_isSign_35 : decode cX12_isSign 35 = .ok (.iconst 1, 1) := by decide +kernel
theorem dX12_isSign_36 : decode cX12_isSign 36 = .ok (.goto 4, 3) := by decide +kernel
theorem dX12_isSign_39 : decode cX12_isSign 39 = .ok (.iconst 0, 1) := by decide +kernel
theorem dX12_isSign_40 : decode cX12_isSign 40 = .ok (.ireturn, 1) := by decide +kernel
def fX12_isSign (a0 : Nat) (a1 : Int) (G : Hp) : RT := if (G a0 8) = 0 then (br (rd G ((rf a0 4)) 1002 (G a0 7)) fun v1 => if v1 = 3 then (br (rd G ((rf a0 6)) 1002 (G a0 7)) fun v2 => if (lcmp' v2 a1) = 0 then rz 1 G else rz 0 G) else rz 0 G) else rz 0 G
theorem pX12_isSign {G : Hp} {a0 : Nat} {a1 : Int} : PU G (fX12_isSign a0 a1 G) := by
  unfold fX12_isSign
  refine PU_ite ?_ ?_
  · refine PU_br (fun v1 => ?_)
    refine PU_ite ?_ ?_
    · refine PU_br (fun v2 => ?_)
      refine PU_ite ?_ ?_
      · exact PU_rz
      · exact PU_rz
    · exact PU_rz
  · exact PU_rz
set_option maxRecDepth 20000 in
set_option maxHeartbeats 4000000 in
theorem tX12_isSign (l : Launch) (x : WX) (hi : Inj x.2.2) (G : Hp) (a0 : Nat) (a1 : Int) (ha0 : kd a0 = 12) : Ct l x yX12_isSign cX12_isSign 2 (some .boolean) 0 129 129 [vR a0, vI a1] G (fX12_isSign a0 a1 G) := by
  refine ct_of (plainFor_of_name (by decide)) hi (Nat.le_refl _) (Nat.le_refl _) (Nat.le_of_ble_eq_true rfl) (fun cx F hd hn0 hnE hl hQ => ?_)
  subst hl
  have F : Fx cx x RX12 cX12_isSign 2 (some .boolean) := F
  show Y cx x 2 (some .boolean) 129 0 [(0, vR a0), (1, vI a1)] [] G _
  unfold fX12_isSign
  refine x_aload_n F dX12_isSign_0 rfl rfl rfl ?_
  refine s_getI F flX12_157 ha0 rfl dX12_isSign_1 rfl ?_
  refine x_ifne (pt := 39) F dX12_isSign_4 rfl rfl ?_ ?_
  · refine x_aload_n F dX12_isSign_7 rfl rfl rfl ?_
    refine x_getR F flX12_24 ha0 rfl dX12_isSign_8 rfl ?_
    refine x_aload_n F dX12_isSign_11 rfl rfl rfl ?_
    refine s_getI F flX12_154 ha0 rfl dX12_isSign_12 rfl ?_
    refine s_iald F (tf12_4 ha0).1 (tf12_4 ha0).2 dX12_isSign_15 rfl (fun v1 => ?_)
    refine x_iconst F dX12_isSign_16 ⟨by decide, by decide⟩ rfl ?_
    refine x_icmpne (pt := 39) F dX12_isSign_17 rfl rfl ?_ ?_
    · refine x_aload_n F dX12_isSign_20 rfl rfl rfl ?_
      refine x_getR F flX12_30 ha0 rfl dX12_isSign_21 rfl ?_
      refine x_aload_n F dX12_isSign_24 rfl rfl rfl ?_
      refine s_getI F flX12_154 ha0 rfl dX12_isSign_25 rfl ?_
      refine s_lald F (tf12_6 ha0).1 (tf12_6 ha0).2 dX12_isSign_28 rfl (fun v2 => ?_)
      refine x_iload_n F dX12_isSign_29 rfl rfl rfl ?_
      refine x_i2l F dX12_isSign_30 rfl ?_
      refine x_lcmp F dX12_isSign_31 rfl ?_
      refine x_ifne (pt := 39) F dX12_isSign_32 rfl rfl ?_ ?_
      · refine x_iconst F dX12_isSign_35 ⟨by decide, by decide⟩ rfl ?_
        refine x_goto (pc' := 40) F dX12_isSign_36 rfl ?_
        exact x_zret F hnE hQ dX12_isSign_40
      · refine x_iconst F dX12_isSign_39 ⟨by decide, by decide⟩ rfl ?_
        exact x_zret F hnE hQ dX12_isSign_40
    · refine x_iconst F dX12_isSign_39 ⟨by decide, by decide⟩ rfl ?_
      exact x_zret F hnE hQ dX12_isSign_40
  · refine x_iconst F dX12_isSign_39 ⟨by decide, by decide⟩ rfl ?_
    exact x_zret F hnE hQ dX12_isSign_40
theorem dX12_isWord_0 : decode cX12_isWord 0 = .ok (.aload_n 0, 1) := by decide +kernel
theorem dX12_isWord_1 : decode cX12_isWord 1 = .ok (.getfield 157, 3) := by decide +kernel
theorem dX12_isWord_4 : decode cX12_isWord 4 = .ok (.ifCond .ne 39, 3) := by decide +kernel
theorem dX12_isWord_7 : decode cX12_isWord 7 = .ok (.aload_n 0, 1) := by decide +kernel
theorem dX12_isWord_8 : decode cX12_isWord 8 = .ok (.getfield 24, 3) := by decide +kernel
theorem dX12_isWord_11 : decode cX12_isWord 11 = .ok (.aload_n 0, 1) := by decide +kernel
theorem dX12_isWord_12 : decode cX12_isWord 12 = .ok (.getfield 154, 3) := by decide +kernel
theorem dX12_isWord_15 : decode cX12_isWord 15 = .ok (.iaload, 1) := by decide +kernel
theorem dX12_isWord_16 : decode cX12_isWord 16 = .ok (.iconst 1, 1) := by decide +kernel
theorem dX12_isWord_17 : decode cX12_isWord 17 = .ok (.if_icmp .ne 26, 3) := by decide +kernel
theorem dX12_isWord_20 : decode cX12_isWord 20 = .ok (.aload_n 0, 1) := by decide +kernel
theorem dX12_isWord_21 : decode cX12_isWord 21 = .ok (.getfield 30, 3) := by decide +kernel
theorem dX12_isWord_24 : decode cX12_isWord 24 = .ok (.aload_n 0, 1) := by decide +kernel
theorem dX12_isWord_25 : decode cX12_isWord 25 = .ok (.getfield 154, 3) := by decide +kernel
theorem dX12_isWord_28 : decode cX12_isWord 28 = .ok (.laload, 1) := by decide +kernel
theorem dX12_isWord_29 : decode cX12_isWord 29 = .ok (.aload_n 0, 1) := by decide +kernel
theorem dX12_isWord_30 : decode cX12_isWord 30 = .ok (.getfield 84, 3) := by decide +kernel
theorem dX12_isWord_33 : decode cX12_isWord 33 = .ok (.iload_n 1, 1) := by decide +kernel
theorem dX12_isWord_34 : decode cX12_isWord 34 = .ok (.laload, 1) := by decide +kernel
theorem dX12_isWord_35 : decode cX12_isWord 35 = .ok (.lcmp, 1) := by decide +kernel
theorem dX12_isWord_36 : decode cX12_isWord 36 = .ok (.ifCond .ne 7, 3) := by decide +kernel
theorem dX12_isWord_39 : decode cX12_isWord 39 = .ok (.iconst 1, 1) := by decide +kernel
theorem dX12_isWord_40 : decode cX12_isWord 40 = .ok (.goto 4, 3) := by decide +kernel
theorem dX12_isWord_43 : decode cX12_isWord 43 = .ok (.iconst 0, 1) := by decide +kernel
theorem dX12_isWord_44 : decode cX12_isWord 44 = .ok (.ireturn, 1) := by decide +kernel
def fX12_isWord (a0 : Nat) (a1 : Int) (G : Hp) : RT := if (G a0 8) = 0 then (br (rd G ((rf a0 4)) 1002 (G a0 7)) fun v1 => if v1 = 1 then (br (rd G ((rf a0 6)) 1002 (G a0 7)) fun v2 => br (rd G ((rf a0 9)) 26 a1) fun v3 => if (lcmp' v2 v3) = 0 then rz 1 G else rz 0 G) else rz 0 G) else rz 0 G
theorem pX12_isWord {G : Hp} {a0 : Nat} {a1 : Int} : PU G (fX12_isWord a0 a1 G) := by
  unfold fX12_isWord
  refine PU_ite ?_ ?_
  · refine PU_br (fun v1 => ?_)
    refine PU_ite ?_ ?_
    · refine PU_br (fun v2 => ?_)
      refine PU_br (fun v3 => ?_)
      refine PU_ite ?_ ?_
      · exact PU_rz
      · exact PU_rz
    · exact PU_rz
  · exact PU_rz
set_option maxRecDepth 20000 in
set_option maxHeartbeats 4000000 in
theorem tX12_isWord (l : Launch) (x : WX) (hi : Inj x.2.2) (G : Hp) (a0 : Nat) (a1 : Int) (ha0 : kd a0 = 12) : Ct l x yX12_isWord cX12_isWord 2 (some .boolean) 0 129 129 [vR a0, vI a1] G (fX12_isWord a0 a1 G) := by
  refine ct_of (plainFor_of_name (by decide)) hi (Nat.le_refl _) (Nat.le_refl _) (Nat.le_of_ble_eq_true rfl) (fun cx F hd hn0 hnE hl hQ => ?_)
  subst hl
  have F : Fx cx x RX12 cX12_isWord 2 (some .boolean) := F
  show Y cx x 2 (some .boolean) 129 0 [(0, vR a0), (1, vI a1)] [] G _
  unfold fX12_isWord
  refine x_aload_n F dX12_isWord_0 rfl rfl rfl ?_
  refine s_getI F flX12_157 ha0 rfl dX12_isWord_1 rfl ?_
  refine x_ifne (pt := 43) F dX12_isWord_4 rfl rfl ?_ ?_
  · refine x_aload_n F dX12_isWord_7 rfl rfl rfl ?_
    refine x_getR F flX12_24 ha0 rfl dX12_isWord_8 rfl ?_
    refine x_aload_n F dX12_isWord_11 rfl rfl rfl ?_
    refine s_getI F flX12_154 ha0 rfl dX12_isWord_12 rfl ?_
    refine s_iald F (tf12_4 ha0).1 (tf12_4 ha0).2 dX12_isWord_15 rfl (fun v1 => ?_)
    refine x_iconst F dX12_isWord_16 ⟨by decide, by decide⟩ rfl ?_
    refine x_icmpne (pt := 43) F dX12_isWord_17 rfl rfl ?_ ?_
    · refine x_aload_n F dX12_isWord_20 rfl rfl rfl ?_
      refine x_getR F flX12_30 ha0 rfl dX12_isWord_21 rfl ?_
      refine x_aload_n F dX12_isWord_24 rfl rfl rfl ?_
      refine s_getI F flX12_154 ha0 rfl dX12_isWord_25 rfl ?_
      refine s_lald F (tf12_6 ha0).1 (tf12_6 ha0).2 dX12_isWord_28 rfl (fun v2 => ?_)
      refine x_aload_n F dX12_isWord_29 rfl rfl rfl ?_
      refine x_getR F flX12_84 ha0 rfl dX12_isWord_30 rfl ?_
      refine x_iload_n F dX12_isWord_33 rfl rfl rfl ?_
      refine s_lald F (tf12_9 ha0).1 (tf12_9 ha0).2 dX12_isWord_34 rfl (fun v3 => ?_)
      refine x_lcmp F dX12_isWord_35 rfl ?_
      refine x_ifne (pt := 43) F dX12_isWord_36 rfl rfl ?_ ?_
      · refine x_iconst F dX12_isWord_39 ⟨by decide, by decide⟩ rfl ?_
        refine x_goto (pc' := 44) F dX12_isWord_40 rfl ?_
        exact x_zret F hnE hQ dX12_isWord_44
      · refine x_iconst F dX12_isWord_43 ⟨by decide, by decide⟩ rfl ?_
        exact x_zret F hnE hQ dX12_isWord_44
    · refine x_iconst F dX12_isWord_43 ⟨by decide, by decide⟩ rfl ?_
      exact x_zret F hnE hQ dX12_isWord_44
  · refine x_iconst F dX12_isWord_43 ⟨by decide, by decide⟩ rfl ?_
    exact x_zret F hnE hQ dX12_isWord_44
theorem dX12_within_0 : decode cX12_within 0 = .ok (.iload_n 0, 1) := by decide +kernel
theorem dX12_within_1 : decode cX12_within 1 = .ok (.iload_n 1, 1) := by decide +kernel
theorem dX12_within_2 : decode cX12_within 2 = .ok (.if_icmp .lt 12, 3) := by decide +kernel
theorem dX12_within_5 : decode cX12_within 5 = .ok (.iload_n 0, 1) := by decide +kernel
theorem dX12_within_6 : decode cX12_within 6 = .ok (.iload_n 2, 1) := by decide +kernel
theorem dX12_within_7 : decode cX12_within 7 = .ok (.if_icmp .gt 7, 3) := by decide +kernel
theorem dX12_within_10 : decode cX12_within 10 = .ok (.iconst 1, 1) := by decide +kernel
theorem dX12_within_11 : decode cX12_within 11 = .ok (.goto 4, 3) := by decide +kernel
theorem dX12_within_14 : decode cX12_within 14 = .ok (.iconst 0, 1) := by decide +kernel
theorem dX12_within_15 : decode cX12_within 15 = .ok (.ireturn, 1) := by decide +kernel
def fX12_within (a0 : Int) (a1 : Int) (a2 : Int) (G : Hp) : RT := if a0 < a1 then rz 0 G else (if a2 < a0 then rz 0 G else rz 1 G)
theorem pX12_within {G : Hp} {a0 : Int} {a1 : Int} {a2 : Int} : PU G (fX12_within a0 a1 a2 G) := by
  unfold fX12_within
  refine PU_ite ?_ ?_
  · exact PU_rz
  · refine PU_ite ?_ ?_
    · exact PU_rz
    · exact PU_rz
set_option maxRecDepth 20000 in
set_option maxHeartbeats 4000000 in
theorem tX12_within (l : Launch) (x : WX) (hi : Inj x.2.2) (G : Hp) (a0 : Int) (a1 : Int) (a2 : Int)  : Ct l x yX12_within cX12_within 3 (some .boolean) 0 129 129 [vI a0, vI a1, vI a2] G (fX12_within a0 a1 a2 G) := by
  refine ct_of (plainFor_of_name (by decide)) hi (Nat.le_refl _) (Nat.le_refl _) (Nat.le_of_ble_eq_true rfl) (fun cx F hd hn0 hnE hl hQ => ?_)
  subst hl
  have F : Fx cx x RX12 cX12_within 3 (some .boolean) := F
  show Y cx x 3 (some .boolean) 129 0 [(0, vI a0), (1, vI a1), (2, vI a2)] [] G _
  unfold fX12_within
  refine x_iload_n F dX12_within_0 rfl rfl rfl ?_
  refine x_iload_n F dX12_within_1 rfl rfl rfl ?_
  refine x_icmplt (pt := 14) F dX12_within_2 rfl rfl ?_ ?_
  · refine x_iconst F dX12_within_14 ⟨by decide, by decide⟩ rfl ?_
    exact x_zret F hnE hQ dX12_within_15
  · refine x_iload_n F dX12_within_5 rfl rfl rfl ?_
    refine x_iload_n F dX12_within_6 rfl rfl rfl ?_
    refine x_icmpgt (pt := 14) F dX12_within_7 rfl rfl ?_ ?_
    · refine x_iconst F dX12_within_14 ⟨by decide, by decide⟩ rfl ?_
      exact x_zret F hnE hQ dX12_within_15
    · refine x_iconst F dX12_within_10 ⟨by decide, by decide⟩ rfl ?_
      refine x_goto (pc' := 15) F dX12_within_11 rfl ?_
      exact x_zret F hnE hQ dX12_within_15
theorem dX12_standsAsAlways_0 : decode cX12_standsAsAlways 0 = .ok (.iconst 0, 1) := by decide +kernel
theorem dX12_standsAsAlways_1 : decode cX12_standsAsAlways 1 = .ok (.istore_n 2, 1) := by decide +kernel
theorem dX12_standsAsAlways_2 : decode cX12_standsAsAlways 2 = .ok (.iload_n 2, 1) := by decide +kernel
theorem dX12_standsAsAlways_3 : decode cX12_standsAsAlways 3 = .ok (.bipush 32, 2) := by decide +kernel
theorem dX12_standsAsAlways_5 : decode cX12_standsAsAlways 5 = .ok (.if_icmp .ge 18, 3) := by decide +kernel
theorem dX12_standsAsAlways_8 : decode cX12_standsAsAlways 8 = .ok (.aload_n 0, 1) := by decide +kernel
theorem dX12_standsAsAlways_9 : decode cX12_standsAsAlways 9 = .ok (.getfield 87, 3) := by decide +kernel
theorem dX12_standsAsAlways_12 : decode cX12_standsAsAlways 12 = .ok (.iload_n 1, 1) := by decide +kernel
theorem dX12_standsAsAlways_13 : decode cX12_standsAsAlways 13 = .ok (.iload_n 2, 1) := by decide +kernel
theorem dX12_standsAsAlways_14 : decode cX12_standsAsAlways 14 = .ok (.iadd, 1) := by decide +kernel
theorem dX12_standsAsAlways_15 : decode cX12_standsAsAlways 15 = .ok (.iconst 0, 1) := by decide +kernel
theorem dX12_standsAsAlways_16 : decode cX12_standsAsAlways 16 = .ok (.iastore, 1) := by decide +kernel
theorem dX12_standsAsAlways_17 : decode cX12_standsAsAlways 17 = .ok (.iinc 2 1, 3) := by decide +kernel
theorem dX12_standsAsAlways_20 : decode cX12_standsAsAlways 20 = .ok (.goto (-18), 3) := by decide +kernel
theorem dX12_standsAsAlways_23 : decode cX12_standsAsAlways 23 = .ok (.aload_n 0, 1) := by decide +kernel
theorem dX12_standsAsAlways_24 : decode cX12_standsAsAlways 24 = .ok (.getfield 87, 3) := by decide +kernel
theorem dX12_standsAsAlways_27 : decode cX12_standsAsAlways 27 = .ok (.iload_n 1, 1) := by decide +kernel
theorem dX12_standsAsAlways_28 : decode cX12_standsAsAlways 28 = .ok (.iconst 1, 1) := by decide +kernel
theorem dX12_standsAsAlways_29 : decode cX12_standsAsAlways 29 = .ok (.iadd, 1) := by decide +kernel
theorem dX12_standsAsAlways_30 : decode cX12_standsAsAlways 30 = .ok (.iconst 2, 1) := by decide +kernel
theorem dX12_standsAsAlways_31 : decode cX12_standsAsAlways 31 = .ok (.iastore, 1) := by decide +kernel
theorem dX12_standsAsAlways_32 : decode cX12_standsAsAlways 32 = .ok (.aload_n 0, 1) := by decide +kernel
theorem dX12_standsAsAlways_33 : decode cX12_standsAsAlways 33 = .ok (.getfield 87, 3) := by decide +kernel
theorem dX12_standsAsAlways_36 : decode cX12_standsAsAlways 36 = .ok (.iload_n 1, 1) := by decide +kernel
theorem dX12_standsAsAlways_37 : decode cX12_standsAsAlways 37 = .ok (.iconst 4, 1) := by decide +kernel
theorem dX12_standsAsAlways_38 : decode cX12_standsAsAlways 38 = .ok (.iadd, 1) := by decide +kernel
theorem dX12_standsAsAlways_39 : decode cX12_standsAsAlways 39 = .ok (.iconst (-1), 1) := by decide +kernel
theorem dX12_standsAsAlways_40 : decode cX12_standsAsAlways 40 = .ok (.iastore, 1) := by decide +kernel
theorem dX12_standsAsAlways_41 : decode cX12_standsAsAlways 41 = .ok (.return_, 1) := by decide +kernel
def fX12_standsAsAlways (a0 : Nat) (a1 : Int) (G : Hp) : RT := bd 0 fun v1 => (lp (fun (_ : Int) (_ : Hp) => (none : RT)) 5000 (fun (rc4 : Int → Hp → RT) (v2 : Int) (G3 : Hp) => if v2 < 32 then (bs (wr G3 ((rf a0 10)) 64 (iadd a1 v2) 0) fun G7 => bd (iadd v2 1) fun v8 => rc4 v8 G7) else (bs (wr G3 ((rf a0 10)) 64 (iadd a1 1) 2) fun G5 => bs (wr G5 ((rf a0 10)) 64 (iadd a1 4) ((-1))) fun G6 => rt 0 G6))) v1 G
set_option maxRecDepth 20000 in
set_option maxHeartbeats 4000000 in
theorem tX12_standsAsAlways (l : Launch) (x : WX) (hi : Inj x.2.2) (G : Hp) (a0 : Nat) (a1 : Int) (ha0 : kd a0 = 12) : Ct l x yX12_standsAsAlways cX12_standsAsAlways 3 none 0 129 129 [vR a0, vI a1] G (fX12_standsAsAlways a0 a1 G) := by
  refine ct_of (plainFor_of_name (by decide)) hi (Nat.le_refl _) (Nat.le_refl _) (Nat.le_of_ble_eq_true rfl) (fun cx F hd hn0 hnE hl hQ => ?_)
  subst hl
  have F : Fx cx x RX12 cX12_standsAsAlways 3 none := F
  show Y cx x 3 none 129 0 [(0, vR a0), (1, vI a1)] [] G _
  unfold fX12_standsAsAlways
  refine x_iconst F dX12_standsAsAlways_0 ⟨by decide, by decide⟩ rfl ?_
  refine x_istore_n F dX12_standsAsAlways_1 rfl (by decide) rfl rfl (fun v1 => ?_)
  show Y cx x _ _ _ _ [(0, vR a0), (1, vI a1), (2, vI v1)] _ _ _
  refine x_lp (fun (rc4 : Int → Hp → RT) => ∀ (v2 : Int) (G3 : Hp), Y cx x 3 none 129 2 [(0, vR a0), (1, vI a1), (2, vI v2)] [] G3 (rc4 v2 G3)) (fun _ _ => Y_none) (fun rc4 hrc4 v2 G3 => ?_) 5000 v1 G
  refine x_iload_n F dX12_standsAsAlways_2 rfl rfl rfl ?_
  refine x_bipush F dX12_standsAsAlways_3 ⟨by decide, by decide⟩ (by decide) rfl ?_
  refine x_icmpge (pt := 23) F dX12_standsAsAlways_5 rfl rfl ?_ ?_
  · refine x_aload_n F dX12_standsAsAlways_8 rfl rfl rfl ?_
    refine x_getR F flX12_87 ha0 rfl dX12_standsAsAlways_9 rfl ?_
    refine x_iload_n F dX12_standsAsAlways_12 rfl rfl rfl ?_
    refine x_iload_n F dX12_standsAsAlways_13 rfl rfl rfl ?_
    refine x_iadd F dX12_standsAsAlways_14 rfl ?_
    refine x_iconst F dX12_standsAsAlways_15 ⟨by decide, by decide⟩ rfl ?_
    refine s_iast F (tf12_10 ha0).1 (tf12_10 ha0).2 dX12_standsAsAlways_16 rfl (fun G7 => ?_)
    refine x_iinc F dX12_standsAsAlways_17 rfl (by decide) rfl rfl (fun v8 => ?_)
    show Y cx x _ _ _ _ [(0, vR a0), (1, vI a1), (2, vI v8)] _ _ _
    refine x_goto (pc' := 2) F dX12_standsAsAlways_20 rfl ?_
    exact hrc4 v8 G7
  · refine x_aload_n F dX12_standsAsAlways_23 rfl rfl rfl ?_
    refine x_getR F flX12_87 ha0 rfl dX12_standsAsAlways_24 rfl ?_
    refine x_iload_n F dX12_standsAsAlways_27 rfl rfl rfl ?_
    refine x_iconst F dX12_standsAsAlways_28 ⟨by decide, by decide⟩ rfl ?_
    refine x_iadd F dX12_standsAsAlways_29 rfl ?_
    refine x_iconst F dX12_standsAsAlways_30 ⟨by decide, by decide⟩ rfl ?_
    refine s_iast F (tf12_10 ha0).1 (tf12_10 ha0).2 dX12_standsAsAlways_31 rfl (fun G5 => ?_)
    refine x_aload_n F dX12_standsAsAlways_32 rfl rfl rfl ?_
    refine x_getR F flX12_87 ha0 rfl dX12_standsAsAlways_33 rfl ?_
    refine x_iload_n F dX12_standsAsAlways_36 rfl rfl rfl ?_
    refine x_iconst F dX12_standsAsAlways_37 ⟨by decide, by decide⟩ rfl ?_
    refine x_iadd F dX12_standsAsAlways_38 rfl ?_
    refine x_iconst F dX12_standsAsAlways_39 ⟨by decide, by decide⟩ rfl ?_
    refine s_iast F (tf12_10 ha0).1 (tf12_10 ha0).2 dX12_standsAsAlways_40 rfl (fun G6 => ?_)
    exact x_vret F hnE hQ dX12_standsAsAlways_41
theorem dX12_nameAt_0 : decode cX12_nameAt 0 = .ok (.iconst (-1), 1) := by decide +kernel
theorem dX12_nameAt_1 : decode cX12_nameAt 1 = .ok (.istore_n 3, 1) := by decide +kernel
theorem dX12_nameAt_2 : decode cX12_nameAt 2 = .ok (.iconst 0, 1) := by decide +kernel
theorem dX12_nameAt_3 : decode cX12_nameAt 3 = .ok (.istore 4, 2) := by decide +kernel
theorem dX12_nameAt_5 : decode cX12_nameAt 5 = .ok (.iload 4, 2) := by decide +kernel
theorem dX12_nameAt_7 : decode cX12_nameAt 7 = .ok (.iload_n 2, 1) := by decide +kernel
theorem dX12_nameAt_8 : decode cX12_nameAt 8 = .ok (.if_icmp .ge 38, 3) := by decide +kernel
theorem dX12_nameAt_11 : decode cX12_nameAt 11 = .ok (.aload_n 0, 1) := by decide +kernel
theorem dX12_nameAt_12 : decode cX12_nameAt 12 = .ok (.getfield 93, 3) := by decide +kernel
theorem dX12_nameAt_15 : decode cX12_nameAt 15 = .ok (.iload_n 1, 1) := by decide +kernel
theorem dX12_nameAt_16 : decode cX12_nameAt 16 = .ok (.iload 4, 2) := by decide +kernel
theorem dX12_nameAt_18 : decode cX12_nameAt 18 = .ok (.iadd, 1) := by decide +kernel
theorem dX12_nameAt_19 : decode cX12_nameAt 19 = .ok (.laload, 1) := by decide +kernel
theorem dX12_nameAt_20 : decode cX12_nameAt 20 = .ok (.aload_n 0, 1) := by decide +kernel
theorem dX12_nameAt_21 : decode cX12_nameAt 21 = .ok (.getfield 30, 3) := by decide +kernel
theorem dX12_nameAt_24 : decode cX12_nameAt 24 = .ok (.aload_n 0, 1) := by decide +kernel
theorem dX12_nameAt_25 : decode cX12_nameAt 25 = .ok (.getfield 154, 3) := by decide +kernel
theorem dX12_nameAt_28 : decode cX12_nameAt 28 = .ok (.laload, 1) := by decide +kernel
theorem dX12_nameAt_29 : decode cX12_nameAt 29 = .ok (.lcmp, 1) := by decide +kernel
theorem dX12_nameAt_30 : decode cX12_nameAt 30 = .ok (.ifCond .ne 8, 3) := by decide +kernel
theorem dX12_nameAt_33 : decode cX12_nameAt 33 = .ok (.iload 4, 2) := by decide +kernel
theorem dX12_nameAt_35 : decode cX12_nameAt 35 = .ok (.goto 4, 3) := by decide +kernel
theorem dX12_nameAt_38 : decode cX12_nameAt 38 = .ok (.iload_n 3, 1) := by decide +kernel
theorem dX12_nameAt_39 : decode cX12_nameAt 39 = .ok (.istore_n 3, 1) := by decide +kernel
theorem dX12_nameAt_40 : decode cX12_nameAt 40 = .ok (.iinc 4 1, 3) := by decide +kernel
theorem dX12_nameAt_43 : decode cX12_nameAt 43 = .ok (.goto (-38), 3) := by decide +kernel
theorem dX12_nameAt_46 : decode cX12_nameAt 46 = .ok (.iload_n 3, 1) := by decide +kernel
theorem dX12_nameAt_47 : decode cX12_nameAt 47 = .ok (.ireturn, 1) := by decide +kernel
def fX12_nameAt (a0 : Nat) (a1 : Int) (a2 : Int) (G : Hp) : RT := bd ((-1)) fun v1 => bd 0 fun v2 => (lp (fun (_ : Int) (_ : Int) => (none : RT)) 5000 (fun (rc5 : Int → Int → RT) (v3 : Int) (v4 : Int) => if v4 < a2 then (br (rd G ((rf a0 13)) 36 (iadd a1 v4)) fun v6 => br (rd G ((rf a0 6)) 1002 (G a0 7)) fun v7 => jn (fun (v8 : Int) => bd v8 fun v10 => bd (iadd v4 1) fun v11 => rc5 v10 v11) fun (K9 : Int → RT) => if (lcmp' v6 v7) = 0 then K9 v4 else K9 v3) else rt v3 G)) v1 v2
theorem pX12_nameAt {G : Hp} {a0 : Nat} {a1 : Int} {a2 : Int} : PU G (fX12_nameAt a0 a1 a2 G) := by
  unfold fX12_nameAt
  refine PU_bd (fun v1 => ?_)
  refine PU_bd (fun v2 => ?_)
  refine x_lp (fun (rc5 : Int → Int → RT) => ∀ (v3 : Int) (v4 : Int), PU G (rc5 v3 v4)) (fun _ _ => PU_none) (fun rc5 phrc5 v3 v4 => ?_) 5000 v1 v2
  refine PU_ite ?_ ?_
  · refine PU_br (fun v6 => ?_)
    refine PU_br (fun v7 => ?_)
    refine PU_jn (fun (K9 : Int → RT) => ∀ (v8 : Int), PU G (K9 v8)) ?_ (fun K9 phK9 => ?_)
    · intro v8
      refine PU_bd (fun v10 => ?_)
      refine PU_bd (fun v11 => ?_)
      exact phrc5 v10 v11
    · refine PU_ite ?_ ?_
      · exact phK9 v4
      · exact phK9 v3
  · exact PU_rt
set_option maxRecDepth 20000 in
set_option maxHeartbeats 4000000 in
theorem tX12_nameAt (l : Launch) (x : WX) (hi : Inj x.2.2) (G : Hp) (a0 : Nat) (a1 : Int) (a2 : Int) (ha0 : kd a0 = 12) : Ct l x yX12_nameAt cX12_nameAt 5 (some .int) 0 129 129 [vR a0, vI a1, vI a2] G (fX12_nameAt a0 a1 a2 G) := by
  refine ct_of (plainFor_of_name (by decide)) hi (Nat.le_refl _) (Nat.le_refl _) (Nat.le_of_ble_eq_true rfl) (fun cx F hd hn0 hnE hl hQ => ?_)
  subst hl
  have F : Fx cx x RX12 cX12_nameAt 5 (some .int) := F
  show Y cx x 5 (some .int) 129 0 [(0, vR a0), (1, vI a1), (2, vI a2)] [] G _
  unfold fX12_nameAt
  refine x_iconst F dX12_nameAt_0 ⟨by decide, by decide⟩ rfl ?_
  refine x_istore_n F dX12_nameAt_1 rfl (by decide) rfl rfl (fun v1 => ?_)
  show Y cx x _ _ _ _ [(0, vR a0), (1, vI a1), (2, vI a2), (3, vI v1)] _ _ _
  refine x_iconst F dX12_nameAt_2 ⟨by decide, by decide⟩ rfl ?_
  refine x_istore F dX12_nameAt_3 (by decide) rfl rfl (fun v2 => ?_)
  show Y cx x _ _ _ _ [(0, vR a0), (1, vI a1), (2, vI a2), (3, vI v1), (4, vI v2)] _ _ _
  refine x_lp (fun (rc5 : Int → Int → RT) => ∀ (v3 : Int) (v4 : Int), Y cx x 5 (some .int) 129 5 [(0, vR a0), (1, vI a1), (2, vI a2), (3, vI v3), (4, vI v4)] [] G (rc5 v3 v4)) (fun _ _ => Y_none) (fun rc5 hrc5 v3 v4 => ?_) 5000 v1 v2
  refine x_iload F dX12_nameAt_5 rfl rfl ?_
  refine x_iload_n F dX12_nameAt_7 rfl rfl rfl ?_
  refine x_icmpge (pt := 46) F dX12_nameAt_8 rfl rfl ?_ ?_
  · refine x_aload_n F dX12_nameAt_11 rfl rfl rfl ?_
    refine x_getR F flX12_93 ha0 rfl dX12_nameAt_12 rfl ?_
    refine x_iload_n F dX12_nameAt_15 rfl rfl rfl ?_
    refine x_iload F dX12_nameAt_16 rfl rfl ?_
    refine x_iadd F dX12_nameAt_18 rfl ?_
    refine s_lald F (tf12_13 ha0).1 (tf12_13 ha0).2 dX12_nameAt_19 rfl (fun v6 => ?_)
    refine x_aload_n F dX12_nameAt_20 rfl rfl rfl ?_
    refine x_getR F flX12_30 ha0 rfl dX12_nameAt_21 rfl ?_
    refine x_aload_n F dX12_nameAt_24 rfl rfl rfl ?_
    refine s_getI F flX12_154 ha0 rfl dX12_nameAt_25 rfl ?_
    refine s_lald F (tf12_6 ha0).1 (tf12_6 ha0).2 dX12_nameAt_28 rfl (fun v7 => ?_)
    refine x_lcmp F dX12_nameAt_29 rfl ?_
    refine x_jn (fun (K9 : Int → RT) => ∀ (v8 : Int), Y cx x 5 (some .int) 129 39 [(0, vR a0), (1, vI a1), (2, vI a2), (4, vI v4)] [vI v8] G (K9 v8)) ?_ (fun K9 hK9 => ?_)
    · intro v8
      refine x_istore_n F dX12_nameAt_39 rfl (by decide) rfl rfl (fun v10 => ?_)
      show Y cx x _ _ _ _ [(0, vR a0), (1, vI a1), (2, vI a2), (4, vI v4), (3, vI v10)] _ _ _
      refine x_iinc F dX12_nameAt_40 rfl (by decide) rfl rfl (fun v11 => ?_)
      show Y cx x _ _ _ _ [(0, vR a0), (1, vI a1), (2, vI a2), (4, vI v11), (3, vI v10)] _ _ _
      refine x_goto (pc' := 5) F dX12_nameAt_43 rfl ?_
      refine x_dp (L' := [(0, vR a0), (1, vI a1), (2, vI a2), (3, vI v10), (4, vI v11)]) [0, 1, 2, 4, 3] rfl ?_
      exact hrc5 v10 v11
    · refine x_ifne (pt := 38) F dX12_nameAt_30 rfl rfl ?_ ?_
      · refine x_iload F dX12_nameAt_33 rfl rfl ?_
        refine x_goto (pc' := 39) F dX12_nameAt_35 rfl ?_
        refine x_dp (L' := [(0, vR a0), (1, vI a1), (2, vI a2), (4, vI v4)]) [0, 1, 2, 4] rfl ?_
        exact hK9 v4
      · refine x_iload_n F dX12_nameAt_38 rfl rfl rfl ?_
        refine x_dp (L' := [(0, vR a0), (1, vI a1), (2, vI a2), (4, vI v4)]) [0, 1, 2, 4] rfl ?_
        exact hK9 v3
  · refine x_iload_n F dX12_nameAt_46 rfl rfl rfl ?_
    exact x_iret F hnE hQ dX12_nameAt_47
theorem dX12_told_0 : decode cX12_told 0 = .ok (.aload_n 0, 1) := by decide +kernel
theorem dX12_told_1 : decode cX12_told 1 = .ok (.getfield 87, 3) := by decide +kernel
theorem dX12_told_4 : decode cX12_told 4 = .ok (.bipush 32, 2) := by decide +kernel
theorem dX12_told_6 : decode cX12_told 6 = .ok (.iload_n 1, 1) := by decide +kernel
theorem dX12_told_7 : decode cX12_told 7 = .ok (.iadd, 1) := by decide +kernel
theorem dX12_told_8 : decode cX12_told 8 = .ok (.iaload, 1) := by decide +kernel
theorem dX12_told_9 : decode cX12_told 9 = .ok (.ireturn, 1) := by decide +kernel
def fX12_told (a0 : Nat) (a1 : Int) (G : Hp) : RT := br (rd G ((rf a0 10)) 64 (iadd 32 a1)) fun v1 => rt v1 G
theorem pX12_told {G : Hp} {a0 : Nat} {a1 : Int} : PU G (fX12_told a0 a1 G) := by
  unfold fX12_told
  refine PU_br (fun v1 => ?_)
  exact PU_rt
set_option maxRecDepth 20000 in
set_option maxHeartbeats 4000000 in
theorem tX12_told (l : Launch) (x : WX) (hi : Inj x.2.2) (G : Hp) (a0 : Nat) (a1 : Int) (ha0 : kd a0 = 12) : Ct l x yX12_told cX12_told 2 (some .int) 0 129 129 [vR a0, vI a1] G (fX12_told a0 a1 G) := by
  refine ct_of (plainFor_of_name (by decide)) hi (Nat.le_refl _) (Nat.le_refl _) (Nat.le_of_ble_eq_true rfl) (fun cx F hd hn0 hnE hl hQ => ?_)
  subst hl
  have F : Fx cx x RX12 cX12_told 2 (some .int) := F
  show Y cx x 2 (some .int) 129 0 [(0, vR a0), (1, vI a1)] [] G _
  unfold fX12_told
  refine x_aload_n F dX12_told_0 rfl rfl rfl ?_
  refine x_getR F flX12_87 ha0 rfl dX12_told_1 rfl ?_
  refine x_bipush F dX12_told_4 ⟨by decide, by decide⟩ (by decide) rfl ?_
  refine x_iload_n F dX12_told_6 rfl rfl rfl ?_
  refine x_iadd F dX12_told_7 rfl ?_
  refine s_iald F (tf12_10 ha0).1 (tf12_10 ha0).2 dX12_told_8 rfl (fun v1 => ?_)
  exact x_iret F hnE hQ dX12_told_9
theorem dX12_emit_0 : decode cX12_emit 0 = .ok (.aload_n 0, 1) := by decide +kernel
theorem dX12_emit_1 : decode cX12_emit 1 = .ok (.getfield 90, 3) := by decide +kernel
theorem dX12_emit_4 : decode cX12_emit 4 = .ok (.sipush 1100, 3) := by decide +kernel
theorem dX12_emit_7 : decode cX12_emit 7 = .ok (.aload_n 0, 1) := by decide +kernel
theorem dX12_emit_8 : decode cX12_emit 8 = .ok (.getfield 192, 3) := by decide +kernel
theorem dX12_emit_11 : decode cX12_emit 11 = .ok (.iadd, 1) := by decide +kernel
theorem dX12_emit_12 : decode cX12_emit 12 = .ok (.iload_n 1, 1) := by decide +kernel
theorem dX12_emit_13 : decode cX12_emit 13 = .ok (.bipush 16, 2) := by decide +kernel
theorem dX12_emit_15 : decode cX12_emit 15 = .ok (.iload_n 2, 1) := by decide +kernel
theorem dX12_emit_16 : decode cX12_emit 16 = .ok (.imul, 1) := by decide +kernel
theorem dX12_emit_17 : decode cX12_emit 17 = .ok (.iadd, 1) := by decide +kernel
theorem dX12_emit_18 : decode cX12_emit 18 = .ok (.iastore, 1) := by decide +kernel
theorem dX12_emit_19 : decode cX12_emit 19 = .ok (.aload_n 0, 1) := by decide +kernel
theorem dX12_emit_20 : decode cX12_emit 20 = .ok (.dup, 1) := by decide +kernel
theorem dX12_emit_21 : decode cX12_emit 21 = .ok (.getfield 192, 3) := by decide +kernel
theorem dX12_emit_24 : decode cX12_emit 24 = .ok (.iconst 1, 1) := by decide +kernel
theorem dX12_emit_25 : decode cX12_emit 25 = .ok (.iadd, 1) := by decide +kernel
theorem dX12_emit_26 : decode cX12_emit 26 = .ok (.putfield 192, 3) := by decide +kernel
theorem dX12_emit_29 : decode cX12_emit 29 = .ok (.return_, 1) := by decide +kernel
def fX12_emit (a0 : Nat) (a1 : Int) (a2 : Int) (G : Hp) : RT := bs (wr G ((rf a0 11)) 2200 (iadd 1100 (G a0 12)) (iadd a1 (imul 16 a2))) fun G1 => bh (up G1 a0 12 (iadd (G1 a0 12) 1)) fun G2 => rt 0 G2
set_option maxRecDepth 20000 in
set_option maxHeartbeats 4000000 in
theorem tX12_emit (l : Launch) (x : WX) (hi : Inj x.2.2) (G : Hp) (a0 : Nat) (a1 : Int) (a2 : Int) (ha0 : kd a0 = 12) : Ct l x yX12_emit cX12_emit 3 none 0 129 129 [vR a0, vI a1, vI a2] G (fX12_emit a0 a1 a2 G) := by
  refine ct_of (plainFor_of_name (by decide)) hi (Nat.le_refl _) (Nat.le_refl _) (Nat.le_of_ble_eq_true rfl) (fun cx F hd hn0 hnE hl hQ => ?_)
  subst hl
  have F : Fx cx x RX12 cX12_emit 3 none := F
  show Y cx x 3 none 129 0 [(0, vR a0), (1, vI a1), (2, vI a2)] [] G _
  unfold fX12_emit
  refine x_aload_n F dX12_emit_0 rfl rfl rfl ?_
  refine x_getR F flX12_90 ha0 rfl dX12_emit_1 rfl ?_
  refine x_sipush F dX12_emit_4 ⟨by decide, by decide⟩ (by decide) rfl ?_
  refine x_aload_n F dX12_emit_7 rfl rfl rfl ?_
  refine s_getI F flX12_192 ha0 rfl dX12_emit_8 rfl ?_
  refine x_iadd F dX12_emit_11 rfl ?_
  refine x_iload_n F dX12_emit_12 rfl rfl rfl ?_
  refine x_bipush F dX12_emit_13 ⟨by decide, by decide⟩ (by decide) rfl ?_
  refine x_iload_n F dX12_emit_15 rfl rfl rfl ?_
  refine x_imul F dX12_emit_16 rfl ?_
  refine x_iadd F dX12_emit_17 rfl ?_
  refine s_iast F (tf12_11 ha0).1 (tf12_11 ha0).2 dX12_emit_18 rfl (fun G1 => ?_)
  refine x_aload_n F dX12_emit_19 rfl rfl rfl ?_
  refine x_dup F dX12_emit_20 rfl rfl ?_
  refine s_getI F flX12_192 ha0 rfl dX12_emit_21 rfl ?_
  refine x_iconst F dX12_emit_24 ⟨by decide, by decide⟩ rfl ?_
  refine x_iadd F dX12_emit_25 rfl ?_
  refine s_putI F fpX12_192 ha0 rfl dX12_emit_26 rfl (fun G2 => ?_)
  exact x_vret F hnE hQ dX12_emit_29
theorem dX12_worked_0 : decode cX12_worked 0 = .ok (.iload_n 0, 1) := by decide +kernel
theorem dX12_worked_1 : decode cX12_worked 1 = .ok (.tableswitch 87 4 9 #[39, 43, 47, 51, 62, 73], 39) := by decide +kernel
theorem dX12_worked_40 : decode cX12_worked 40 = .ok (.iload_n 1, 1) := by decide +kernel
theorem dX12_worked_41 : decode cX12_worked 41 = .ok (.iload_n 2, 1) := by decide +kernel
theorem dX12_worked_42 : decode cX12_worked 42 = .ok (.iadd, 1) := by decide +kernel
theorem dX12_worked_43 : decode cX12_worked 43 = .ok (.ireturn, 1) := by decide +kernel
theorem dX12_worked_44 : decode cX12_worked 44 = .ok (.iload_n 1, 1) := by decide +kernel
theorem dX12_worked_45 : decode cX12_worked 45 = .ok (.iload_n 2, 1) := by decide +kernel
theorem dX12_worked_46 : decode cX12_worked 46 = .ok (.isub, 1) := by decide +kernel
theorem dX12_worked_47 : decode cX12_worked 47 = .ok (.ireturn, 1) := by decide +kernel
theorem dX12_worked_48 : decode cX12_worked 48 = .ok (.iload_n 1, 1) := by decide +kernel
theorem dX12_worked_49 : decode cX12_worked 49 = .ok (.iload_n 2, 1) := by decide +kernel
theorem dX12_worked_50 : decode cX12_worked 50 = .ok (.imul, 1) := by decide +kernel
theorem dX12_worked_51 : decode cX12_worked 51 = .ok (.ireturn, 1) := by decide +kernel
theorem dX12_worked_52 : decode cX12_worked 52 = .ok (.iload_n 1, 1) := by decide +kernel
theorem dX12_worked_53 : decode cX12_worked 53 = .ok (.iload_n 2, 1) := by decide +kernel
theorem dX12_worked_54 : decode cX12_worked 54 = .ok (.if_icmp .ge 7, 3) := by decide +kernel
theorem dX12_worked_57 : decode cX12_worked 57 = .ok (.iconst 1, 1) := by decide +kernel
theorem dX12_worked_58 : decode cX12_worked 58 = .ok (.goto 4, 3) := by decide +kernel
theorem dX12_worked_61 : decode cX12_worked 61 = .ok (.iconst 0, 1) := by decide +kernel
theorem dX12_worked_62 : decode cX12_worked 62 = .ok (.ireturn, 1) := by decide +kernel
theorem dX12_worked_63 : decode cX12_worked 63 = .ok (.iload_n 1, 1) := by decide +kernel
theorem dX12_worked_64 : decode cX12_worked 64 = .ok (.iload_n 2, 1) := by decide +kernel
theorem dX12_worked_65 : decode cX12_worked 65 = .ok (.if_icmp .ne 7, 3) := by decide +kernel
theorem dX12_worked_68 : decode cX12_worked 68 = .ok (.iconst 1, 1) := by decide +kernel
theorem dX12_worked_69 : decode cX12_worked 69 = .ok (.goto 4, 3) := by decide +kernel
theorem dX12_worked_72 : decode cX12_worked 72 = .ok (.iconst 0, 1) := by decide +kernel
theorem dX12_worked_73 : decode cX12_worked 73 = .ok (.ireturn, 1) := by decide +kernel
theorem dX12_worked_74 : decode cX12_worked 74 = .ok (.iload_n 1, 1) := by decide +kernel
theorem dX12_worked_75 : decode cX12_worked 75 = .ok (.ifCond .eq 11, 3) := by decide +kernel
theorem dX12_worked_78 : decode cX12_worked 78 = .ok (.iload_n 2, 1) := by decide +kernel
theorem dX12_worked_79 : decode cX12_worked 79 = .ok (.ifCond .eq 7, 3) := by decide +kernel
theorem dX12_worked_82 : decode cX12_worked 82 = .ok (.iconst 1, 1) := by decide +kernel
theorem dX12_worked_83 : decode cX12_worked 83 = .ok (.goto 4, 3) := by decide +kernel
theorem dX12_worked_86 : decode cX12_worked 86 = .ok (.iconst 0, 1) := by decide +kernel
theorem dX12_worked_87 : decode cX12_worked 87 = .ok (.ireturn, 1) := by decide +kernel
theorem dX12_worked_88 : decode cX12_worked 88 = .ok (.iload_n 1, 1) := by decide +kernel
theorem dX12_worked_89 : decode cX12_worked 89 = .ok (.ifCond .ne 7, 3) := by decide +kernel
theorem dX12_worked_92 : decode cX12_worked 92 = .ok (.iload_n 2, 1) := by decide +kernel
theorem dX12_worked_93 : decode cX12_worked 93 = .ok (.ifCond .eq 7, 3) := by decide +kernel
theorem dX12_worked_96 : decode cX12_worked 96 = .ok (.iconst 1, 1) := by decide +kernel
theorem dX12_worked_97 : decode cX12_worked 97 = .ok (.goto 4, 3) := by decide +kernel
theorem dX12_worked_100 : decode cX12_worked 100 = .ok (.iconst 0, 1) := by decide +kernel
theorem dX12_worked_101 : decode cX12_worked 101 = .ok (.ireturn, 1) := by decide +kernel
def fX12_worked (a0 : Int) (a1 : Int) (a2 : Int) (G : Hp) : RT := if a0 = 4 then (rt (iadd a1 a2) G) else (if a0 = 5 then (rt (isub a1 a2) G) else (if a0 = 6 then (rt (imul a1 a2) G) else (if a0 = 7 then (if a1 < a2 then rt 1 G else rt 0 G) else (if a0 = 8 then (if a1 = a2 then rt 1 G else rt 0 G) else (if a0 = 9 then (if a1 = 0 then rt 0 G else (if a2 = 0 then rt 0 G else rt 1 G)) else (jn (rt 1 G) fun (K7 : RT) => if a1 = 0 then (if a2 = 0 then rt 0 G else K7) else K7))))))
theorem pX12_worked {G : Hp} {a0 : Int} {a1 : Int} {a2 : Int} : PU G (fX12_worked a0 a1 a2 G) := by
  unfold fX12_worked
  refine PU_ite ?_ ?_
  · exact PU_rt
  · refine PU_ite ?_ ?_
    · exact PU_rt
    · refine PU_ite ?_ ?_
      · exact PU_rt
      · refine PU_ite ?_ ?_
        · refine PU_ite ?_ ?_
          · exact PU_rt
          · exact PU_rt
        · refine PU_ite ?_ ?_
          · refine PU_ite ?_ ?_
            · exact PU_rt
            · exact PU_rt
          · refine PU_ite ?_ ?_
            · refine PU_ite ?_ ?_
              · exact PU_rt
              · refine PU_ite ?_ ?_
                · exact PU_rt
                · exact PU_rt
            · refine PU_jn (fun (K7 : RT) => PU G (K7)) ?_ (fun K7 phK7 => ?_)
              · exact PU_rt
              · refine PU_ite ?_ ?_
                · refine PU_ite ?_ ?_
                  · exact PU_rt
                  · exact phK7
                · exact phK7
set_option maxRecDepth 20000 in
set_option maxHeartbeats 4000000 in
theorem tX12_worked (l : Launch) (x : WX) (hi : Inj x.2.2) (G : Hp) (a0 : Int) (a1 : Int) (a2 : Int)  : Ct l x yX12_worked cX12_worked 3 (some .int) 0 129 129 [vI a0, vI a1, vI a2] G (fX12_worked a0 a1 a2 G) := by
  refine ct_of (plainFor_of_name (by decide)) hi (Nat.le_refl _) (Nat.le_refl _) (Nat.le_of_ble_eq_true rfl) (fun cx F hd hn0 hnE hl hQ => ?_)
  subst hl
  have F : Fx cx x RX12 cX12_worked 3 (some .int) := F
  show Y cx x 3 (some .int) 129 0 [(0, vI a0), (1, vI a1), (2, vI a2)] [] G _
  unfold fX12_worked
  refine x_iload_n F dX12_worked_0 rfl rfl rfl ?_
  refine x_ite (fun h1 => ?_) (fun h1 => ?_)
  · refine x_tabIn (off := 39) (pc' := 40) F dX12_worked_1 (by omega) (by omega) (by rw [h1]; rfl) rfl ?_
    refine x_iload_n F dX12_worked_40 rfl rfl rfl ?_
    refine x_iload_n F dX12_worked_41 rfl rfl rfl ?_
    refine x_iadd F dX12_worked_42 rfl ?_
    exact x_iret F hnE hQ dX12_worked_43
  · refine x_ite (fun h2 => ?_) (fun h2 => ?_)
    · refine x_tabIn (off := 43) (pc' := 44) F dX12_worked_1 (by omega) (by omega) (by rw [h2]; rfl) rfl ?_
      refine x_iload_n F dX12_worked_44 rfl rfl rfl ?_
      refine x_iload_n F dX12_worked_45 rfl rfl rfl ?_
      refine x_isub F dX12_worked_46 rfl ?_
      exact x_iret F hnE hQ dX12_worked_47
    · refine x_ite (fun h3 => ?_) (fun h3 => ?_)
      · refine x_tabIn (off := 47) (pc' := 48) F dX12_worked_1 (by omega) (by omega) (by rw [h3]; rfl) rfl ?_
        refine x_iload_n F dX12_worked_48 rfl rfl rfl ?_
        refine x_iload_n F dX12_worked_49 rfl rfl rfl ?_
        refine x_imul F dX12_worked_50 rfl ?_
        exact x_iret F hnE hQ dX12_worked_51
      · refine x_ite (fun h4 => ?_) (fun h4 => ?_)
        · refine x_tabIn (off := 51) (pc' := 52) F dX12_worked_1 (by omega) (by omega) (by rw [h4]; rfl) rfl ?_
          refine x_iload_n F dX12_worked_52 rfl rfl rfl ?_
          refine x_iload_n F dX12_worked_53 rfl rfl rfl ?_
          refine x_icmpge (pt := 61) F dX12_worked_54 rfl rfl ?_ ?_
          · refine x_iconst F dX12_worked_57 ⟨by decide, by decide⟩ rfl ?_
            refine x_goto (pc' := 62) F dX12_worked_58 rfl ?_
            exact x_iret F hnE hQ dX12_worked_62
          · refine x_iconst F dX12_worked_61 ⟨by decide, by decide⟩ rfl ?_
            exact x_iret F hnE hQ dX12_worked_62
        · refine x_ite (fun h5 => ?_) (fun h5 => ?_)
          · refine x_tabIn (off := 62) (pc' := 63) F dX12_worked_1 (by omega) (by omega) (by rw [h5]; rfl) rfl ?_
            refine x_iload_n F dX12_worked_63 rfl rfl rfl ?_
            refine x_iload_n F dX12_worked_64 rfl rfl rfl ?_
            refine x_icmpne (pt := 72) F dX12_worked_65 rfl rfl ?_ ?_
            · refine x_iconst F dX12_worked_68 ⟨by decide, by decide⟩ rfl ?_
              refine x_goto (pc' := 73) F dX12_worked_69 rfl ?_
              exact x_iret F hnE hQ dX12_worked_73
            · refine x_iconst F dX12_worked_72 ⟨by decide, by decide⟩ rfl ?_
              exact x_iret F hnE hQ dX12_worked_73
          · refine x_ite (fun h6 => ?_) (fun h6 => ?_)
            · refine x_tabIn (off := 73) (pc' := 74) F dX12_worked_1 (by omega) (by omega) (by rw [h6]; rfl) rfl ?_
              refine x_iload_n F dX12_worked_74 rfl rfl rfl ?_
              refine x_ifeq (pt := 86) F dX12_worked_75 rfl rfl ?_ ?_
              · refine x_iconst F dX12_worked_86 ⟨by decide, by decide⟩ rfl ?_
                exact x_iret F hnE hQ dX12_worked_87
              · refine x_iload_n F dX12_worked_78 rfl rfl rfl ?_
                refine x_ifeq (pt := 86) F dX12_worked_79 rfl rfl ?_ ?_
                · refine x_iconst F dX12_worked_86 ⟨by decide, by decide⟩ rfl ?_
                  exact x_iret F hnE hQ dX12_worked_87
                · refine x_iconst F dX12_worked_82 ⟨by decide, by decide⟩ rfl ?_
                  refine x_goto (pc' := 87) F dX12_worked_83 rfl ?_
                  exact x_iret F hnE hQ dX12_worked_87
            · refine x_tabOut (pc' := 88) F dX12_worked_1 (by omega) rfl ?_
              refine x_iload_n F dX12_worked_88 rfl rfl rfl ?_
              refine x_jn (fun (K7 : RT) => Y cx x 3 (some .int) 129 96 [] [] G K7) ?_ (fun K7 hK7 => ?_)
              · refine x_iconst F dX12_worked_96 ⟨by decide, by decide⟩ rfl ?_
                refine x_goto (pc' := 101) F dX12_worked_97 rfl ?_
                exact x_iret F hnE hQ dX12_worked_101
              · refine x_ifne (pt := 96) F dX12_worked_89 rfl rfl ?_ ?_
                · refine x_iload_n F dX12_worked_92 rfl rfl rfl ?_
                  refine x_ifeq (pt := 100) F dX12_worked_93 rfl rfl ?_ ?_
                  · refine x_iconst F dX12_worked_100 ⟨by decide, by decide⟩ rfl ?_
                    exact x_iret F hnE hQ dX12_worked_101
                  · refine x_dp (L' := []) [] rfl ?_
                    exact hK7
                · refine x_dp (L' := []) [] rfl ?_
                  exact hK7
theorem dX12_copies_0 : decode cX12_copies 0 = .ok (.iconst 0, 1) := by decide +kernel
theorem dX12_copies_1 : decode cX12_copies 1 = .ok (.istore 4, 2) := by decide +kernel
theorem dX12_copies_3 : decode cX12_copies 3 = .ok (.iload 4, 2) := by decide +kernel
theorem dX12_copies_5 : decode cX12_copies 5 = .ok (.iload_n 3, 1) := by decide +kernel
theorem dX12_copies_6 : decode cX12_copies 6 = .ok (.if_icmp .ge 27, 3) := by decide +kernel
theorem dX12_copies_9 : decode cX12_copies 9 = .ok (.aload_n 0, 1) := by decide +kernel
theorem dX12_copies_10 : decode cX12_copies 10 = .ok (.getfield 105, 3) := by decide +kernel
theorem dX12_copies_13 : decode cX12_copies 13 = .ok (.iload_n 2, 1) := by decide +kernel
theorem dX12_copies_14 : decode cX12_copies 14 = .ok (.iload 4, 2) := by decide +kernel
theorem dX12_copies_16 : decode cX12_copies 16 = .ok (.iadd, 1) := by decide +kernel
theorem dX12_copies_17 : decode cX12_copies 17 = .ok (.aload_n 0, 1) := by decide +kernel
theorem dX12_copies_18 : decode cX12_copies 18 = .ok (.getfield 105, 3) := by decide +kernel
theorem dX12_copies_21 : decode cX12_copies 21 = .ok (.iload_n 1, 1) := by decide +kernel
theorem dX12_copies_22 : decode cX12_copies 22 = .ok (.iload 4, 2) := by decide +kernel
theorem dX12_copies_24 : decode cX12_copies 24 = .ok (.iadd, 1) := by decide +kernel
theorem dX12_copies_25 : decode cX12_copies 25 = .ok (.iaload, 1) := by decide +kernel
theorem dX12_copies_26 : decode cX12_copies 26 = .ok (.iastore, 1) := by decide +kernel
theorem dX12_copies_27 : decode cX12_copies 27 = .ok (.iinc 4 1, 3) := by decide +kernel
theorem dX12_copies_30 : decode cX12_copies 30 = .ok (.goto (-27), 3) := by decide +kernel
theorem dX12_copies_33 : decode cX12_copies 33 = .ok (.return_, 1) := by decide +kernel
def fX12_copies (a0 : Nat) (a1 : Int) (a2 : Int) (a3 : Int) (G : Hp) : RT := bd 0 fun v1 => (lp (fun (_ : Int) (_ : Hp) => (none : RT)) 5000 (fun (rc4 : Int → Hp → RT) (v2 : Int) (G3 : Hp) => if v2 < a3 then (br (rd G3 ((rf a0 17)) 3565 (iadd a1 v2)) fun v5 => bs (wr G3 ((rf a0 17)) 3565 (iadd a2 v2) v5) fun G6 => bd (iadd v2 1) fun v7 => rc4 v7 G6) else rt 0 G3)) v1 G
set_option maxRecDepth 20000 in
set_option maxHeartbeats 4000000 in
theorem tX12_copies (l : Launch) (x : WX) (hi : Inj x.2.2) (G : Hp) (a0 : Nat) (a1 : Int) (a2 : Int) (a3 : Int) (ha0 : kd a0 = 12) : Ct l x yX12_copies cX12_copies 5 none 0 129 129 [vR a0, vI a1, vI a2, vI a3] G (fX12_copies a0 a1 a2 a3 G) := by
  refine ct_of (plainFor_of_name (by decide)) hi (Nat.le_refl _) (Nat.le_refl _) (Nat.le_of_ble_eq_true rfl) (fun cx F hd hn0 hnE hl hQ => ?_)
  subst hl
  have F : Fx cx x RX12 cX12_copies 5 none := F
  show Y cx x 5 none 129 0 [(0, vR a0), (1, vI a1), (2, vI a2), (3, vI a3)] [] G _
  unfold fX12_copies
  refine x_iconst F dX12_copies_0 ⟨by decide, by decide⟩ rfl ?_
  refine x_istore F dX12_copies_1 (by decide) rfl rfl (fun v1 => ?_)
  show Y cx x _ _ _ _ [(0, vR a0), (1, vI a1), (2, vI a2), (3, vI a3), (4, vI v1)] _ _ _
  refine x_lp (fun (rc4 : Int → Hp → RT) => ∀ (v2 : Int) (G3 : Hp), Y cx x 5 none 129 3 [(0, vR a0), (1, vI a1), (2, vI a2), (3, vI a3), (4, vI v2)] [] G3 (rc4 v2 G3)) (fun _ _ => Y_none) (fun rc4 hrc4 v2 G3 => ?_) 5000 v1 G
  refine x_iload F dX12_copies_3 rfl rfl ?_
  refine x_iload_n F dX12_copies_5 rfl rfl rfl ?_
  refine x_icmpge (pt := 33) F dX12_copies_6 rfl rfl ?_ ?_
  · refine x_aload_n F dX12_copies_9 rfl rfl rfl ?_
    refine x_getR F flX12_105 ha0 rfl dX12_copies_10 rfl ?_
    refine x_iload_n F dX12_copies_13 rfl rfl rfl ?_
    refine x_iload F dX12_copies_14 rfl rfl ?_
    refine x_iadd F dX12_copies_16 rfl ?_
    refine x_aload_n F dX12_copies_17 rfl rfl rfl ?_
    refine x_getR F flX12_105 ha0 rfl dX12_copies_18 rfl ?_
    refine x_iload_n F dX12_copies_21 rfl rfl rfl ?_
    refine x_iload F dX12_copies_22 rfl rfl ?_
    refine x_iadd F dX12_copies_24 rfl ?_
    refine s_iald F (tf12_17 ha0).1 (tf12_17 ha0).2 dX12_copies_25 rfl (fun v5 => ?_)
    refine s_iast F (tf12_17 ha0).1 (tf12_17 ha0).2 dX12_copies_26 rfl (fun G6 => ?_)
    refine x_iinc F dX12_copies_27 rfl (by decide) rfl rfl (fun v7 => ?_)
    show Y cx x _ _ _ _ [(0, vR a0), (1, vI a1), (2, vI a2), (3, vI a3), (4, vI v7)] _ _ _
    refine x_goto (pc' := 3) F dX12_copies_30 rfl ?_
    exact hrc4 v7 G6
  · exact x_vret F hnE hQ dX12_copies_33
theorem dX12_circle_0 : decode cX12_circle 0 = .ok (.aload_n 0, 1) := by decide +kernel
theorem dX12_circle_1 : decode cX12_circle 1 = .ok (.getfield 87, 3) := by decide +kernel
theorem dX12_circle_4 : decode cX12_circle 4 = .ok (.iconst 0, 1) := by decide +kernel
theorem dX12_circle_5 : decode cX12_circle 5 = .ok (.iaload, 1) := by decide +kernel
theorem dX12_circle_6 : decode cX12_circle 6 = .ok (.ireturn, 1) := by decide +kernel
def fX12_circle (a0 : Nat) (G : Hp) : RT := br (rd G ((rf a0 10)) 64 0) fun v1 => rt v1 G
theorem pX12_circle {G : Hp} {a0 : Nat} : PU G (fX12_circle a0 G) := by
  unfold fX12_circle
  refine PU_br (fun v1 => ?_)
  exact PU_rt
set_option maxRecDepth 20000 in
set_option maxHeartbeats 4000000 in
theorem tX12_circle (l : Launch) (x : WX) (hi : Inj x.2.2) (G : Hp) (a0 : Nat) (ha0 : kd a0 = 12) : Ct l x yX12_circle cX12_circle 1 (some .int) 0 129 129 [vR a0] G (fX12_circle a0 G) := by
  refine ct_of (plainFor_of_name (by decide)) hi (Nat.le_refl _) (Nat.le_refl _) (Nat.le_of_ble_eq_true rfl) (fun cx F hd hn0 hnE hl hQ => ?_)
  subst hl
  have F : Fx cx x RX12 cX12_circle 1 (some .int) := F
  show Y cx x 1 (some .int) 129 0 [(0, vR a0)] [] G _
  unfold fX12_circle
  refine x_aload_n F dX12_circle_0 rfl rfl rfl ?_
  refine x_getR F flX12_87 ha0 rfl dX12_circle_1 rfl ?_
  refine x_iconst F dX12_circle_4 ⟨by decide, by decide⟩ rfl ?_
  refine s_iald F (tf12_10 ha0).1 (tf12_10 ha0).2 dX12_circle_5 rfl (fun v1 => ?_)
  exact x_iret F hnE hQ dX12_circle_6
theorem dX12_nodes_0 : decode cX12_nodes 0 = .ok (.aload_n 0, 1) := by decide +kernel
theorem dX12_nodes_1 : decode cX12_nodes 1 = .ok (.getfield 87, 3) := by decide +kernel
theorem dX12_nodes_4 : decode cX12_nodes 4 = .ok (.iconst 2, 1) := by decide +kernel
theorem dX12_nodes_5 : decode cX12_nodes 5 = .ok (.iaload, 1) := by decide +kernel
theorem dX12_nodes_6 : decode cX12_nodes 6 = .ok (.ireturn, 1) := by decide +kernel
def fX12_nodes (a0 : Nat) (G : Hp) : RT := br (rd G ((rf a0 10)) 64 2) fun v1 => rt v1 G
theorem pX12_nodes {G : Hp} {a0 : Nat} : PU G (fX12_nodes a0 G) := by
  unfold fX12_nodes
  refine PU_br (fun v1 => ?_)
  exact PU_rt
set_option maxRecDepth 20000 in
set_option maxHeartbeats 4000000 in
theorem tX12_nodes (l : Launch) (x : WX) (hi : Inj x.2.2) (G : Hp) (a0 : Nat) (ha0 : kd a0 = 12) : Ct l x yX12_nodes cX12_nodes 1 (some .int) 0 129 129 [vR a0] G (fX12_nodes a0 G) := by
  refine ct_of (plainFor_of_name (by decide)) hi (Nat.le_refl _) (Nat.le_refl _) (Nat.le_of_ble_eq_true rfl) (fun cx F hd hn0 hnE hl hQ => ?_)
  subst hl
  have F : Fx cx x RX12 cX12_nodes 1 (some .int) := F
  show Y cx x 1 (some .int) 129 0 [(0, vR a0)] [] G _
  unfold fX12_nodes
  refine x_aload_n F dX12_nodes_0 rfl rfl rfl ?_
  refine x_getR F flX12_87 ha0 rfl dX12_nodes_1 rfl ?_
  refine x_iconst F dX12_nodes_4 ⟨by decide, by decide⟩ rfl ?_
  refine s_iald F (tf12_10 ha0).1 (tf12_10 ha0).2 dX12_nodes_5 rfl (fun v1 => ?_)
  exact x_iret F hnE hQ dX12_nodes_6
theorem dX12_keys_0 : decode cX12_keys 0 = .ok (.aload_n 0, 1) := by decide +kernel
theorem dX12_keys_1 : decode cX12_keys 1 = .ok (.getfield 87, 3) := by decide +kernel
theorem dX12_keys_4 : decode cX12_keys 4 = .ok (.iconst 3, 1) := by decide +kernel
theorem dX12_keys_5 : decode cX12_keys 5 = .ok (.iaload, 1) := by decide +kernel
theorem dX12_keys_6 : decode cX12_keys 6 = .ok (.ireturn, 1) := by decide +kernel
def fX12_keys (a0 : Nat) (G : Hp) : RT := br (rd G ((rf a0 10)) 64 3) fun v1 => rt v1 G
theorem pX12_keys {G : Hp} {a0 : Nat} : PU G (fX12_keys a0 G) := by
  unfold fX12_keys
  refine PU_br (fun v1 => ?_)
  exact PU_rt
set_option maxRecDepth 20000 in
set_option maxHeartbeats 4000000 in
theorem tX12_keys (l : Launch) (x : WX) (hi : Inj x.2.2) (G : Hp) (a0 : Nat) (ha0 : kd a0 = 12) : Ct l x yX12_keys cX12_keys 1 (some .int) 0 129 129 [vR a0] G (fX12_keys a0 G) := by
  refine ct_of (plainFor_of_name (by decide)) hi (Nat.le_refl _) (Nat.le_refl _) (Nat.le_of_ble_eq_true rfl) (fun cx F hd hn0 hnE hl hQ => ?_)
  subst hl
  have F : Fx cx x RX12 cX12_keys 1 (some .int) := F
  show Y cx x 1 (some .int) 129 0 [(0, vR a0)] [] G _
  unfold fX12_keys
  refine x_aload_n F dX12_keys_0 rfl rfl rfl ?_
  refine x_getR F flX12_87 ha0 rfl dX12_keys_1 rfl ?_
  refine x_iconst F dX12_keys_4 ⟨by decide, by decide⟩ rfl ?_
  refine s_iald F (tf12_10 ha0).1 (tf12_10 ha0).2 dX12_keys_5 rfl (fun v1 => ?_)
  exact x_iret F hnE hQ dX12_keys_6
theorem dX12_kindOf_0 : decode cX12_kindOf 0 = .ok (.aload_n 0, 1) := by decide +kernel
theorem dX12_kindOf_1 : decode cX12_kindOf 1 = .ok (.getfield 87, 3) := by decide +kernel
theorem dX12_kindOf_4 : decode cX12_kindOf 4 = .ok (.bipush 6, 2) := by decide +kernel
theorem dX12_kindOf_6 : decode cX12_kindOf 6 = .ok (.iload_n 1, 1) := by decide +kernel
theorem dX12_kindOf_7 : decode cX12_kindOf 7 = .ok (.iadd, 1) := by decide +kernel
theorem dX12_kindOf_8 : decode cX12_kindOf 8 = .ok (.iaload, 1) := by decide +kernel
theorem dX12_kindOf_9 : decode cX12_kindOf 9 = .ok (.ireturn, 1) := by decide +kernel
def fX12_kindOf (a0 : Nat) (a1 : Int) (G : Hp) : RT := br (rd G ((rf a0 10)) 64 (iadd 6 a1)) fun v1 => rt v1 G
theorem pX12_kindOf {G : Hp} {a0 : Nat} {a1 : Int} : PU G (fX12_kindOf a0 a1 G) := by
  unfold fX12_kindOf
  refine PU_br (fun v1 => ?_)
  exact PU_rt
set_option maxRecDepth 20000 in
set_option maxHeartbeats 4000000 in
theorem tX12_kindOf (l : Launch) (x : WX) (hi : Inj x.2.2) (G : Hp) (a0 : Nat) (a1 : Int) (ha0 : kd a0 = 12) : Ct l x yX12_kindOf cX12_kindOf 2 (some .int) 0 129 129 [vR a0, vI a1] G (fX12_kindOf a0 a1 G) := by
  refine ct_of (plainFor_of_name (by decide)) hi (Nat.le_refl _) (Nat.le_refl _) (Nat.le_of_ble_eq_true rfl) (fun cx F hd hn0 hnE hl hQ => ?_)
  subst hl
  have F : Fx cx x RX12 cX12_kindOf 2 (some .int) := F
  show Y cx x 2 (some .int) 129 0 [(0, vR a0), (1, vI a1)] [] G _
  unfold fX12_kindOf
  refine x_aload_n F dX12_kindOf_0 rfl rfl rfl ?_
  refine x_getR F flX12_87 ha0 rfl dX12_kindOf_1 rfl ?_
  refine x_bipush F dX12_kindOf_4 ⟨by decide, by decide⟩ (by decide) rfl ?_
  refine x_iload_n F dX12_kindOf_6 rfl rfl rfl ?_
  refine x_iadd F dX12_kindOf_7 rfl ?_
  refine s_iald F (tf12_10 ha0).1 (tf12_10 ha0).2 dX12_kindOf_8 rfl (fun v1 => ?_)
  exact x_iret F hnE hQ dX12_kindOf_9
theorem dX12_placeOf_0 : decode cX12_placeOf 0 = .ok (.aload_n 0, 1) := by decide +kernel
theorem dX12_placeOf_1 : decode cX12_placeOf 1 = .ok (.getfield 87, 3) := by decide +kernel
theorem dX12_placeOf_4 : decode cX12_placeOf 4 = .ok (.bipush 14, 2) := by decide +kernel
theorem dX12_placeOf_6 : decode cX12_placeOf 6 = .ok (.iload_n 1, 1) := by decide +kernel
theorem dX12_placeOf_7 : decode cX12_placeOf 7 = .ok (.iadd, 1) := by decide +kernel
theorem dX12_placeOf_8 : decode cX12_placeOf 8 = .ok (.iaload, 1) := by decide +kernel
theorem dX12_placeOf_9 : decode cX12_placeOf 9 = .ok (.ireturn, 1) := by decide +kernel
def fX12_placeOf (a0 : Nat) (a1 : Int) (G : Hp) : RT := br (rd G ((rf a0 10)) 64 (iadd 14 a1)) fun v1 => rt v1 G
theorem pX12_placeOf {G : Hp} {a0 : Nat} {a1 : Int} : PU G (fX12_placeOf a0 a1 G) := by
  unfold fX12_placeOf
  refine PU_br (fun v1 => ?_)
  exact PU_rt
set_option maxRecDepth 20000 in
set_option maxHeartbeats 4000000 in
theorem tX12_placeOf (l : Launch) (x : WX) (hi : Inj x.2.2) (G : Hp) (a0 : Nat) (a1 : Int) (ha0 : kd a0 = 12) : Ct l x yX12_placeOf cX12_placeOf 2 (some .int) 0 129 129 [vR a0, vI a1] G (fX12_placeOf a0 a1 G) := by
  refine ct_of (plainFor_of_name (by decide)) hi (Nat.le_refl _) (Nat.le_refl _) (Nat.le_of_ble_eq_true rfl) (fun cx F hd hn0 hnE hl hQ => ?_)
  subst hl
  have F : Fx cx x RX12 cX12_placeOf 2 (some .int) := F
  show Y cx x 2 (some .int) 129 0 [(0, vR a0), (1, vI a1)] [] G _
  unfold fX12_placeOf
  refine x_aload_n F dX12_placeOf_0 rfl rfl rfl ?_
  refine x_getR F flX12_87 ha0 rfl dX12_placeOf_1 rfl ?_
  refine x_bipush F dX12_placeOf_4 ⟨by decide, by decide⟩ (by decide) rfl ?_
  refine x_iload_n F dX12_placeOf_6 rfl rfl rfl ?_
  refine x_iadd F dX12_placeOf_7 rfl ?_
  refine s_iald F (tf12_10 ha0).1 (tf12_10 ha0).2 dX12_placeOf_8 rfl (fun v1 => ?_)
  exact x_iret F hnE hQ dX12_placeOf_9
theorem dX12_goesOut_0 : decode cX12_goesOut 0 = .ok (.iload_n 1, 1) := by decide +kernel
theorem dX12_goesOut_1 : decode cX12_goesOut 1 = .ok (.bipush 15, 2) := by decide +kernel
theorem dX12_goesOut_3 : decode cX12_goesOut 3 = .ok (.iload_n 2, 1) := by decide +kernel
theorem dX12_goesOut_4 : decode cX12_goesOut 4 = .ok (.imul, 1) := by decide +kernel
theorem dX12_goesOut_5 : decode cX12_goesOut 5 = .ok (.iadd, 1) := by decide +kernel
theorem dX12_goesOut_6 : decode cX12_goesOut 6 = .ok (.istore_n 3, 1) := by decide +kernel
theorem dX12_goesOut_7 : decode cX12_goesOut 7 = .ok (.iconst 0, 1) := by decide +kernel
theorem dX12_goesOut_8 : decode cX12_goesOut 8 = .ok (.istore 4, 2) := by decide +kernel
theorem dX12_goesOut_10 : decode cX12_goesOut 10 = .ok (.iload 4, 2) := by decide +kernel
theorem dX12_goesOut_12 : decode cX12_goesOut 12 = .ok (.bipush 15, 2) := by decide +kernel
theorem dX12_goesOut_14 : decode cX12_goesOut 14 = .ok (.if_icmp .ge 29, 3) := by decide +kernel
theorem dX12_goesOut_17 : decode cX12_goesOut 17 = .ok (.aload_n 0, 1) := by decide +kernel
theorem dX12_goesOut_18 : decode cX12_goesOut 18 = .ok (.getfield 105, 3) := by decide +kernel
theorem dX12_goesOut_21 : decode cX12_goesOut 21 = .ok (.iload_n 3, 1) := by decide +kernel
theorem dX12_goesOut_22 : decode cX12_goesOut 22 = .ok (.iload 4, 2) := by decide +kernel
theorem dX12_goesOut_24 : decode cX12_goesOut 24 = .ok (.iadd, 1) := by decide +kernel
theorem dX12_goesOut_25 : decode cX12_goesOut 25 = .ok (.iload 4, 2) := by decide +kernel
theorem dX12_goesOut_27 : decode cX12_goesOut 27 = .ok (.iconst 1, 1) := by decide +kernel
theorem dX12_goesOut_28 : decode cX12_goesOut 28 = .ok (.if_icmp .gt 7, 3) := by decide +kernel
theorem dX12_goesOut_31 : decode cX12_goesOut 31 = .ok (.iconst 0, 1) := by decide +kernel
theorem dX12_goesOut_32 : decode cX12_goesOut 32 = .ok (.goto 4, 3) := by decide +kernel
theorem dX12_goesOut_35 : decode cX12_goesOut 35 = .ok (.iconst (-1), 1) := by decide +kernel
theorem dX12_goesOut_36 : decode cX12_goesOut 36 = .ok (.iastore, 1) := by decide +kernel
theorem dX12_goesOut_37 : decode cX12_goesOut 37 = .ok (.iinc 4 1, 3) := by decide +kernel
theorem dX12_goesOut_40 : decode cX12_goesOut 40 = .ok (.goto (-30), 3) := by decide +kernel
theorem dX12_goesOut_43 : decode cX12_goesOut 43 = .ok (.return_, 1) := by decide +kernel
def fX12_goesOut (a0 : Nat) (a1 : Int) (a2 : Int) (G : Hp) : RT := bd (iadd a1 (imul 15 a2)) fun v1 => bd 0 fun v2 => (lp (fun (_ : Int) (_ : Hp) => (none : RT)) 5000 (fun (rc5 : Int → Hp → RT) (v3 : Int) (G4 : Hp) => if v3 < 15 then (jn (fun (v6 : Int) => bs (wr G4 ((rf a0 17)) 3565 (iadd v1 v3) v6) fun G8 => bd (iadd v3 1) fun v9 => rc5 v9 G8) fun (K7 : Int → RT) => if 1 < v3 then (K7 ((-1))) else K7 0) else rt 0 G4)) v2 G
set_option maxRecDepth 20000 in
set_option maxHeartbeats 4000000 in
theorem tX12_goesOut (l : Launch) (x : WX) (hi : Inj x.2.2) (G : Hp) (a0 : Nat) (a1 : Int) (a2 : Int) (ha0 : kd a0 = 12) : Ct l x yX12_goesOut cX12_goesOut 5 none 0 129 129 [vR a0, vI a1, vI a2] G (fX12_goesOut a0 a1 a2 G) := by
  refine ct_of (plainFor_of_name (by decide)) hi (Nat.le_refl _) (Nat.le_refl _) (Nat.le_of_ble_eq_true rfl) (fun cx F hd hn0 hnE hl hQ => ?_)
  subst hl
  have F : Fx cx x RX12 cX12_goesOut 5 none := F
  show Y cx x 5 none 129 0 [(0, vR a0), (1, vI a1), (2, vI a2)] [] G _
  unfold fX12_goesOut
  refine x_iload_n F dX12_goesOut_0 rfl rfl rfl ?_
  refine x_bipush F dX12_goesOut_1 ⟨by decide, by decide⟩ (by decide) rfl ?_
  refine x_iload_n F dX12_goesOut_3 rfl rfl rfl ?_
  refine x_imul F dX12_goesOut_4 rfl ?_
  refine x_iadd F dX12_goesOut_5 rfl ?_
  refine x_dp (L' := [(0, vR a0)]) [0] rfl ?_
  refine x_istore_n F dX12_goesOut_6 rfl (by decide) rfl rfl (fun v1 => ?_)
  show Y cx x _ _ _ _ [(0, vR a0), (3, vI v1)] _ _ _
  refine x_iconst F dX12_goesOut_7 ⟨by decide, by decide⟩ rfl ?_
  refine x_istore F dX12_goesOut_8 (by decide) rfl rfl (fun v2 => ?_)
  show Y cx x _ _ _ _ [(0, vR a0), (3, vI v1), (4, vI v2)] _ _ _
  refine x_lp (fun (rc5 : Int → Hp → RT) => ∀ (v3 : Int) (G4 : Hp), Y cx x 5 none 129 10 [(0, vR a0), (3, vI v1), (4, vI v3)] [] G4 (rc5 v3 G4)) (fun _ _ => Y_none) (fun rc5 hrc5 v3 G4 => ?_) 5000 v2 G
  refine x_iload F dX12_goesOut_10 rfl rfl ?_
  refine x_bipush F dX12_goesOut_12 ⟨by decide, by decide⟩ (by decide) rfl ?_
  refine x_icmpge (pt := 43) F dX12_goesOut_14 rfl rfl ?_ ?_
  · refine x_aload_n F dX12_goesOut_17 rfl rfl rfl ?_
    refine x_getR F flX12_105 ha0 rfl dX12_goesOut_18 rfl ?_
    refine x_iload_n F dX12_goesOut_21 rfl rfl rfl ?_
    refine x_iload F dX12_goesOut_22 rfl rfl ?_
    refine x_iadd F dX12_goesOut_24 rfl ?_
    refine x_iload F dX12_goesOut_25 rfl rfl ?_
    refine x_iconst F dX12_goesOut_27 ⟨by decide, by decide⟩ rfl ?_
    refine x_jn (fun (K7 : Int → RT) => ∀ (v6 : Int), Y cx x 5 none 129 36 [(0, vR a0), (3, vI v1), (4, vI v3)] [vI v6, vI (iadd v1 v3), vR ((rf a0 17))] G4 (K7 v6)) ?_ (fun K7 hK7 => ?_)
    · intro v6
      refine s_iast F (tf12_17 ha0).1 (tf12_17 ha0).2 dX12_goesOut_36 rfl (fun G8 => ?_)
      refine x_iinc F dX12_goesOut_37 rfl (by decide) rfl rfl (fun v9 => ?_)
      show Y cx x _ _ _ _ [(0, vR a0), (3, vI v1), (4, vI v9)] _ _ _
      refine x_goto (pc' := 10) F dX12_goesOut_40 rfl ?_
      exact hrc5 v9 G8
    · refine x_icmpgt (pt := 35) F dX12_goesOut_28 rfl rfl ?_ ?_
      · refine x_iconst F dX12_goesOut_35 ⟨by decide, by decide⟩ rfl ?_
        exact hK7 ((-1))
      · refine x_iconst F dX12_goesOut_31 ⟨by decide, by decide⟩ rfl ?_
        refine x_goto (pc' := 36) F dX12_goesOut_32 rfl ?_
        exact hK7 0
  · exact x_vret F hnE hQ dX12_goesOut_43
theorem dX12_isIn_0 : decode cX12_isIn 0 = .ok (.iload_n 2, 1) := by decide +kernel
theorem dX12_isIn_1 : decode cX12_isIn 1 = .ok (.ifCond .lt 24, 3) := by decide +kernel
theorem dX12_isIn_4 : decode cX12_isIn 4 = .ok (.aload_n 0, 1) := by decide +kernel
theorem dX12_isIn_5 : decode cX12_isIn 5 = .ok (.getfield 105, 3) := by decide +kernel
theorem dX12_isIn_8 : decode cX12_isIn 8 = .ok (.iload_n 1, 1) := by decide +kernel
theorem dX12_isIn_9 : decode cX12_isIn 9 = .ok (.bipush 15, 2) := by decide +kernel
theorem dX12_isIn_11 : decode cX12_isIn 11 = .ok (.iload_n 2, 1) := by decide +kernel
theorem dX12_isIn_12 : decode cX12_isIn 12 = .ok (.imul, 1) := by decide +kernel
theorem dX12_isIn_13 : decode cX12_isIn 13 = .ok (.iadd, 1) := by decide +kernel
theorem dX12_isIn_14 : decode cX12_isIn 14 = .ok (.iconst 0, 1) := by decide +kernel
theorem dX12_isIn_15 : decode cX12_isIn 15 = .ok (.iadd, 1) := by decide +kernel
theorem dX12_isIn_16 : decode cX12_isIn 16 = .ok (.iaload, 1) := by decide +kernel
theorem dX12_isIn_17 : decode cX12_isIn 17 = .ok (.iconst 1, 1) := by decide +kernel
theorem dX12_isIn_18 : decode cX12_isIn 18 = .ok (.if_icmp .ne 7, 3) := by decide +kernel
theorem dX12_isIn_21 : decode cX12_isIn 21 = .ok (.iconst 1, 1) := by decide +kernel
theorem dX12_isIn_22 : decode cX12_isIn 22 = .ok (.goto 4, 3) := by decide +kernel
theorem dX12_isIn_25 : decode cX12_isIn 25 = .ok (.iconst 0, 1) := by decide +kernel
theorem dX12_isIn_26 : decode cX12_isIn 26 = .ok (.ireturn, 1) := by decide +kernel
def fX12_isIn (a0 : Nat) (a1 : Int) (a2 : Int) (G : Hp) : RT := if a2 < 0 then rz 0 G else (br (rd G ((rf a0 17)) 3565 (iadd (iadd a1 (imul 15 a2)) 0)) fun v1 => if v1 = 1 then rz 1 G else rz 0 G)
theorem pX12_isIn {G : Hp} {a0 : Nat} {a1 : Int} {a2 : Int} : PU G (fX12_isIn a0 a1 a2 G) := by
  unfold fX12_isIn
  refine PU_ite ?_ ?_
  · exact PU_rz
  · refine PU_br (fun v1 => ?_)
    refine PU_ite ?_ ?_
    · exact PU_rz
    · exact PU_rz
set_option maxRecDepth 20000 in
set_option maxHeartbeats 4000000 in
theorem tX12_isIn (l : Launch) (x : WX) (hi : Inj x.2.2) (G : Hp) (a0 : Nat) (a1 : Int) (a2 : Int) (ha0 : kd a0 = 12) : Ct l x yX12_isIn cX12_isIn 3 (some .boolean) 0 129 129 [vR a0, vI a1, vI a2] G (fX12_isIn a0 a1 a2 G) := by
  refine ct_of (plainFor_of_name (by decide)) hi (Nat.le_refl _) (Nat.le_refl _) (Nat.le_of_ble_eq_true rfl) (fun cx F hd hn0 hnE hl hQ => ?_)
  subst hl
  have F : Fx cx x RX12 cX12_isIn 3 (some .boolean) := F
  show Y cx x 3 (some .boolean) 129 0 [(0, vR a0), (1, vI a1), (2, vI a2)] [] G _
  unfold fX12_isIn
  refine x_iload_n F dX12_isIn_0 rfl rfl rfl ?_
  refine x_iflt (pt := 25) F dX12_isIn_1 rfl rfl ?_ ?_
  · refine x_iconst F dX12_isIn_25 ⟨by decide, by decide⟩ rfl ?_
    exact x_zret F hnE hQ dX12_isIn_26
  · refine x_aload_n F dX12_isIn_4 rfl rfl rfl ?_
    refine x_getR F flX12_105 ha0 rfl dX12_isIn_5 rfl ?_
    refine x_iload_n F dX12_isIn_8 rfl rfl rfl ?_
    refine x_bipush F dX12_isIn_9 ⟨by decide, by decide⟩ (by decide) rfl ?_
    refine x_iload_n F dX12_isIn_11 rfl rfl rfl ?_
    refine x_imul F dX12_isIn_12 rfl ?_
    refine x_iadd F dX12_isIn_13 rfl ?_
    refine x_iconst F dX12_isIn_14 ⟨by decide, by decide⟩ rfl ?_
    refine x_iadd F dX12_isIn_15 rfl ?_
    refine s_iald F (tf12_17 ha0).1 (tf12_17 ha0).2 dX12_isIn_16 rfl (fun v1 => ?_)
    refine x_iconst F dX12_isIn_17 ⟨by decide, by decide⟩ rfl ?_
    refine x_icmpne (pt := 25) F dX12_isIn_18 rfl rfl ?_ ?_
    · refine x_iconst F dX12_isIn_21 ⟨by decide, by decide⟩ rfl ?_
      refine x_goto (pc' := 26) F dX12_isIn_22 rfl ?_
      exact x_zret F hnE hQ dX12_isIn_26
    · refine x_iconst F dX12_isIn_25 ⟨by decide, by decide⟩ rfl ?_
      exact x_zret F hnE hQ dX12_isIn_26
theorem dX12_manyOf_0 : decode cX12_manyOf 0 = .ok (.iconst 0, 1) := by decide +kernel
theorem dX12_manyOf_1 : decode cX12_manyOf 1 = .ok (.istore_n 1, 1) := by decide +kernel
theorem dX12_manyOf_2 : decode cX12_manyOf 2 = .ok (.iconst 0, 1) := by decide +kernel
theorem dX12_manyOf_3 : decode cX12_manyOf 3 = .ok (.istore_n 2, 1) := by decide +kernel
theorem dX12_manyOf_4 : decode cX12_manyOf 4 = .ok (.iload_n 2, 1) := by decide +kernel
theorem dX12_manyOf_5 : decode cX12_manyOf 5 = .ok (.bipush 10, 2) := by decide +kernel
theorem dX12_manyOf_7 : decode cX12_manyOf 7 = .ok (.if_icmp .ge 17, 3) := by decide +kernel
theorem dX12_manyOf_10 : decode cX12_manyOf 10 = .ok (.iload_n 1, 1) := by decide +kernel
theorem dX12_manyOf_11 : decode cX12_manyOf 11 = .ok (.iload_n 0, 1) := by decide +kernel
theorem dX12_manyOf_12 : decode cX12_manyOf 12 = .ok (.iload_n 2, 1) := by decide +kernel
theorem dX12_manyOf_13 : decode cX12_manyOf 13 = .ok (.ishr, 1) := by decide +kernel
theorem dX12_manyOf_14 : decode cX12_manyOf 14 = .ok (.iconst 1, 1) := by decide +kernel
theorem dX12_manyOf_15 : decode cX12_manyOf 15 = .ok (.iand, 1) := by decide +kernel
theorem dX12_manyOf_16 : decode cX12_manyOf 16 = .ok (.iadd, 1) := by decide +kernel
theorem dX12_manyOf_17 : decode cX12_manyOf 17 = .ok (.istore_n 1, 1) := by decide +kernel
theorem dX12_manyOf_18 : decode cX12_manyOf 18 = .ok (.iinc 2 1, 3) := by decide +kernel
theorem dX12_manyOf_21 : decode cX12_manyOf 21 = .ok (.goto (-17), 3) := by decide +kernel
theorem dX12_manyOf_24 : decode cX12_manyOf 24 = .ok (.iload_n 1, 1) := by decide +kernel
theorem dX12_manyOf_25 : decode cX12_manyOf 25 = .ok (.ireturn, 1) := by decide +kernel
def fX12_manyOf (a0 : Int) (G : Hp) : RT := bd 0 fun v1 => bd 0 fun v2 => (lp (fun (_ : Int) (_ : Int) => (none : RT)) 5000 (fun (rc5 : Int → Int → RT) (v3 : Int) (v4 : Int) => if v4 < 10 then (bd (iadd v3 (iand (ishr a0 v4) 1)) fun v6 => bd (iadd v4 1) fun v7 => rc5 v6 v7) else rt v3 G)) v1 v2
theorem pX12_manyOf {G : Hp} {a0 : Int} : PU G (fX12_manyOf a0 G) := by
  unfold fX12_manyOf
  refine PU_bd (fun v1 => ?_)
  refine PU_bd (fun v2 => ?_)
  refine x_lp (fun (rc5 : Int → Int → RT) => ∀ (v3 : Int) (v4 : Int), PU G (rc5 v3 v4)) (fun _ _ => PU_none) (fun rc5 phrc5 v3 v4 => ?_) 5000 v1 v2
  refine PU_ite ?_ ?_
  · refine PU_bd (fun v6 => ?_)
    refine PU_bd (fun v7 => ?_)
    exact phrc5 v6 v7
  · exact PU_rt
set_option maxRecDepth 20000 in
set_option maxHeartbeats 4000000 in
theorem tX12_manyOf (l : Launch) (x : WX) (hi : Inj x.2.2) (G : Hp) (a0 : Int)  : Ct l x yX12_manyOf cX12_manyOf 3 (some .int) 0 129 129 [vI a0] G (fX12_manyOf a0 G) := by
  refine ct_of (plainFor_of_name (by decide)) hi (Nat.le_refl _) (Nat.le_refl _) (Nat.le_of_ble_eq_true rfl) (fun cx F hd hn0 hnE hl hQ => ?_)
  subst hl
  have F : Fx cx x RX12 cX12_manyOf 3 (some .int) := F
  show Y cx x 3 (some .int) 129 0 [(0, vI a0)] [] G _
  unfold fX12_manyOf
  refine x_iconst F dX12_manyOf_0 ⟨by decide, by decide⟩ rfl ?_
  refine x_istore_n F dX12_manyOf_1 rfl (by decide) rfl rfl (fun v1 => ?_)
  show Y cx x _ _ _ _ [(0, vI a0), (1, vI v1)] _ _ _
  refine x_iconst F dX12_manyOf_2 ⟨by decide, by decide⟩ rfl ?_
  refine x_istore_n F dX12_manyOf_3 rfl (by decide) rfl rfl (fun v2 => ?_)
  show Y cx x _ _ _ _ [(0, vI a0), (1, vI v1), (2, vI v2)] _ _ _
  refine x_lp (fun (rc5 : Int → Int → RT) => ∀ (v3 : Int) (v4 : Int), Y cx x 3 (some .int) 129 4 [(0, vI a0), (1, vI v3), (2, vI v4)] [] G (rc5 v3 v4)) (fun _ _ => Y_none) (fun rc5 hrc5 v3 v4 => ?_) 5000 v1 v2
  refine x_iload_n F dX12_manyOf_4 rfl rfl rfl ?_
  refine x_bipush F dX12_manyOf_5 ⟨by decide, by decide⟩ (by decide) rfl ?_
  refine x_icmpge (pt := 24) F dX12_manyOf_7 rfl rfl ?_ ?_
  · refine x_iload_n F dX12_manyOf_10 rfl rfl rfl ?_
    refine x_iload_n F dX12_manyOf_11 rfl rfl rfl ?_
    refine x_iload_n F dX12_manyOf_12 rfl rfl rfl ?_
    refine x_ishr F dX12_manyOf_13 rfl ?_
    refine x_iconst F dX12_manyOf_14 ⟨by decide, by decide⟩ rfl ?_
    refine x_iand F dX12_manyOf_15 rfl ?_
    refine x_iadd F dX12_manyOf_16 rfl ?_
    refine x_istore_n F dX12_manyOf_17 rfl (by decide) rfl rfl (fun v6 => ?_)
    show Y cx x _ _ _ _ [(0, vI a0), (1, vI v6), (2, vI v4)] _ _ _
    refine x_iinc F dX12_manyOf_18 rfl (by decide) rfl rfl (fun v7 => ?_)
    show Y cx x _ _ _ _ [(0, vI a0), (1, vI v6), (2, vI v7)] _ _ _
    refine x_goto (pc' := 4) F dX12_manyOf_21 rfl ?_
    exact hrc5 v6 v7
  · refine x_iload_n F dX12_manyOf_24 rfl rfl rfl ?_
    exact x_iret F hnE hQ dX12_manyOf_25
theorem dX12_listedOf_0 : decode cX12_listedOf 0 = .ok (.aload_n 0, 1) := by decide +kernel
theorem dX12_listedOf_1 : decode cX12_listedOf 1 = .ok (.getfield 105, 3) := by decide +kernel
theorem dX12_listedOf_4 : decode cX12_listedOf 4 = .ok (.iload_n 1, 1) := by decide +kernel
theorem dX12_listedOf_5 : decode cX12_listedOf 5 = .ok (.bipush 15, 2) := by decide +kernel
theorem dX12_listedOf_7 : decode cX12_listedOf 7 = .ok (.iload_n 2, 1) := by decide +kernel
theorem dX12_listedOf_8 : decode cX12_listedOf 8 = .ok (.imul, 1) := by decide +kernel
theorem dX12_listedOf_9 : decode cX12_listedOf 9 = .ok (.iadd, 1) := by decide +kernel
theorem dX12_listedOf_10 : decode cX12_listedOf 10 = .ok (.iconst 2, 1) := by decide +kernel
theorem dX12_listedOf_11 : decode cX12_listedOf 11 = .ok (.iadd, 1) := by decide +kernel
theorem dX12_listedOf_12 : decode cX12_listedOf 12 = .ok (.iload_n 3, 1) := by decide +kernel
theorem dX12_listedOf_13 : decode cX12_listedOf 13 = .ok (.iadd, 1) := by decide +kernel
theorem dX12_listedOf_14 : decode cX12_listedOf 14 = .ok (.iaload, 1) := by decide +kernel
theorem dX12_listedOf_15 : decode cX12_listedOf 15 = .ok (.ireturn, 1) := by decide +kernel
def fX12_listedOf (a0 : Nat) (a1 : Int) (a2 : Int) (a3 : Int) (G : Hp) : RT := br (rd G ((rf a0 17)) 3565 (iadd (iadd (iadd a1 (imul 15 a2)) 2) a3)) fun v1 => rt v1 G
theorem pX12_listedOf {G : Hp} {a0 : Nat} {a1 : Int} {a2 : Int} {a3 : Int} : PU G (fX12_listedOf a0 a1 a2 a3 G) := by
  unfold fX12_listedOf
  refine PU_br (fun v1 => ?_)
  exact PU_rt
set_option maxRecDepth 20000 in
set_option maxHeartbeats 4000000 in
theorem tX12_listedOf (l : Launch) (x : WX) (hi : Inj x.2.2) (G : Hp) (a0 : Nat) (a1 : Int) (a2 : Int) (a3 : Int) (ha0 : kd a0 = 12) : Ct l x yX12_listedOf cX12_listedOf 4 (some .int) 0 129 129 [vR a0, vI a1, vI a2, vI a3] G (fX12_listedOf a0 a1 a2 a3 G) := by
  refine ct_of (plainFor_of_name (by decide)) hi (Nat.le_refl _) (Nat.le_refl _) (Nat.le_of_ble_eq_true rfl) (fun cx F hd hn0 hnE hl hQ => ?_)
  subst hl
  have F : Fx cx x RX12 cX12_listedOf 4 (some .int) := F
  show Y cx x 4 (some .int) 129 0 [(0, vR a0), (1, vI a1), (2, vI a2), (3, vI a3)] [] G _
  unfold fX12_listedOf
  refine x_aload_n F dX12_listedOf_0 rfl rfl rfl ?_
  refine x_getR F flX12_105 ha0 rfl dX12_listedOf_1 rfl ?_
  refine x_iload_n F dX12_listedOf_4 rfl rfl rfl ?_
  refine x_bipush F dX12_listedOf_5 ⟨by decide, by decide⟩ (by decide) rfl ?_
  refine x_iload_n F dX12_listedOf_7 rfl rfl rfl ?_
  refine x_imul F dX12_listedOf_8 rfl ?_
  refine x_iadd F dX12_listedOf_9 rfl ?_
  refine x_iconst F dX12_listedOf_10 ⟨by decide, by decide⟩ rfl ?_
  refine x_iadd F dX12_listedOf_11 rfl ?_
  refine x_iload_n F dX12_listedOf_12 rfl rfl rfl ?_
  refine x_iadd F dX12_listedOf_13 rfl ?_
  refine s_iald F (tf12_17 ha0).1 (tf12_17 ha0).2 dX12_listedOf_14 rfl (fun v1 => ?_)
  exact x_iret F hnE hQ dX12_listedOf_15
theorem dX12_longOf_0 : decode cX12_longOf 0 = .ok (.aload_n 0, 1) := by decide +kernel
theorem dX12_longOf_1 : decode cX12_longOf 1 = .ok (.getfield 105, 3) := by decide +kernel
theorem dX12_longOf_4 : decode cX12_longOf 4 = .ok (.iload_n 1, 1) := by decide +kernel
theorem dX12_longOf_5 : decode cX12_longOf 5 = .ok (.bipush 15, 2) := by decide +kernel
theorem dX12_longOf_7 : decode cX12_longOf 7 = .ok (.iload_n 2, 1) := by decide +kernel
theorem dX12_longOf_8 : decode cX12_longOf 8 = .ok (.imul, 1) := by decide +kernel
theorem dX12_longOf_9 : decode cX12_longOf 9 = .ok (.iadd, 1) := by decide +kernel
theorem dX12_longOf_10 : decode cX12_longOf 10 = .ok (.iconst 1, 1) := by decide +kernel
theorem dX12_longOf_11 : decode cX12_longOf 11 = .ok (.iadd, 1) := by decide +kernel
theorem dX12_longOf_12 : decode cX12_longOf 12 = .ok (.iaload, 1) := by decide +kernel
theorem dX12_longOf_13 : decode cX12_longOf 13 = .ok (.ireturn, 1) := by decide +kernel
def fX12_longOf (a0 : Nat) (a1 : Int) (a2 : Int) (G : Hp) : RT := br (rd G ((rf a0 17)) 3565 (iadd (iadd a1 (imul 15 a2)) 1)) fun v1 => rt v1 G
theorem pX12_longOf {G : Hp} {a0 : Nat} {a1 : Int} {a2 : Int} : PU G (fX12_longOf a0 a1 a2 G) := by
  unfold fX12_longOf
  refine PU_br (fun v1 => ?_)
  exact PU_rt
set_option maxRecDepth 20000 in
set_option maxHeartbeats 4000000 in
theorem tX12_longOf (l : Launch) (x : WX) (hi : Inj x.2.2) (G : Hp) (a0 : Nat) (a1 : Int) (a2 : Int) (ha0 : kd a0 = 12) : Ct l x yX12_longOf cX12_longOf 3 (some .int) 0 129 129 [vR a0, vI a1, vI a2] G (fX12_longOf a0 a1 a2 G) := by
  refine ct_of (plainFor_of_name (by decide)) hi (Nat.le_refl _) (Nat.le_refl _) (Nat.le_of_ble_eq_true rfl) (fun cx F hd hn0 hnE hl hQ => ?_)
  subst hl
  have F : Fx cx x RX12 cX12_longOf 3 (some .int) := F
  show Y cx x 3 (some .int) 129 0 [(0, vR a0), (1, vI a1), (2, vI a2)] [] G _
  unfold fX12_longOf
  refine x_aload_n F dX12_longOf_0 rfl rfl rfl ?_
  refine x_getR F flX12_105 ha0 rfl dX12_longOf_1 rfl ?_
  refine x_iload_n F dX12_longOf_4 rfl rfl rfl ?_
  refine x_bipush F dX12_longOf_5 ⟨by decide, by decide⟩ (by decide) rfl ?_
  refine x_iload_n F dX12_longOf_7 rfl rfl rfl ?_
  refine x_imul F dX12_longOf_8 rfl ?_
  refine x_iadd F dX12_longOf_9 rfl ?_
  refine x_iconst F dX12_longOf_10 ⟨by decide, by decide⟩ rfl ?_
  refine x_iadd F dX12_longOf_11 rfl ?_
  refine s_iald F (tf12_17 ha0).1 (tf12_17 ha0).2 dX12_longOf_12 rfl (fun v1 => ?_)
  exact x_iret F hnE hQ dX12_longOf_13
theorem dX12_fingerOf_0 : decode cX12_fingerOf 0 = .ok (.aload_n 0, 1) := by decide +kernel
theorem dX12_fingerOf_1 : decode cX12_fingerOf 1 = .ok (.getfield 105, 3) := by decide +kernel
theorem dX12_fingerOf_4 : decode cX12_fingerOf 4 = .ok (.iload_n 1, 1) := by decide +kernel
theorem dX12_fingerOf_5 : decode cX12_fingerOf 5 = .ok (.bipush 15, 2) := by decide +kernel
theorem dX12_fingerOf_7 : decode cX12_fingerOf 7 = .ok (.iload_n 2, 1) := by decide +kernel
theorem dX12_fingerOf_8 : decode cX12_fingerOf 8 = .ok (.imul, 1) := by decide +kernel
theorem dX12_fingerOf_9 : decode cX12_fingerOf 9 = .ok (.iadd, 1) := by decide +kernel
theorem dX12_fingerOf_10 : decode cX12_fingerOf 10 = .ok (.bipush 7, 2) := by decide +kernel
theorem dX12_fingerOf_12 : decode cX12_fingerOf 12 = .ok (.iadd, 1) := by decide +kernel
theorem dX12_fingerOf_13 : decode cX12_fingerOf 13 = .ok (.iload_n 3, 1) := by decide +kernel
theorem dX12_fingerOf_14 : decode cX12_fingerOf 14 = .ok (.iadd, 1) := by decide +kernel
theorem dX12_fingerOf_15 : decode cX12_fingerOf 15 = .ok (.iaload, 1) := by decide +kernel
theorem dX12_fingerOf_16 : decode cX12_fingerOf 16 = .ok (.ireturn, 1) := by decide +kernel
def fX12_fingerOf (a0 : Nat) (a1 : Int) (a2 : Int) (a3 : Int) (G : Hp) : RT := br (rd G ((rf a0 17)) 3565 (iadd (iadd (iadd a1 (imul 15 a2)) 7) a3)) fun v1 => rt v1 G
theorem pX12_fingerOf {G : Hp} {a0 : Nat} {a1 : Int} {a2 : Int} {a3 : Int} : PU G (fX12_fingerOf a0 a1 a2 a3 G) := by
  unfold fX12_fingerOf
  refine PU_br (fun v1 => ?_)
  exact PU_rt
set_option maxRecDepth 20000 in
set_option maxHeartbeats 4000000 in
theorem tX12_fingerOf (l : Launch) (x : WX) (hi : Inj x.2.2) (G : Hp) (a0 : Nat) (a1 : Int) (a2 : Int) (a3 : Int) (ha0 : kd a0 = 12) : Ct l x yX12_fingerOf cX12_fingerOf 4 (some .int) 0 129 129 [vR a0, vI a1, vI a2, vI a3] G (fX12_fingerOf a0 a1 a2 a3 G) := by
  refine ct_of (plainFor_of_name (by decide)) hi (Nat.le_refl _) (Nat.le_refl _) (Nat.le_of_ble_eq_true rfl) (fun cx F hd hn0 hnE hl hQ => ?_)
  subst hl
  have F : Fx cx x RX12 cX12_fingerOf 4 (some .int) := F
  show Y cx x 4 (some .int) 129 0 [(0, vR a0), (1, vI a1), (2, vI a2), (3, vI a3)] [] G _
  unfold fX12_fingerOf
  refine x_aload_n F dX12_fingerOf_0 rfl rfl rfl ?_
  refine x_getR F flX12_105 ha0 rfl dX12_fingerOf_1 rfl ?_
  refine x_iload_n F dX12_fingerOf_4 rfl rfl rfl ?_
  refine x_bipush F dX12_fingerOf_5 ⟨by decide, by decide⟩ (by decide) rfl ?_
  refine x_iload_n F dX12_fingerOf_7 rfl rfl rfl ?_
  refine x_imul F dX12_fingerOf_8 rfl ?_
  refine x_iadd F dX12_fingerOf_9 rfl ?_
  refine x_bipush F dX12_fingerOf_10 ⟨by decide, by decide⟩ (by decide) rfl ?_
  refine x_iadd F dX12_fingerOf_12 rfl ?_
  refine x_iload_n F dX12_fingerOf_13 rfl rfl rfl ?_
  refine x_iadd F dX12_fingerOf_14 rfl ?_
  refine s_iald F (tf12_17 ha0).1 (tf12_17 ha0).2 dX12_fingerOf_15 rfl (fun v1 => ?_)
  exact x_iret F hnE hQ dX12_fingerOf_16
theorem dX12_aheadOf_0 : decode cX12_aheadOf 0 = .ok (.aload_n 0, 1) := by decide +kernel
theorem dX12_aheadOf_1 : decode cX12_aheadOf 1 = .ok (.getfield 105, 3) := by decide +kernel
theorem dX12_aheadOf_4 : decode cX12_aheadOf 4 = .ok (.iload_n 1, 1) := by decide +kernel
theorem dX12_aheadOf_5 : decode cX12_aheadOf 5 = .ok (.bipush 15, 2) := by decide +kernel
theorem dX12_aheadOf_7 : decode cX12_aheadOf 7 = .ok (.iload_n 2, 1) := by decide +kernel
theorem dX12_aheadOf_8 : decode cX12_aheadOf 8 = .ok (.imul, 1) := by decide +kernel
theorem dX12_aheadOf_9 : decode cX12_aheadOf 9 = .ok (.iadd, 1) := by decide +kernel
theorem dX12_aheadOf_10 : decode cX12_aheadOf 10 = .ok (.bipush 6, 2) := by decide +kernel
theorem dX12_aheadOf_12 : decode cX12_aheadOf 12 = .ok (.iadd, 1) := by decide +kernel
theorem dX12_aheadOf_13 : decode cX12_aheadOf 13 = .ok (.iaload, 1) := by decide +kernel
theorem dX12_aheadOf_14 : decode cX12_aheadOf 14 = .ok (.ireturn, 1) := by decide +kernel
def fX12_aheadOf (a0 : Nat) (a1 : Int) (a2 : Int) (G : Hp) : RT := br (rd G ((rf a0 17)) 3565 (iadd (iadd a1 (imul 15 a2)) 6)) fun v1 => rt v1 G
theorem pX12_aheadOf {G : Hp} {a0 : Nat} {a1 : Int} {a2 : Int} : PU G (fX12_aheadOf a0 a1 a2 G) := by
  unfold fX12_aheadOf
  refine PU_br (fun v1 => ?_)
  exact PU_rt
set_option maxRecDepth 20000 in
set_option maxHeartbeats 4000000 in
theorem tX12_aheadOf (l : Launch) (x : WX) (hi : Inj x.2.2) (G : Hp) (a0 : Nat) (a1 : Int) (a2 : Int) (ha0 : kd a0 = 12) : Ct l x yX12_aheadOf cX12_aheadOf 3 (some .int) 0 129 129 [vR a0, vI a1, vI a2] G (fX12_aheadOf a0 a1 a2 G) := by
  refine ct_of (plainFor_of_name (by decide)) hi (Nat.le_refl _) (Nat.le_refl _) (Nat.le_of_ble_eq_true rfl) (fun cx F hd hn0 hnE hl hQ => ?_)
  subst hl
  have F : Fx cx x RX12 cX12_aheadOf 3 (some .int) := F
  show Y cx x 3 (some .int) 129 0 [(0, vR a0), (1, vI a1), (2, vI a2)] [] G _
  unfold fX12_aheadOf
  refine x_aload_n F dX12_aheadOf_0 rfl rfl rfl ?_
  refine x_getR F flX12_105 ha0 rfl dX12_aheadOf_1 rfl ?_
  refine x_iload_n F dX12_aheadOf_4 rfl rfl rfl ?_
  refine x_bipush F dX12_aheadOf_5 ⟨by decide, by decide⟩ (by decide) rfl ?_
  refine x_iload_n F dX12_aheadOf_7 rfl rfl rfl ?_
  refine x_imul F dX12_aheadOf_8 rfl ?_
  refine x_iadd F dX12_aheadOf_9 rfl ?_
  refine x_bipush F dX12_aheadOf_10 ⟨by decide, by decide⟩ (by decide) rfl ?_
  refine x_iadd F dX12_aheadOf_12 rfl ?_
  refine s_iald F (tf12_17 ha0).1 (tf12_17 ha0).2 dX12_aheadOf_13 rfl (fun v1 => ?_)
  exact x_iret F hnE hQ dX12_aheadOf_14
theorem dX12_holderOf_0 : decode cX12_holderOf 0 = .ok (.aload_n 0, 1) := by decide +kernel
theorem dX12_holderOf_1 : decode cX12_holderOf 1 = .ok (.getfield 105, 3) := by decide +kernel
theorem dX12_holderOf_4 : decode cX12_holderOf 4 = .ok (.iload_n 1, 1) := by decide +kernel
theorem dX12_holderOf_5 : decode cX12_holderOf 5 = .ok (.bipush 120, 2) := by decide +kernel
theorem dX12_holderOf_7 : decode cX12_holderOf 7 = .ok (.iadd, 1) := by decide +kernel
theorem dX12_holderOf_8 : decode cX12_holderOf 8 = .ok (.iload_n 2, 1) := by decide +kernel
theorem dX12_holderOf_9 : decode cX12_holderOf 9 = .ok (.iadd, 1) := by decide +kernel
theorem dX12_holderOf_10 : decode cX12_holderOf 10 = .ok (.iaload, 1) := by decide +kernel
theorem dX12_holderOf_11 : decode cX12_holderOf 11 = .ok (.ireturn, 1) := by decide +kernel
def fX12_holderOf (a0 : Nat) (a1 : Int) (a2 : Int) (G : Hp) : RT := br (rd G ((rf a0 17)) 3565 (iadd (iadd a1 120) a2)) fun v1 => rt v1 G
theorem pX12_holderOf {G : Hp} {a0 : Nat} {a1 : Int} {a2 : Int} : PU G (fX12_holderOf a0 a1 a2 G) := by
  unfold fX12_holderOf
  refine PU_br (fun v1 => ?_)
  exact PU_rt
set_option maxRecDepth 20000 in
set_option maxHeartbeats 4000000 in
theorem tX12_holderOf (l : Launch) (x : WX) (hi : Inj x.2.2) (G : Hp) (a0 : Nat) (a1 : Int) (a2 : Int) (ha0 : kd a0 = 12) : Ct l x yX12_holderOf cX12_holderOf 3 (some .int) 0 129 129 [vR a0, vI a1, vI a2] G (fX12_holderOf a0 a1 a2 G) := by
  refine ct_of (plainFor_of_name (by decide)) hi (Nat.le_refl _) (Nat.le_refl _) (Nat.le_of_ble_eq_true rfl) (fun cx F hd hn0 hnE hl hQ => ?_)
  subst hl
  have F : Fx cx x RX12 cX12_holderOf 3 (some .int) := F
  show Y cx x 3 (some .int) 129 0 [(0, vR a0), (1, vI a1), (2, vI a2)] [] G _
  unfold fX12_holderOf
  refine x_aload_n F dX12_holderOf_0 rfl rfl rfl ?_
  refine x_getR F flX12_105 ha0 rfl dX12_holderOf_1 rfl ?_
  refine x_iload_n F dX12_holderOf_4 rfl rfl rfl ?_
  refine x_bipush F dX12_holderOf_5 ⟨by decide, by decide⟩ (by decide) rfl ?_
  refine x_iadd F dX12_holderOf_7 rfl ?_
  refine x_iload_n F dX12_holderOf_8 rfl rfl rfl ?_
  refine x_iadd F dX12_holderOf_9 rfl ?_
  refine s_iald F (tf12_17 ha0).1 (tf12_17 ha0).2 dX12_holderOf_10 rfl (fun v1 => ?_)
  exact x_iret F hnE hQ dX12_holderOf_11
theorem dX12_listIs_0 : decode cX12_listIs 0 = .ok (.aload_n 0, 1) := by decide +kernel
theorem dX12_listIs_1 : decode cX12_listIs 1 = .ok (.getfield 105, 3) := by decide +kernel
theorem dX12_listIs_4 : decode cX12_listIs 4 = .ok (.iload_n 1, 1) := by decide +kernel
theorem dX12_listIs_5 : decode cX12_listIs 5 = .ok (.bipush 15, 2) := by decide +kernel
theorem dX12_listIs_7 : decode cX12_listIs 7 = .ok (.iload_n 2, 1) := by decide +kernel
theorem dX12_listIs_8 : decode cX12_listIs 8 = .ok (.imul, 1) := by decide +kernel
theorem dX12_listIs_9 : decode cX12_listIs 9 = .ok (.iadd, 1) := by decide +kernel
theorem dX12_listIs_10 : decode cX12_listIs 10 = .ok (.iconst 1, 1) := by decide +kernel
theorem dX12_listIs_11 : decode cX12_listIs 11 = .ok (.iadd, 1) := by decide +kernel
theorem dX12_listIs_12 : decode cX12_listIs 12 = .ok (.iload_n 3, 1) := by decide +kernel
theorem dX12_listIs_13 : decode cX12_listIs 13 = .ok (.iastore, 1) := by decide +kernel
theorem dX12_listIs_14 : decode cX12_listIs 14 = .ok (.iconst 0, 1) := by decide +kernel
theorem dX12_listIs_15 : decode cX12_listIs 15 = .ok (.istore 4, 2) := by decide +kernel
theorem dX12_listIs_17 : decode cX12_listIs 17 = .ok (.iload 4, 2) := by decide +kernel
theorem dX12_listIs_19 : decode cX12_listIs 19 = .ok (.iconst 4, 1) := by decide +kernel
theorem dX12_listIs_20 : decode cX12_listIs 20 = .ok (.if_icmp .ge 42, 3) := by decide +kernel
theorem dX12_listIs_23 : decode cX12_listIs 23 = .ok (.aload_n 0, 1) := by decide +kernel
theorem dX12_listIs_24 : decode cX12_listIs 24 = .ok (.getfield 105, 3) := by decide +kernel
theorem dX12_listIs_27 : decode cX12_listIs 27 = .ok (.iload_n 1, 1) := by decide +kernel
theorem dX12_listIs_28 : decode cX12_listIs 28 = .ok (.bipush 15, 2) := by decide +kernel
theorem dX12_listIs_30 : decode cX12_listIs 30 = .ok (.iload_n 2, 1) := by decide +kernel
theorem dX12_listIs_31 : decode cX12_listIs 31 = .ok (.imul, 1) := by decide +kernel
theorem dX12_listIs_32 : decode cX12_listIs 32 = .ok (.iadd, 1) := by decide +kernel
theorem dX12_listIs_33 : decode cX12_listIs 33 = .ok (.iconst 2, 1) := by decide +kernel
theorem dX12_listIs_34 : decode cX12_listIs 34 = .ok (.iadd, 1) := by decide +kernel
theorem dX12_listIs_35 : decode cX12_listIs 35 = .ok (.iload 4, 2) := by decide +kernel
theorem dX12_listIs_37 : decode cX12_listIs 37 = .ok (.iadd, 1) := by decide +kernel
theorem dX12_listIs_38 : decode cX12_listIs 38 = .ok (.iload 4, 2) := by decide +kernel
theorem dX12_listIs_40 : decode cX12_listIs 40 = .ok (.iload_n 3, 1) := by decide +kernel
theorem dX12_listIs_41 : decode cX12_listIs 41 = .ok (.if_icmp .ge 13, 3) := by decide +kernel
theorem dX12_listIs_44 : decode cX12_listIs 44 = .ok (.aload_n 0, 1) := by decide +kernel
theorem dX12_listIs_45 : decode cX12_listIs 45 = .ok (.getfield 118, 3) := by decide +kernel
theorem dX12_listIs_48 : decode cX12_listIs 48 = .ok (.iload 4, 2) := by decide +kernel
theorem dX12_listIs_50 : decode cX12_listIs 50 = .ok (.iaload, 1) := by decide +kernel
theorem dX12_listIs_51 : decode cX12_listIs 51 = .ok (.goto 4, 3) := by decide +kernel
theorem dX12_listIs_54 : decode cX12_listIs 54 = .ok (.iconst (-1), 1) := by decide +kernel
theorem dX12_listIs_55 : decode cX12_listIs 55 = .ok (.iastore, 1) := by decide +kernel
theorem dX12_listIs_56 : decode cX12_listIs 56 = .ok (.iinc 4 1, 3) := by decide +kernel
theorem dX12_listIs_59 : decode cX12_listIs 59 = .ok (.goto (-42), 3) := by decide +kernel
theorem dX12_listIs_62 : decode cX12_listIs 62 = .ok (.return_, 1) := by decide +kernel
def fX12_listIs (a0 : Nat) (a1 : Int) (a2 : Int) (a3 : Int) (G : Hp) : RT := bs (wr G ((rf a0 17)) 3565 (iadd (iadd a1 (imul 15 a2)) 1) a3) fun G1 => bd 0 fun v2 => (lp (fun (_ : Int) (_ : Hp) => (none : RT)) 5000 (fun (rc5 : Int → Hp → RT) (v3 : Int) (G4 : Hp) => if v3 < 4 then (jn (fun (v6 : Int) => bs (wr G4 ((rf a0 17)) 3565 (iadd (iadd (iadd a1 (imul 15 a2)) 2) v3) v6) fun G8 => bd (iadd v3 1) fun v9 => rc5 v9 G8) fun (K7 : Int → RT) => if v3 < a3 then (br (rd G4 ((rf a0 23)) 4 v3) fun v10 => K7 v10) else (K7 ((-1)))) else rt 0 G4)) v2 G1
set_option maxRecDepth 20000 in
set_option maxHeartbeats 4000000 in
theorem tX12_listIs (l : Launch) (x : WX) (hi : Inj x.2.2) (G : Hp) (a0 : Nat) (a1 : Int) (a2 : Int) (a3 : Int) (ha0 : kd a0 = 12) : Ct l x yX12_listIs cX12_listIs 5 none 0 129 129 [vR a0, vI a1, vI a2, vI a3] G (fX12_listIs a0 a1 a2 a3 G) := by
  refine ct_of (plainFor_of_name (by decide)) hi (Nat.le_refl _) (Nat.le_refl _) (Nat.le_of_ble_eq_true rfl) (fun cx F hd hn0 hnE hl hQ => ?_)
  subst hl
  have F : Fx cx x RX12 cX12_listIs 5 none := F
  show Y cx x 5 none 129 0 [(0, vR a0), (1, vI a1), (2, vI a2), (3, vI a3)] [] G _
  unfold fX12_listIs
  refine x_aload_n F dX12_listIs_0 rfl rfl rfl ?_
  refine x_getR F flX12_105 ha0 rfl dX12_listIs_1 rfl ?_
  refine x_iload_n F dX12_listIs_4 rfl rfl rfl ?_
  refine x_bipush F dX12_listIs_5 ⟨by decide, by decide⟩ (by decide) rfl ?_
  refine x_iload_n F dX12_listIs_7 rfl rfl rfl ?_
  refine x_imul F dX12_listIs_8 rfl ?_
  refine x_iadd F dX12_listIs_9 rfl ?_
  refine x_iconst F dX12_listIs_10 ⟨by decide, by decide⟩ rfl ?_
  refine x_iadd F dX12_listIs_11 rfl ?_
  refine x_iload_n F dX12_listIs_12 rfl rfl rfl ?_
  refine s_iast F (tf12_17 ha0).1 (tf12_17 ha0).2 dX12_listIs_13 rfl (fun G1 => ?_)
  refine x_iconst F dX12_listIs_14 ⟨by decide, by decide⟩ rfl ?_
  refine x_istore F dX12_listIs_15 (by decide) rfl rfl (fun v2 => ?_)
  show Y cx x _ _ _ _ [(0, vR a0), (1, vI a1), (2, vI a2), (3, vI a3), (4, vI v2)] _ _ _
  refine x_lp (fun (rc5 : Int → Hp → RT) => ∀ (v3 : Int) (G4 : Hp), Y cx x 5 none 129 17 [(0, vR a0), (1, vI a1), (2, vI a2), (3, vI a3), (4, vI v3)] [] G4 (rc5 v3 G4)) (fun _ _ => Y_none) (fun rc5 hrc5 v3 G4 => ?_) 5000 v2 G1
  refine x_iload F dX12_listIs_17 rfl rfl ?_
  refine x_iconst F dX12_listIs_19 ⟨by decide, by decide⟩ rfl ?_
  refine x_icmpge (pt := 62) F dX12_listIs_20 rfl rfl ?_ ?_
  · refine x_aload_n F dX12_listIs_23 rfl rfl rfl ?_
    refine x_getR F flX12_105 ha0 rfl dX12_listIs_24 rfl ?_
    refine x_iload_n F dX12_listIs_27 rfl rfl rfl ?_
    refine x_bipush F dX12_listIs_28 ⟨by decide, by decide⟩ (by decide) rfl ?_
    refine x_iload_n F dX12_listIs_30 rfl rfl rfl ?_
    refine x_imul F dX12_listIs_31 rfl ?_
    refine x_iadd F dX12_listIs_32 rfl ?_
    refine x_iconst F dX12_listIs_33 ⟨by decide, by decide⟩ rfl ?_
    refine x_iadd F dX12_listIs_34 rfl ?_
    refine x_iload F dX12_listIs_35 rfl rfl ?_
    refine x_iadd F dX12_listIs_37 rfl ?_
    refine x_iload F dX12_listIs_38 rfl rfl ?_
    refine x_iload_n F dX12_listIs_40 rfl rfl rfl ?_
    refine x_jn (fun (K7 : Int → RT) => ∀ (v6 : Int), Y cx x 5 none 129 55 [(0, vR a0), (1, vI a1), (2, vI a2), (3, vI a3), (4, vI v3)] [vI v6, vI (iadd (iadd (iadd a1 (imul 15 a2)) 2) v3), vR ((rf a0 17))] G4 (K7 v6)) ?_ (fun K7 hK7 => ?_)
    · intro v6
      refine s_iast F (tf12_17 ha0).1 (tf12_17 ha0).2 dX12_listIs_55 rfl (fun G8 => ?_)
      refine x_iinc F dX12_listIs_56 rfl (by decide) rfl rfl (fun v9 => ?_)
      show Y cx x _ _ _ _ [(0, vR a0), (1, vI a1), (2, vI a2), (3, vI a3), (4, vI v9)] _ _ _
      refine x_goto (pc' := 17) F dX12_listIs_59 rfl ?_
      exact hrc5 v9 G8
    · refine x_icmpge (pt := 54) F dX12_listIs_41 rfl rfl ?_ ?_
      · refine x_aload_n F dX12_listIs_44 rfl rfl rfl ?_
        refine x_getR F flX12_118 ha0 rfl dX12_listIs_45 rfl ?_
        refine x_iload F dX12_listIs_48 rfl rfl ?_
        refine s_iald F (tf12_23 ha0).1 (tf12_23 ha0).2 dX12_listIs_50 rfl (fun v10 => ?_)
        refine x_goto (pc' := 55) F dX12_listIs_51 rfl ?_
        exact hK7 v10
      · refine x_iconst F dX12_listIs_54 ⟨by decide, by decide⟩ rfl ?_
        exact hK7 ((-1))
  · exact x_vret F hnE hQ dX12_listIs_62
theorem dX12_areAlike_0 : decode cX12_areAlike 0 = .ok (.iconst 1, 1) := by decide +kernel
theorem dX12_areAlike_1 : decode cX12_areAlike 1 = .ok (.istore_n 3, 1) := by decide +kernel
theorem dX12_areAlike_2 : decode cX12_areAlike 2 = .ok (.iconst 0, 1) := by decide +kernel
theorem dX12_areAlike_3 : decode cX12_areAlike 3 = .ok (.istore 4, 2) := by decide +kernel
theorem dX12_areAlike_5 : decode cX12_areAlike 5 = .ok (.iload 4, 2) := by decide +kernel
theorem dX12_areAlike_7 : decode cX12_areAlike 7 = .ok (.sipush 130, 3) := by decide +kernel
theorem dX12_areAlike_10 : decode cX12_areAlike 10 = .ok (.if_icmp .ge 40, 3) := by decide +kernel
theorem dX12_areAlike_13 : decode cX12_areAlike 13 = .ok (.iload_n 3, 1) := by decide +kernel
theorem dX12_areAlike_14 : decode cX12_areAlike 14 = .ok (.ifCond .eq 28, 3) := by decide +kernel
theorem dX12_areAlike_17 : decode cX12_areAlike 17 = .ok (.aload_n 0, 1) := by decide +kernel
theorem dX12_areAlike_18 : decode cX12_areAlike 18 = .ok (.getfield 105, 3) := by decide +kernel
theorem dX12_areAlike_21 : decode cX12_areAlike 21 = .ok (.iload_n 1, 1) := by decide +kernel
theorem dX12_areAlike_22 : decode cX12_areAlike 22 = .ok (.iload 4, 2) := by decide +kernel
theorem dX12_areAlike_24 : decode cX12_areAlike 24 = .ok (.iadd, 1) := by decide +kernel
theorem dX12_areAlike_25 : decode cX12_areAlike 25 = .ok (.iaload, 1) := by decide +kernel
theorem dX12_areAlike_26 : decode cX12_areAlike 26 = .ok (.aload_n 0, 1) := by decide +kernel
theorem dX12_areAlike_27 : decode cX12_areAlike 27 = .ok (.getfield 105, 3) := by decide +kernel
theorem dX12_areAlike_30 : decode cX12_areAlike 30 = .ok (.iload_n 2, 1) := by decide +kernel
theorem dX12_areAlike_31 : decode cX12_areAlike 31 = .ok (.iload 4, 2) := by decide +kernel
theorem dX12_areAlike_33 : decode cX12_areAlike 33 = .ok (.iadd, 1) := by decide +kernel
theorem dX12_areAlike_34 : decode cX12_areAlike 34 = .ok (.iaload, 1) := by decide +kernel
theorem dX12_areAlike_35 : decode cX12_areAlike 35 = .ok (.if_icmp .ne 7, 3) := by decide +kernel
theorem dX12_areAlike_38 : decode cX12_areAlike 38 = .ok (.iconst 1, 1) := by decide +kernel
theorem dX12_areAlike_39 : decode cX12_areAlike 39 = .ok (.goto 4, 3) := by decide +kernel
theorem dX12_areAlike_42 : decode cX12_areAlike 42 = .ok (.iconst 0, 1) := by decide +kernel
theorem dX12_areAlike_43 : decode cX12_areAlike 43 = .ok (.istore_n 3, 1) := by decide +kernel
theorem dX12_areAlike_44 : decode cX12_areAlike 44 = .ok (.iinc 4 1, 3) := by decide +kernel
theorem dX12_areAlike_47 : decode cX12_areAlike 47 = .ok (.goto (-42), 3) := by decide +kernel
theorem dX12_areAlike_50 : decode cX12_areAlike 50 = .ok (.iload_n 3, 1) := by decide +kernel
theorem dX12_areAlike_51 : decode cX12_areAlike 51 = .ok (.ireturn, 1) := by decide +kernel
def fX12_areAlike (a0 : Nat) (a1 : Int) (a2 : Int) (G : Hp) : RT := bd 1 fun v1 => bd 0 fun v2 => (lp (fun (_ : Int) (_ : Int) => (none : RT)) 5000 (fun (rc5 : Int → Int → RT) (v3 : Int) (v4 : Int) => if v4 < 130 then (jn (fun (v6 : Int) => bd v6 fun v8 => bd (iadd v4 1) fun v9 => rc5 v8 v9) fun (K7 : Int → RT) => jn (K7 0) fun (K10 : RT) => if v3 = 0 then K10 else (br (rd G ((rf a0 17)) 3565 (iadd a1 v4)) fun v11 => br (rd G ((rf a0 17)) 3565 (iadd a2 v4)) fun v12 => if v11 = v12 then K7 1 else K10)) else rz v3 G)) v1 v2
theorem pX12_areAlike {G : Hp} {a0 : Nat} {a1 : Int} {a2 : Int} : PU G (fX12_areAlike a0 a1 a2 G) := by
  unfold fX12_areAlike
  refine PU_bd (fun v1 => ?_)
  refine PU_bd (fun v2 => ?_)
  refine x_lp (fun (rc5 : Int → Int → RT) => ∀ (v3 : Int) (v4 : Int), PU G (rc5 v3 v4)) (fun _ _ => PU_none) (fun rc5 phrc5 v3 v4 => ?_) 5000 v1 v2
  refine PU_ite ?_ ?_
  · refine PU_jn (fun (K7 : Int → RT) => ∀ (v6 : Int), PU G (K7 v6)) ?_ (fun K7 phK7 => ?_)
    · intro v6
      refine PU_bd (fun v8 => ?_)
      refine PU_bd (fun v9 => ?_)
      exact phrc5 v8 v9
    · refine PU_jn (fun (K10 : RT) => PU G (K10)) ?_ (fun K10 phK10 => ?_)
      · exact phK7 0
      · refine PU_ite ?_ ?_
        · exact phK10
        · refine PU_br (fun v11 => ?_)
          refine PU_br (fun v12 => ?_)
          refine PU_ite ?_ ?_
          · exact phK7 1
          · exact phK10
  · exact PU_rz
set_option maxRecDepth 20000 in
set_option maxHeartbeats 4000000 in
theorem tX12_areAlike (l : Launch) (x : WX) (hi : Inj x.2.2) (G : Hp) (a0 : Nat) (a1 : Int) (a2 : Int) (ha0 : kd a0 = 12) : Ct l x yX12_areAlike cX12_areAlike 5 (some .boolean) 0 129 129 [vR a0, vI a1, vI a2] G (fX12_areAlike a0 a1 a2 G) := by
  refine ct_of (plainFor_of_name (by decide)) hi (Nat.le_refl _) (Nat.le_refl _) (Nat.le_of_ble_eq_true rfl) (fun cx F hd hn0 hnE hl hQ => ?_)
  subst hl
  have F : Fx cx x RX12 cX12_areAlike 5 (some .boolean) := F
  show Y cx x 5 (some .boolean) 129 0 [(0, vR a0), (1, vI a1), (2, vI a2)] [] G _
  unfold fX12_areAlike
  refine x_iconst F dX12_areAlike_0 ⟨by decide, by decide⟩ rfl ?_
  refine x_istore_n F dX12_areAlike_1 rfl (by decide) rfl rfl (fun v1 => ?_)
  show Y cx x _ _ _ _ [(0, vR a0), (1, vI a1), (2, vI a2), (3, vI v1)] _ _ _
  refine x_iconst F dX12_areAlike_2 ⟨by decide, by decide⟩ rfl ?_
  refine x_istore F dX12_areAlike_3 (by decide) rfl rfl (fun v2 => ?_)
  show Y cx x _ _ _ _ [(0, vR a0), (1, vI a1), (2, vI a2), (3, vI v1), (4, vI v2)] _ _ _
  refine x_lp (fun (rc5 : Int → Int → RT) => ∀ (v3 : Int) (v4 : Int), Y cx x 5 (some .boolean) 129 5 [(0, vR a0), (1, vI a1), (2, vI a2), (3, vI v3), (4, vI v4)] [] G (rc5 v3 v4)) (fun _ _ => Y_none) (fun rc5 hrc5 v3 v4 => ?_) 5000 v1 v2
  refine x_iload F dX12_areAlike_5 rfl rfl ?_
  refine x_sipush F dX12_areAlike_7 ⟨by decide, by decide⟩ (by decide) rfl ?_
  refine x_icmpge (pt := 50) F dX12_areAlike_10 rfl rfl ?_ ?_
  · refine x_iload_n F dX12_areAlike_13 rfl rfl rfl ?_
    refine x_jn (fun (K7 : Int → RT) => ∀ (v6 : Int), Y cx x 5 (some .boolean) 129 43 [(0, vR a0), (1, vI a1), (2, vI a2), (4, vI v4)] [vI v6] G (K7 v6)) ?_ (fun K7 hK7 => ?_)
    · intro v6
      refine x_istore_n F dX12_areAlike_43 rfl (by decide) rfl rfl (fun v8 => ?_)
      show Y cx x _ _ _ _ [(0, vR a0), (1, vI a1), (2, vI a2), (4, vI v4), (3, vI v8)] _ _ _
      refine x_iinc F dX12_areAlike_44 rfl (by decide) rfl rfl (fun v9 => ?_)
      show Y cx x _ _ _ _ [(0, vR a0), (1, vI a1), (2, vI a2), (4, vI v9), (3, vI v8)] _ _ _
      refine x_goto (pc' := 5) F dX12_areAlike_47 rfl ?_
      refine x_dp (L' := [(0, vR a0), (1, vI a1), (2, vI a2), (3, vI v8), (4, vI v9)]) [0, 1, 2, 4, 3] rfl ?_
      exact hrc5 v8 v9
    · refine x_jn (fun (K10 : RT) => Y cx x 5 (some .boolean) 129 42 [(0, vR a0), (1, vI a1), (2, vI a2), (4, vI v4)] [] G K10) ?_ (fun K10 hK10 => ?_)
      · refine x_iconst F dX12_areAlike_42 ⟨by decide, by decide⟩ rfl ?_
        exact hK7 0
      · refine x_ifeq (pt := 42) F dX12_areAlike_14 rfl rfl ?_ ?_
        · refine x_dp (L' := [(0, vR a0), (1, vI a1), (2, vI a2), (4, vI v4)]) [0, 1, 2, 4] rfl ?_
          exact hK10
        · refine x_aload_n F dX12_areAlike_17 rfl rfl rfl ?_
          refine x_getR F flX12_105 ha0 rfl dX12_areAlike_18 rfl ?_
          refine x_iload_n F dX12_areAlike_21 rfl rfl rfl ?_
          refine x_iload F dX12_areAlike_22 rfl rfl ?_
          refine x_iadd F dX12_areAlike_24 rfl ?_
          refine s_iald F (tf12_17 ha0).1 (tf12_17 ha0).2 dX12_areAlike_25 rfl (fun v11 => ?_)
          refine x_aload_n F dX12_areAlike_26 rfl rfl rfl ?_
          refine x_getR F flX12_105 ha0 rfl dX12_areAlike_27 rfl ?_
          refine x_iload_n F dX12_areAlike_30 rfl rfl rfl ?_
          refine x_iload F dX12_areAlike_31 rfl rfl ?_
          refine x_iadd F dX12_areAlike_33 rfl ?_
          refine s_iald F (tf12_17 ha0).1 (tf12_17 ha0).2 dX12_areAlike_34 rfl (fun v12 => ?_)
          refine x_icmpne (pt := 42) F dX12_areAlike_35 rfl rfl ?_ ?_
          · refine x_iconst F dX12_areAlike_38 ⟨by decide, by decide⟩ rfl ?_
            refine x_goto (pc' := 43) F dX12_areAlike_39 rfl ?_
            refine x_dp (L' := [(0, vR a0), (1, vI a1), (2, vI a2), (4, vI v4)]) [0, 1, 2, 4] rfl ?_
            exact hK7 1
          · refine x_dp (L' := [(0, vR a0), (1, vI a1), (2, vI a2), (4, vI v4)]) [0, 1, 2, 4] rfl ?_
            exact hK10
  · refine x_iload_n F dX12_areAlike_50 rfl rfl rfl ?_
    exact x_zret F hnE hQ dX12_areAlike_51
theorem dX12_draw_0 : decode cX12_draw 0 = .ok (.aload_n 0, 1) := by decide +kernel
theorem dX12_draw_1 : decode cX12_draw 1 = .ok (.aload_n 0, 1) := by decide +kernel
theorem dX12_draw_2 : decode cX12_draw 2 = .ok (.getfield 486, 3) := by decide +kernel
theorem dX12_draw_5 : decode cX12_draw 5 = .ok (.ldc2_w 490, 3) := by decide +kernel
theorem dX12_draw_8 : decode cX12_draw 8 = .ok (.lmul, 1) := by decide +kernel
theorem dX12_draw_9 : decode cX12_draw 9 = .ok (.ldc2_w 492, 3) := by decide +kernel
theorem dX12_draw_12 : decode cX12_draw 12 = .ok (.ladd, 1) := by decide +kernel
theorem dX12_draw_13 : decode cX12_draw 13 = .ok (.ldc2_w 494, 3) := by decide +kernel
theorem dX12_draw_16 : decode cX12_draw 16 = .ok (.lrem, 1) := by decide +kernel
theorem dX12_draw_17 : decode cX12_draw 17 = .ok (.putfield 486, 3) := by decide +kernel
theorem dX12_draw_20 : decode cX12_draw 20 = .ok (.aload_n 0, 1) := by decide +kernel
theorem dX12_draw_21 : decode cX12_draw 21 = .ok (.getfield 486, 3) := by decide +kernel
theorem dX12_draw_24 : decode cX12_draw 24 = .ok (.ldc2_w 496, 3) := by decide +kernel
theorem dX12_draw_27 : decode cX12_draw 27 = .ok (.ldiv, 1) := by decide +kernel
theorem dX12_draw_28 : decode cX12_draw 28 = .ok (.iload_n 1, 1) := by decide +kernel
theorem dX12_draw_29 : decode cX12_draw 29 = .ok (.i2l, 1) := by decide +kernel
theorem dX12_draw_30 : decode cX12_draw 30 = .ok (.lrem, 1) := by decide +kernel
theorem dX12_draw_31 : decode cX12_draw 31 = .ok (.l2i, 1) := by decide +kernel
theorem dX12_draw_32 : decode cX12_draw 32 = .ok (.ireturn, 1) := by decide +kernel
def fX12_draw (a0 : Nat) (a1 : Int) (G : Hp) : RT := nz 2147483648 (bh (up G a0 25 (lrem (ladd (lmul (G a0 25) 1103515245) 12345) 2147483648)) fun G1 => nz 65536 (nz a1 (rt (l2i (lrem (ldiv (G1 a0 25) 65536) a1)) G1)))
set_option maxRecDepth 20000 in
set_option maxHeartbeats 4000000 in
theorem tX12_draw (l : Launch) (x : WX) (hi : Inj x.2.2) (G : Hp) (a0 : Nat) (a1 : Int) (ha0 : kd a0 = 12) : Ct l x yX12_draw cX12_draw 2 (some .int) 0 129 129 [vR a0, vI a1] G (fX12_draw a0 a1 G) := by
  refine ct_of (plainFor_of_name (by decide)) hi (Nat.le_refl _) (Nat.le_refl _) (Nat.le_of_ble_eq_true rfl) (fun cx F hd hn0 hnE hl hQ => ?_)
  subst hl
  have F : Fx cx x RX12 cX12_draw 2 (some .int) := F
  show Y cx x 2 (some .int) 129 0 [(0, vR a0), (1, vI a1)] [] G _
  unfold fX12_draw
  refine x_aload_n F dX12_draw_0 rfl rfl rfl ?_
  refine x_aload_n F dX12_draw_1 rfl rfl rfl ?_
  refine s_getJ F flX12_486 ha0 rfl rfl dX12_draw_2 rfl ?_
  refine x_ldc2 (v := 1103515245) F kjX12_490 dX12_draw_5 ⟨by decide, by decide⟩ (by decide) rfl ?_
  refine x_lmul F dX12_draw_8 rfl ?_
  refine x_ldc2 (v := 12345) F kjX12_492 dX12_draw_9 ⟨by decide, by decide⟩ (by decide) rfl ?_
  refine x_ladd F dX12_draw_12 rfl ?_
  refine x_ldc2 (v := 2147483648) F kjX12_494 dX12_draw_13 ⟨by decide, by decide⟩ (by decide) rfl ?_
  refine x_lrem F dX12_draw_16 rfl ?_
  refine s_putJ F fpX12_486 ha0 rfl rfl dX12_draw_17 rfl (fun G1 => ?_)
  refine x_aload_n F dX12_draw_20 rfl rfl rfl ?_
  refine s_getJ F flX12_486 ha0 rfl rfl dX12_draw_21 rfl ?_
  refine x_ldc2 (v := 65536) F kjX12_496 dX12_draw_24 ⟨by decide, by decide⟩ (by decide) rfl ?_
  refine x_ldiv F dX12_draw_27 rfl ?_
  refine x_iload_n F dX12_draw_28 rfl rfl rfl ?_
  refine x_i2l F dX12_draw_29 rfl ?_
  refine x_lrem F dX12_draw_30 rfl ?_
  refine x_l2i F dX12_draw_31 rfl ?_
  exact x_iret F hnE hQ dX12_draw_32
theorem dX12_doneBy_0 : decode cX12_doneBy 0 = .ok (.iload_n 0, 1) := by decide +kernel
theorem dX12_doneBy_1 : decode cX12_doneBy 1 = .ok (.iconst 5, 1) := by decide +kernel
theorem dX12_doneBy_2 : decode cX12_doneBy 2 = .ok (.if_icmp .ge 7, 3) := by decide +kernel
theorem dX12_doneBy_5 : decode cX12_doneBy 5 = .ok (.iload_n 0, 1) := by decide +kernel
theorem dX12_doneBy_6 : decode cX12_doneBy 6 = .ok (.goto 6, 3) := by decide +kernel
theorem dX12_doneBy_9 : decode cX12_doneBy 9 = .ok (.iload_n 0, 1) := by decide +kernel
theorem dX12_doneBy_10 : decode cX12_doneBy 10 = .ok (.iconst 1, 1) := by decide +kernel
theorem dX12_doneBy_11 : decode cX12_doneBy 11 = .ok (.isub, 1) := by decide +kernel
theorem dX12_doneBy_12 : decode cX12_doneBy 12 = .ok (.ireturn, 1) := by decide +kernel
def fX12_doneBy (a0 : Int) (G : Hp) : RT := if a0 < 5 then rt a0 G else (rt (isub a0 1) G)
theorem pX12_doneBy {G : Hp} {a0 : Int} : PU G (fX12_doneBy a0 G) := by
  unfold fX12_doneBy
  refine PU_ite ?_ ?_
  · exact PU_rt
  · exact PU_rt
set_option maxRecDepth 20000 in
set_option maxHeartbeats 4000000 in
theorem tX12_doneBy (l : Launch) (x : WX) (hi : Inj x.2.2) (G : Hp) (a0 : Int)  : Ct l x yX12_doneBy cX12_doneBy 1 (some .int) 0 129 129 [vI a0] G (fX12_doneBy a0 G) := by
  refine ct_of (plainFor_of_name (by decide)) hi (Nat.le_refl _) (Nat.le_refl _) (Nat.le_of_ble_eq_true rfl) (fun cx F hd hn0 hnE hl hQ => ?_)
  subst hl
  have F : Fx cx x RX12 cX12_doneBy 1 (some .int) := F
  show Y cx x 1 (some .int) 129 0 [(0, vI a0)] [] G _
  unfold fX12_doneBy
  refine x_iload_n F dX12_doneBy_0 rfl rfl rfl ?_
  refine x_iconst F dX12_doneBy_1 ⟨by decide, by decide⟩ rfl ?_
  refine x_icmpge (pt := 9) F dX12_doneBy_2 rfl rfl ?_ ?_
  · refine x_iload_n F dX12_doneBy_5 rfl rfl rfl ?_
    refine x_goto (pc' := 12) F dX12_doneBy_6 rfl ?_
    exact x_iret F hnE hQ dX12_doneBy_12
  · refine x_iload_n F dX12_doneBy_9 rfl rfl rfl ?_
    refine x_iconst F dX12_doneBy_10 ⟨by decide, by decide⟩ rfl ?_
    refine x_isub F dX12_doneBy_11 rfl ?_
    exact x_iret F hnE hQ dX12_doneBy_12
theorem dX12_feed_0 : decode cX12_feed 0 = .ok (.aload_n 0, 1) := by decide +kernel
theorem dX12_feed_1 : decode cX12_feed 1 = .ok (.iconst 0, 1) := by decide +kernel
theorem dX12_feed_2 : decode cX12_feed 2 = .ok (.putfield 1, 3) := by decide +kernel
theorem dX12_feed_5 : decode cX12_feed 5 = .ok (.aload_n 0, 1) := by decide +kernel
theorem dX12_feed_6 : decode cX12_feed 6 = .ok (.lload_n 1, 1) := by decide +kernel
theorem dX12_feed_7 : decode cX12_feed 7 = .ok (.invokevirtual 7, 3) := by decide +kernel
theorem dX12_feed_10 : decode cX12_feed 10 = .ok (.aload_n 0, 1) := by decide +kernel
theorem dX12_feed_11 : decode cX12_feed 11 = .ok (.lload_n 3, 1) := by decide +kernel
theorem dX12_feed_12 : decode cX12_feed 12 = .ok (.invokevirtual 7, 3) := by decide +kernel
theorem dX12_feed_15 : decode cX12_feed 15 = .ok (.aload_n 0, 1) := by decide +kernel
theorem dX12_feed_16 : decode cX12_feed 16 = .ok (.lload 5, 2) := by decide +kernel
theorem dX12_feed_18 : decode cX12_feed 18 = .ok (.invokevirtual 7, 3) := by decide +kernel
theorem dX12_feed_21 : decode cX12_feed 21 = .ok (.aload_n 0, 1) := by decide +kernel
theorem dX12_feed_22 : decode cX12_feed 22 = .ok (.getfield 11, 3) := by decide +kernel
theorem dX12_feed_25 : decode cX12_feed 25 = .ok (.ireturn, 1) := by decide +kernel
def fX12_feed (a0 : Nat) (a1 : Int) (a2 : Int) (a3 : Int) (G : Hp) : RT := bh (up G a0 0 0) fun G1 => bn (fX12_lay a0 a1 G1) fun _ G2 => bn (fX12_lay a0 a2 G2) fun _ G3 => bn (fX12_lay a0 a3 G3) fun _ G4 => rt (G4 a0 2) G4
set_option maxRecDepth 20000 in
set_option maxHeartbeats 4000000 in
theorem tX12_feed (l : Launch) (x : WX) (hi : Inj x.2.2) (G : Hp) (a0 : Nat) (a1 : Int) (a2 : Int) (a3 : Int) (ha0 : kd a0 = 12) : Ct l x yX12_feed cX12_feed 7 (some .int) 1 129 129 [vR a0, vL a1, vL a2, vL a3] G (fX12_feed a0 a1 a2 a3 G) := by
  refine ct_of (plainFor_of_name (by decide)) hi (Nat.le_refl _) (Nat.le_refl _) (Nat.le_of_ble_eq_true rfl) (fun cx F hd hn0 hnE hl hQ => ?_)
  subst hl
  have F : Fx cx x RX12 cX12_feed 7 (some .int) := F
  show Y cx x 7 (some .int) 129 0 [(0, vR a0), (1, vL a1), (3, vL a2), (5, vL a3)] [] G _
  unfold fX12_feed
  refine x_aload_n F dX12_feed_0 rfl rfl rfl ?_
  refine x_iconst F dX12_feed_1 ⟨by decide, by decide⟩ rfl ?_
  refine s_putI F fpX12_1 ha0 rfl dX12_feed_2 rfl (fun G1 => ?_)
  refine x_aload_n F dX12_feed_5 rfl rfl rfl ?_
  refine x_lload_n F dX12_feed_6 rfl rfl rfl ?_
  refine s_callVv F [vL a1] [] lkX12_7 mX12_lay rfl ha0 rfl hnE hn0 hd (tX12_lay cx.l x hi G1 a0 a1 ha0) rfl rfl dX12_feed_7 rfl rfl (fun _ G2 => ?_)
  refine x_aload_n F dX12_feed_10 rfl rfl rfl ?_
  refine x_lload_n F dX12_feed_11 rfl rfl rfl ?_
  refine s_callVv F [vL a2] [] lkX12_7 mX12_lay rfl ha0 rfl hnE hn0 hd (tX12_lay cx.l x hi G2 a0 a2 ha0) rfl rfl dX12_feed_12 rfl rfl (fun _ G3 => ?_)
  refine x_aload_n F dX12_feed_15 rfl rfl rfl ?_
  refine x_lload F dX12_feed_16 rfl rfl ?_
  refine s_callVv F [vL a3] [] lkX12_7 mX12_lay rfl ha0 rfl hnE hn0 hd (tX12_lay cx.l x hi G3 a0 a3 ha0) rfl rfl dX12_feed_18 rfl rfl (fun _ G4 => ?_)
  refine x_aload_n F dX12_feed_21 rfl rfl rfl ?_
  refine s_getI F flX12_11 ha0 rfl dX12_feed_22 rfl ?_
  exact x_iret F hnE hQ dX12_feed_25
theorem dX12_rank_0 : decode cX12_rank 0 = .ok (.iload_n 0, 1) := by decide +kernel
theorem dX12_rank_1 : decode cX12_rank 1 = .ok (.invokestatic 131, 3) := by decide +kernel
theorem dX12_rank_4 : decode cX12_rank 4 = .ok (.ifCond .eq 10, 3) := by decide +kernel
theorem dX12_rank_7 : decode cX12_rank 7 = .ok (.iload_n 0, 1) := by decide +kernel
theorem dX12_rank_8 : decode cX12_rank 8 = .ok (.bipush 96, 2) := by decide +kernel
theorem dX12_rank_10 : decode cX12_rank 10 = .ok (.isub, 1) := by decide +kernel
theorem dX12_rank_11 : decode cX12_rank 11 = .ok (.goto 7, 3) := by decide +kernel
theorem dX12_rank_14 : decode cX12_rank 14 = .ok (.iload_n 0, 1) := by decide +kernel
theorem dX12_rank_15 : decode cX12_rank 15 = .ok (.bipush 21, 2) := by decide +kernel
theorem dX12_rank_17 : decode cX12_rank 17 = .ok (.isub, 1) := by decide +kernel
theorem dX12_rank_18 : decode cX12_rank 18 = .ok (.ireturn, 1) := by decide +kernel
def fX12_rank (a0 : Int) (G : Hp) : RT := bp (fX12_isLetter a0 G) fun v1 => if v1 = 0 then (rt (isub a0 21) G) else (rt (isub a0 96) G)
theorem pX12_rank {G : Hp} {a0 : Int} : PU G (fX12_rank a0 G) := by
  unfold fX12_rank
  refine PU_bp (fun v1 => ?_)
  refine PU_ite ?_ ?_
  · exact PU_rt
  · exact PU_rt
set_option maxRecDepth 20000 in
set_option maxHeartbeats 4000000 in
theorem tX12_rank (l : Launch) (x : WX) (hi : Inj x.2.2) (G : Hp) (a0 : Int)  : Ct l x yX12_rank cX12_rank 1 (some .int) 1 129 129 [vI a0] G (fX12_rank a0 G) := by
  refine ct_of (plainFor_of_name (by decide)) hi (Nat.le_refl _) (Nat.le_refl _) (Nat.le_of_ble_eq_true rfl) (fun cx F hd hn0 hnE hl hQ => ?_)
  subst hl
  have F : Fx cx x RX12 cX12_rank 1 (some .int) := F
  show Y cx x 1 (some .int) 129 0 [(0, vI a0)] [] G _
  unfold fX12_rank
  refine x_iload_n F dX12_rank_0 rfl rfl rfl ?_
  refine s_callSP F [vI a0] [] lkX12_131 mX12_isLetter hnE hn0 hd pX12_isLetter (tX12_isLetter cx.l x hi G a0) rfl rfl dX12_rank_1 rfl rfl (fun v1 => ?_)
  refine x_ifeq (pt := 14) F dX12_rank_4 rfl rfl ?_ ?_
  · refine x_iload_n F dX12_rank_14 rfl rfl rfl ?_
    refine x_bipush F dX12_rank_15 ⟨by decide, by decide⟩ (by decide) rfl ?_
    refine x_isub F dX12_rank_17 rfl ?_
    exact x_iret F hnE hQ dX12_rank_18
  · refine x_iload_n F dX12_rank_7 rfl rfl rfl ?_
    refine x_bipush F dX12_rank_8 ⟨by decide, by decide⟩ (by decide) rfl ?_
    refine x_isub F dX12_rank_10 rfl ?_
    refine x_goto (pc' := 18) F dX12_rank_11 rfl ?_
    exact x_iret F hnE hQ dX12_rank_18
theorem dX12_takeSign_0 : decode cX12_takeSign 0 = .ok (.aload_n 0, 1) := by decide +kernel
theorem dX12_takeSign_1 : decode cX12_takeSign 1 = .ok (.iload_n 1, 1) := by decide +kernel
theorem dX12_takeSign_2 : decode cX12_takeSign 2 = .ok (.invokevirtual 160, 3) := by decide +kernel
theorem dX12_takeSign_5 : decode cX12_takeSign 5 = .ok (.ifCond .eq 16, 3) := by decide +kernel
theorem dX12_takeSign_8 : decode cX12_takeSign 8 = .ok (.aload_n 0, 1) := by decide +kernel
theorem dX12_takeSign_9 : decode cX12_takeSign 9 = .ok (.dup, 1) := by decide +kernel
theorem dX12_takeSign_10 : decode cX12_takeSign 10 = .ok (.getfield 154, 3) := by decide +kernel
theorem dX12_takeSign_13 : decode cX12_takeSign 13 = .ok (.iconst 1, 1) := by decide +kernel
theorem dX12_takeSign_14 : decode cX12_takeSign 14 = .ok (.iadd, 1) := by decide +kernel
theorem dX12_takeSign_15 : decode cX12_takeSign 15 = .ok (.putfield 154, 3) := by decide +kernel
theorem dX12_takeSign_18 : decode cX12_takeSign 18 = .ok (.goto 8, 3) := by decide +kernel
theorem dX12_takeSign_21 : decode cX12_takeSign 21 = .ok (.aload_n 0, 1) := by decide +kernel
theorem dX12_takeSign_22 : decode cX12_takeSign 22 = .ok (.iconst 1, 1) := by decide +kernel
theorem dX12_takeSign_23 : decode cX12_takeSign 23 = .ok (.invokevirtual 163, 3) := by decide +kernel
theorem dX12_takeSign_26 : decode cX12_takeSign 26 = .ok (.return_, 1) := by decide +kernel
def fX12_takeSign (a0 : Nat) (a1 : Int) (G : Hp) : RT := bp (fX12_isSign a0 a1 G) fun v1 => if v1 = 0 then (bn (fX12_wrong a0 1 G) fun _ G2 => rt 0 G2) else (bh (up G a0 7 (iadd (G a0 7) 1)) fun G4 => rt 0 G4)
set_option maxRecDepth 20000 in
set_option maxHeartbeats 4000000 in
theorem tX12_takeSign (l : Launch) (x : WX) (hi : Inj x.2.2) (G : Hp) (a0 : Nat) (a1 : Int) (ha0 : kd a0 = 12) : Ct l x yX12_takeSign cX12_takeSign 2 none 1 129 129 [vR a0, vI a1] G (fX12_takeSign a0 a1 G) := by
  refine ct_of (plainFor_of_name (by decide)) hi (Nat.le_refl _) (Nat.le_refl _) (Nat.le_of_ble_eq_true rfl) (fun cx F hd hn0 hnE hl hQ => ?_)
  subst hl
  have F : Fx cx x RX12 cX12_takeSign 2 none := F
  show Y cx x 2 none 129 0 [(0, vR a0), (1, vI a1)] [] G _
  unfold fX12_takeSign
  refine x_aload_n F dX12_takeSign_0 rfl rfl rfl ?_
  refine x_iload_n F dX12_takeSign_1 rfl rfl rfl ?_
  refine s_callVP F [vI a1] [] lkX12_160 mX12_isSign rfl ha0 rfl hnE hn0 hd pX12_isSign (tX12_isSign cx.l x hi G a0 a1 ha0) rfl rfl dX12_takeSign_2 rfl rfl (fun v1 => ?_)
  refine x_ifeq (pt := 21) F dX12_takeSign_5 rfl rfl ?_ ?_
  · refine x_aload_n F dX12_takeSign_21 rfl rfl rfl ?_
    refine x_iconst F dX12_takeSign_22 ⟨by decide, by decide⟩ rfl ?_
    refine s_callVv F [vI 1] [] lkX12_163 mX12_wrong rfl ha0 rfl hnE hn0 hd (tX12_wrong cx.l x hi G a0 1 ha0) rfl rfl dX12_takeSign_23 rfl rfl (fun _ G2 => ?_)
    exact x_vret F hnE hQ dX12_takeSign_26
  · refine x_aload_n F dX12_takeSign_8 rfl rfl rfl ?_
    refine x_dup F dX12_takeSign_9 rfl rfl ?_
    refine s_getI F flX12_154 ha0 rfl dX12_takeSign_10 rfl ?_
    refine x_iconst F dX12_takeSign_13 ⟨by decide, by decide⟩ rfl ?_
    refine x_iadd F dX12_takeSign_14 rfl ?_
    refine s_putI F fpX12_154 ha0 rfl dX12_takeSign_15 rfl (fun G4 => ?_)
    refine x_goto (pc' := 26) F dX12_takeSign_18 rfl ?_
    exact x_vret F hnE hQ dX12_takeSign_26
theorem dX12_hasSign_0 : decode cX12_hasSign 0 = .ok (.aload_n 0, 1) := by decide +kernel
theorem dX12_hasSign_1 : decode cX12_hasSign 1 = .ok (.iload_n 1, 1) := by decide +kernel
theorem dX12_hasSign_2 : decode cX12_hasSign 2 = .ok (.invokevirtual 160, 3) := by decide +kernel
theorem dX12_hasSign_5 : decode cX12_hasSign 5 = .ok (.istore_n 2, 1) := by decide +kernel
theorem dX12_hasSign_6 : decode cX12_hasSign 6 = .ok (.aload_n 0, 1) := by decide +kernel
theorem dX12_hasSign_7 : decode cX12_hasSign 7 = .ok (.dup, 1) := by decide +kernel
theorem dX12_hasSign_8 : decode cX12_hasSign 8 = .ok (.getfield 154, 3) := by decide +kernel
theorem dX12_hasSign_11 : decode cX12_hasSign 11 = .ok (.iload_n 2, 1) := by decide +kernel
theorem dX12_hasSign_12 : decode cX12_hasSign 12 = .ok (.ifCond .eq 7, 3) := by decide +kernel
theorem dX12_hasSign_15 : decode cX12_hasSign 15 = .ok (.iconst 1, 1) := by decide +kernel
theorem dX12_hasSign_16 : decode cX12_hasSign 16 = .ok (.goto 4, 3) := by decide +kernel
theorem dX12_hasSign_19 : decode cX12_hasSign 19 = .ok (.iconst 0, 1) := by decide +kernel
theorem dX12_hasSign_20 : decode cX12_hasSign 20 = .ok (.iadd, 1) := by decide +kernel
theorem dX12_hasSign_21 : decode cX12_hasSign 21 = .ok (.putfield 154, 3) := by decide +kernel
theorem dX12_hasSign_24 : decode cX12_hasSign 24 = .ok (.iload_n 2, 1) := by decide +kernel
theorem dX12_hasSign_25 : decode cX12_hasSign 25 = .ok (.ireturn, 1) := by decide +kernel
def fX12_hasSign (a0 : Nat) (a1 : Int) (G : Hp) : RT := bp (fX12_isSign a0 a1 G) fun v1 => bd v1 fun v2 => jn (fun (v3 : Int) => bh (up G a0 7 (iadd (G a0 7) v3)) fun G5 => rz v2 G5) fun (K4 : Int → RT) => if v2 = 0 then K4 0 else K4 1
set_option maxRecDepth 20000 in
set_option maxHeartbeats 4000000 in
theorem tX12_hasSign (l : Launch) (x : WX) (hi : Inj x.2.2) (G : Hp) (a0 : Nat) (a1 : Int) (ha0 : kd a0 = 12) : Ct l x yX12_hasSign cX12_hasSign 3 (some .boolean) 1 129 129 [vR a0, vI a1] G (fX12_hasSign a0 a1 G) := by
  refine ct_of (plainFor_of_name (by decide)) hi (Nat.le_refl _) (Nat.le_refl _) (Nat.le_of_ble_eq_true rfl) (fun cx F hd hn0 hnE hl hQ => ?_)
  subst hl
  have F : Fx cx x RX12 cX12_hasSign 3 (some .boolean) := F
  show Y cx x 3 (some .boolean) 129 0 [(0, vR a0), (1, vI a1)] [] G _
  unfold fX12_hasSign
  refine x_aload_n F dX12_hasSign_0 rfl rfl rfl ?_
  refine x_iload_n F dX12_hasSign_1 rfl rfl rfl ?_
  refine s_callVP F [vI a1] [] lkX12_160 mX12_isSign rfl ha0 rfl hnE hn0 hd pX12_isSign (tX12_isSign cx.l x hi G a0 a1 ha0) rfl rfl dX12_hasSign_2 rfl rfl (fun v1 => ?_)
  refine x_dp (L' := [(0, vR a0)]) [0] rfl ?_
  refine x_istore_n F dX12_hasSign_5 rfl (by decide) rfl rfl (fun v2 => ?_)
  show Y cx x _ _ _ _ [(0, vR a0), (2, vI v2)] _ _ _
  refine x_aload_n F dX12_hasSign_6 rfl rfl rfl ?_
  refine x_dup F dX12_hasSign_7 rfl rfl ?_
  refine s_getI F flX12_154 ha0 rfl dX12_hasSign_8 rfl ?_
  refine x_iload_n F dX12_hasSign_11 rfl rfl rfl ?_
  refine x_jn (fun (K4 : Int → RT) => ∀ (v3 : Int), Y cx x 3 (some .boolean) 129 20 [(2, vI v2)] [vI v3, vI (G a0 7), vR a0] G (K4 v3)) ?_ (fun K4 hK4 => ?_)
  · intro v3
    refine x_iadd F dX12_hasSign_20 rfl ?_
    refine s_putI F fpX12_154 ha0 rfl dX12_hasSign_21 rfl (fun G5 => ?_)
    refine x_iload_n F dX12_hasSign_24 rfl rfl rfl ?_
    exact x_zret F hnE hQ dX12_hasSign_25
  · refine x_ifeq (pt := 19) F dX12_hasSign_12 rfl rfl ?_ ?_
    · refine x_iconst F dX12_hasSign_19 ⟨by decide, by decide⟩ rfl ?_
      refine x_dp (L' := [(2, vI v2)]) [1] rfl ?_
      exact hK4 0
    · refine x_iconst F dX12_hasSign_15 ⟨by decide, by decide⟩ rfl ?_
      refine x_goto (pc' := 20) F dX12_hasSign_16 rfl ?_
      refine x_dp (L' := [(2, vI v2)]) [1] rfl ?_
      exact hK4 1
theorem dX12_hasWord_0 : decode cX12_hasWord 0 = .ok (.aload_n 0, 1) := by decide +kernel
theorem dX12_hasWord_1 : decode cX12_hasWord 1 = .ok (.iload_n 1, 1) := by decide +kernel
theorem dX12_hasWord_2 : decode cX12_hasWord 2 = .ok (.invokevirtual 166, 3) := by decide +kernel
theorem dX12_hasWord_5 : decode cX12_hasWord 5 = .ok (.istore_n 2, 1) := by decide +kernel
theorem dX12_hasWord_6 : decode cX12_hasWord 6 = .ok (.aload_n 0, 1) := by decide +kernel
theorem dX12_hasWord_7 : decode cX12_hasWord 7 = .ok (.dup, 1) := by decide +kernel
theorem dX12_hasWord_8 : decode cX12_hasWord 8 = .ok (.getfield 154, 3) := by decide +kernel
theorem dX12_hasWord_11 : decode cX12_hasWord 11 = .ok (.iload_n 2, 1) := by decide +kernel
theorem dX12_hasWord_12 : decode cX12_hasWord 12 = .ok (.ifCond .eq 7, 3) := by decide +kernel
theorem dX12_hasWord_15 : decode cX12_hasWord 15 = .ok (.iconst 1, 1) := by decide +kernel
theorem dX12_hasWord_16 : decode cX12_hasWord 16 = .ok (.goto 4, 3) := by decide +kernel
theorem dX12_hasWord_19 : decode cX12_hasWord 19 = .ok (.iconst 0, 1) := by decide +kernel
theorem dX12_hasWord_20 : decode cX12_hasWord 20 = .ok (.iadd, 1) := by decide +kernel
theorem dX12_hasWord_21 : decode cX12_hasWord 21 = .ok (.putfield 154, 3) := by decide +kernel
theorem dX12_hasWord_24 : decode cX12_hasWord 24 = .ok (.iload_n 2, 1) := by decide +kernel
theorem dX12_hasWord_25 : decode cX12_hasWord 25 = .ok (.ireturn, 1) := by decide +kernel
def fX12_hasWord (a0 : Nat) (a1 : Int) (G : Hp) : RT := bp (fX12_isWord a0 a1 G) fun v1 => bd v1 fun v2 => jn (fun (v3 : Int) => bh (up G a0 7 (iadd (G a0 7) v3)) fun G5 => rz v2 G5) fun (K4 : Int → RT) => if v2 = 0 then K4 0 else K4 1
set_option maxRecDepth 20000 in
set_option maxHeartbeats 4000000 in
theorem tX12_hasWord (l : Launch) (x : WX) (hi : Inj x.2.2) (G : Hp) (a0 : Nat) (a1 : Int) (ha0 : kd a0 = 12) : Ct l x yX12_hasWord cX12_hasWord 3 (some .boolean) 1 129 129 [vR a0, vI a1] G (fX12_hasWord a0 a1 G) := by
  refine ct_of (plainFor_of_name (by decide)) hi (Nat.le_refl _) (Nat.le_refl _) (Nat.le_of_ble_eq_true rfl) (fun cx F hd hn0 hnE hl hQ => ?_)
  subst hl
  have F : Fx cx x RX12 cX12_hasWord 3 (some .boolean) := F
  show Y cx x 3 (some .boolean) 129 0 [(0, vR a0), (1, vI a1)] [] G _
  unfold fX12_hasWord
  refine x_aload_n F dX12_hasWord_0 rfl rfl rfl ?_
  refine x_iload_n F dX12_hasWord_1 rfl rfl rfl ?_
  refine s_callVP F [vI a1] [] lkX12_166 mX12_isWord rfl ha0 rfl hnE hn0 hd pX12_isWord (tX12_isWord cx.l x hi G a0 a1 ha0) rfl rfl dX12_hasWord_2 rfl rfl (fun v1 => ?_)
  refine x_dp (L' := [(0, vR a0)]) [0] rfl ?_
  refine x_istore_n F dX12_hasWord_5 rfl (by decide) rfl rfl (fun v2 => ?_)
  show Y cx x _ _ _ _ [(0, vR a0), (2, vI v2)] _ _ _
  refine x_aload_n F dX12_hasWord_6 rfl rfl rfl ?_
  refine x_dup F dX12_hasWord_7 rfl rfl ?_
  refine s_getI F flX12_154 ha0 rfl dX12_hasWord_8 rfl ?_
  refine x_iload_n F dX12_hasWord_11 rfl rfl rfl ?_
  refine x_jn (fun (K4 : Int → RT) => ∀ (v3 : Int), Y cx x 3 (some .boolean) 129 20 [(2, vI v2)] [vI v3, vI (G a0 7), vR a0] G (K4 v3)) ?_ (fun K4 hK4 => ?_)
  · intro v3
    refine x_iadd F dX12_hasWord_20 rfl ?_
    refine s_putI F fpX12_154 ha0 rfl dX12_hasWord_21 rfl (fun G5 => ?_)
    refine x_iload_n F dX12_hasWord_24 rfl rfl rfl ?_
    exact x_zret F hnE hQ dX12_hasWord_25
  · refine x_ifeq (pt := 19) F dX12_hasWord_12 rfl rfl ?_ ?_
    · refine x_iconst F dX12_hasWord_19 ⟨by decide, by decide⟩ rfl ?_
      refine x_dp (L' := [(2, vI v2)]) [1] rfl ?_
      exact hK4 0
    · refine x_iconst F dX12_hasWord_15 ⟨by decide, by decide⟩ rfl ?_
      refine x_goto (pc' := 20) F dX12_hasWord_16 rfl ?_
      refine x_dp (L' := [(2, vI v2)]) [1] rfl ?_
      exact hK4 1
theorem dX12_takeNumber_0 : decode cX12_takeNumber 0 = .ok (.aload_n 0, 1) := by decide +kernel
theorem dX12_takeNumber_1 : decode cX12_takeNumber 1 = .ok (.getfield 157, 3) := by decide +kernel
theorem dX12_takeNumber_4 : decode cX12_takeNumber 4 = .ok (.ifCond .ne 24, 3) := by decide +kernel
theorem dX12_takeNumber_7 : decode cX12_takeNumber 7 = .ok (.aload_n 0, 1) := by decide +kernel
theorem dX12_takeNumber_8 : decode cX12_takeNumber 8 = .ok (.getfield 24, 3) := by decide +kernel
theorem dX12_takeNumber_11 : decode cX12_takeNumber 11 = .ok (.aload_n 0, 1) := by decide +kernel
theorem dX12_takeNumber_12 : decode cX12_takeNumber 12 = .ok (.getfield 154, 3) := by decide +kernel
theorem dX12_takeNumber_15 : decode cX12_takeNumber 15 = .ok (.iaload, 1) := by decide +kernel
theorem dX12_takeNumber_16 : decode cX12_takeNumber 16 = .ok (.iconst 2, 1) := by decide +kernel
theorem dX12_takeNumber_17 : decode cX12_takeNumber 17 = .ok (.if_icmp .eq 11, 3) := by decide +kernel
theorem dX12_takeNumber_20 : decode cX12_takeNumber 20 = .ok (.aload_n 0, 1) := by decide +kernel
theorem dX12_takeNumber_21 : decode cX12_takeNumber 21 = .ok (.iconst 1, 1) := by decide +kernel
theorem dX12_takeNumber_22 : decode cX12_takeNumber 22 = .ok (.invokevirtual 163, 3) := by decide +kernel
theorem dX12_takeNumber_25 : decode cX12_takeNumber 25 = .ok (.goto 45, 3) := by decide +kernel
theorem dX12_takeNumber_28 : decode cX12_takeNumber 28 = .ok (.aload_n 0, 1) := by decide +kernel
theorem dX12_takeNumber_29 : decode cX12_takeNumber 29 = .ok (.getfield 157, 3) := by decide +kernel
theorem dX12_takeNumber_32 : decode cX12_takeNumber 32 = .ok (.ifCond .ne 38, 3) := by decide +kernel
theorem dX12_takeNumber_35 : decode cX12_takeNumber 35 = .ok (.aload_n 0, 1) := by decide +kernel
theorem dX12_takeNumber_36 : decode cX12_takeNumber 36 = .ok (.getfield 30, 3) := by decide +kernel
theorem dX12_takeNumber_39 : decode cX12_takeNumber 39 = .ok (.aload_n 0, 1) := by decide +kernel
theorem dX12_takeNumber_40 : decode cX12_takeNumber 40 = .ok (.getfield 154, 3) := by decide +kernel
theorem dX12_takeNumber_43 : decode cX12_takeNumber 43 = .ok (.laload, 1) := by decide +kernel
theorem dX12_takeNumber_44 : decode cX12_takeNumber 44 = .ok (.iload_n 1, 1) := by decide +kernel
theorem dX12_takeNumber_45 : decode cX12_takeNumber 45 = .ok (.i2l, 1) := by decide +kernel
theorem dX12_takeNumber_46 : decode cX12_takeNumber 46 = .ok (.lcmp, 1) := by decide +kernel
theorem dX12_takeNumber_47 : decode cX12_takeNumber 47 = .ok (.ifCond .lt 18, 3) := by decide +kernel
theorem dX12_takeNumber_50 : decode cX12_takeNumber 50 = .ok (.aload_n 0, 1) := by decide +kernel
theorem dX12_takeNumber_51 : decode cX12_takeNumber 51 = .ok (.getfield 30, 3) := by decide +kernel
theorem dX12_takeNumber_54 : decode cX12_takeNumber 54 = .ok (.aload_n 0, 1) := by decide +kernel
theorem dX12_takeNumber_55 : decode cX12_takeNumber 55 = .ok (.getfield 154, 3) := by decide +kernel
theorem dX12_takeNumber_58 : decode cX12_takeNumber 58 = .ok (.laload, 1) := by decide +kernel
theorem dX12_takeNumber_59 : decode cX12_takeNumber 59 = .ok (.iload_n 2, 1) := by decide +kernel
theorem dX12_takeNumber_60 : decode cX12_takeNumber 60 = .ok (.i2l, 1) := by decide +kernel
theorem dX12_takeNumber_61 : decode cX12_takeNumber 61 = .ok (.lcmp, 1) := by decide +kernel
theorem dX12_takeNumber_62 : decode cX12_takeNumber 62 = .ok (.ifCond .le 8, 3) := by decide +kernel
theorem dX12_takeNumber_65 : decode cX12_takeNumber 65 = .ok (.aload_n 0, 1) := by decide +kernel
theorem dX12_takeNumber_66 : decode cX12_takeNumber 66 = .ok (.iconst 4, 1) := by decide +kernel
theorem dX12_takeNumber_67 : decode cX12_takeNumber 67 = .ok (.invokevirtual 163, 3) := by decide +kernel
theorem dX12_takeNumber_70 : decode cX12_takeNumber 70 = .ok (.aload_n 0, 1) := by decide +kernel
theorem dX12_takeNumber_71 : decode cX12_takeNumber 71 = .ok (.getfield 157, 3) := by decide +kernel
theorem dX12_takeNumber_74 : decode cX12_takeNumber 74 = .ok (.ifCond .le 5, 3) := by decide +kernel
theorem dX12_takeNumber_77 : decode cX12_takeNumber 77 = .ok (.iconst 0, 1) := by decide +kernel
theorem dX12_takeNumber_78 : decode cX12_takeNumber 78 = .ok (.ireturn, 1) := by decide +kernel
theorem dX12_takeNumber_79 : decode cX12_takeNumber 79 = .ok (.aload_n 0, 1) := by decide +kernel
theorem dX12_takeNumber_80 : decode cX12_takeNumber 80 = .ok (.dup, 1) := by decide +kernel
theorem dX12_takeNumber_81 : decode cX12_takeNumber 81 = .ok (.getfield 154, 3) := by decide +kernel
theorem dX12_takeNumber_84 : decode cX12_takeNumber 84 = .ok (.iconst 1, 1) := by decide +kernel
theorem dX12_takeNumber_85 : decode cX12_takeNumber 85 = .ok (.iadd, 1) := by decide +kernel
theorem dX12_takeNumber_86 : decode cX12_takeNumber 86 = .ok (.putfield 154, 3) := by decide +kernel
theorem dX12_takeNumber_89 : decode cX12_takeNumber 89 = .ok (.aload_n 0, 1) := by decide +kernel
theorem dX12_takeNumber_90 : decode cX12_takeNumber 90 = .ok (.getfield 30, 3) := by decide +kernel
theorem dX12_takeNumber_93 : decode cX12_takeNumber 93 = .ok (.aload_n 0, 1) := by decide +kernel
theorem dX12_takeNumber_94 : decode cX12_takeNumber 94 = .ok (.getfield 154, 3) := by decide +kernel
theorem dX12_takeNumber_97 : decode cX12_takeNumber 97 = .ok (.iconst 1, 1) := by decide +kernel
theorem dX12_takeNumber_98 : decode cX12_takeNumber 98 = .ok (.isub, 1) := by decide +kernel
theorem dX12_takeNumber_99 : decode cX12_takeNumber 99 = .ok (.laload, 1) := by decide +kernel
theorem dX12_takeNumber_100 : decode cX12_takeNumber 100 = .ok (.l2i, 1) := by decide +kernel
theorem dX12_takeNumber_101 : decode cX12_takeNumber 101 = .ok (.ireturn, 1) := by decide +kernel
def fX12_takeNumber (a0 : Nat) (a1 : Int) (a2 : Int) (G : Hp) : RT := jn (fun (G1 : Hp) => if 0 < (G1 a0 8) then rt 0 G1 else (bh (up G1 a0 7 (iadd (G1 a0 7) 1)) fun G3 => br (rd G3 ((rf a0 6)) 1002 (isub (G3 a0 7) 1)) fun v4 => rt (l2i v4) G3)) fun (K2 : Hp → RT) => jn (if (G a0 8) = 0 then (br (rd G ((rf a0 6)) 1002 (G a0 7)) fun v6 => jn (bn (fX12_wrong a0 4 G) fun _ G8 => K2 G8) fun (K7 : RT) => if (lcmp' v6 a1) < 0 then K7 else (br (rd G ((rf a0 6)) 1002 (G a0 7)) fun v10 => if 0 < (lcmp' v10 a2) then K7 else K2 G)) else K2 G) fun (K5 : RT) => if (G a0 8) = 0 then (br (rd G ((rf a0 4)) 1002 (G a0 7)) fun v11 => if v11 = 2 then K5 else (bn (fX12_wrong a0 1 G) fun _ G12 => K2 G12)) else K5
set_option maxRecDepth 20000 in
set_option maxHeartbeats 4000000 in
theorem tX12_takeNumber (l : Launch) (x : WX) (hi : Inj x.2.2) (G : Hp) (a0 : Nat) (a1 : Int) (a2 : Int) (ha0 : kd a0 = 12) : Ct l x yX12_takeNumber cX12_takeNumber 3 (some .int) 1 129 129 [vR a0, vI a1, vI a2] G (fX12_takeNumber a0 a1 a2 G) := by
  refine ct_of (plainFor_of_name (by decide)) hi (Nat.le_refl _) (Nat.le_refl _) (Nat.le_of_ble_eq_true rfl) (fun cx F hd hn0 hnE hl hQ => ?_)
  subst hl
  have F : Fx cx x RX12 cX12_takeNumber 3 (some .int) := F
  show Y cx x 3 (some .int) 129 0 [(0, vR a0), (1, vI a1), (2, vI a2)] [] G _
  unfold fX12_takeNumber
  refine x_aload_n F dX12_takeNumber_0 rfl rfl rfl ?_
  refine s_getI F flX12_157 ha0 rfl dX12_takeNumber_1 rfl ?_
  refine x_jn (fun (K2 : Hp → RT) => ∀ (G1 : Hp), Y cx x 3 (some .int) 129 70 [(0, vR a0)] [] G1 (K2 G1)) ?_ (fun K2 hK2 => ?_)
  · intro G1
    refine x_aload_n F dX12_takeNumber_70 rfl rfl rfl ?_
    refine s_getI F flX12_157 ha0 rfl dX12_takeNumber_71 rfl ?_
    refine x_ifle (pt := 79) F dX12_takeNumber_74 rfl rfl ?_ ?_
    · refine x_iconst F dX12_takeNumber_77 ⟨by decide, by decide⟩ rfl ?_
      exact x_iret F hnE hQ dX12_takeNumber_78
    · refine x_aload_n F dX12_takeNumber_79 rfl rfl rfl ?_
      refine x_dup F dX12_takeNumber_80 rfl rfl ?_
      refine s_getI F flX12_154 ha0 rfl dX12_takeNumber_81 rfl ?_
      refine x_iconst F dX12_takeNumber_84 ⟨by decide, by decide⟩ rfl ?_
      refine x_iadd F dX12_takeNumber_85 rfl ?_
      refine s_putI F fpX12_154 ha0 rfl dX12_takeNumber_86 rfl (fun G3 => ?_)
      refine x_aload_n F dX12_takeNumber_89 rfl rfl rfl ?_
      refine x_getR F flX12_30 ha0 rfl dX12_takeNumber_90 rfl ?_
      refine x_aload_n F dX12_takeNumber_93 rfl rfl rfl ?_
      refine s_getI F flX12_154 ha0 rfl dX12_takeNumber_94 rfl ?_
      refine x_iconst F dX12_takeNumber_97 ⟨by decide, by decide⟩ rfl ?_
      refine x_isub F dX12_takeNumber_98 rfl ?_
      refine s_lald F (tf12_6 ha0).1 (tf12_6 ha0).2 dX12_takeNumber_99 rfl (fun v4 => ?_)
      refine x_l2i F dX12_takeNumber_100 rfl ?_
      exact x_iret F hnE hQ dX12_takeNumber_101
  · refine x_jn (fun (K5 : RT) => Y cx x 3 (some .int) 129 28 [(0, vR a0), (1, vI a1), (2, vI a2)] [] G K5) ?_ (fun K5 hK5 => ?_)
    · refine x_aload_n F dX12_takeNumber_28 rfl rfl rfl ?_
      refine s_getI F flX12_157 ha0 rfl dX12_takeNumber_29 rfl ?_
      refine x_ifne (pt := 70) F dX12_takeNumber_32 rfl rfl ?_ ?_
      · refine x_aload_n F dX12_takeNumber_35 rfl rfl rfl ?_
        refine x_getR F flX12_30 ha0 rfl dX12_takeNumber_36 rfl ?_
        refine x_aload_n F dX12_takeNumber_39 rfl rfl rfl ?_
        refine s_getI F flX12_154 ha0 rfl dX12_takeNumber_40 rfl ?_
        refine s_lald F (tf12_6 ha0).1 (tf12_6 ha0).2 dX12_takeNumber_43 rfl (fun v6 => ?_)
        refine x_iload_n F dX12_takeNumber_44 rfl rfl rfl ?_
        refine x_i2l F dX12_takeNumber_45 rfl ?_
        refine x_lcmp F dX12_takeNumber_46 rfl ?_
        refine x_jn (fun (K7 : RT) => Y cx x 3 (some .int) 129 65 [(0, vR a0)] [] G K7) ?_ (fun K7 hK7 => ?_)
        · refine x_aload_n F dX12_takeNumber_65 rfl rfl rfl ?_
          refine x_iconst F dX12_takeNumber_66 ⟨by decide, by decide⟩ rfl ?_
          refine s_callVv F [vI 4] [] lkX12_163 mX12_wrong rfl ha0 rfl hnE hn0 hd (tX12_wrong cx.l x hi G a0 4 ha0) rfl rfl dX12_takeNumber_67 rfl rfl (fun _ G8 => ?_)
          exact hK2 G8
        · refine x_iflt (pt := 65) F dX12_takeNumber_47 rfl rfl ?_ ?_
          · refine x_dp (L' := [(0, vR a0)]) [0] rfl ?_
            exact hK7
          · refine x_aload_n F dX12_takeNumber_50 rfl rfl rfl ?_
            refine x_getR F flX12_30 ha0 rfl dX12_takeNumber_51 rfl ?_
            refine x_aload_n F dX12_takeNumber_54 rfl rfl rfl ?_
            refine s_getI F flX12_154 ha0 rfl dX12_takeNumber_55 rfl ?_
            refine s_lald F (tf12_6 ha0).1 (tf12_6 ha0).2 dX12_takeNumber_58 rfl (fun v10 => ?_)
            refine x_iload_n F dX12_takeNumber_59 rfl rfl rfl ?_
            refine x_i2l F dX12_takeNumber_60 rfl ?_
            refine x_lcmp F dX12_takeNumber_61 rfl ?_
            refine x_ifle (pt := 70) F dX12_takeNumber_62 rfl rfl ?_ ?_
            · refine x_dp (L' := [(0, vR a0)]) [0] rfl ?_
              exact hK7
            · refine x_dp (L' := [(0, vR a0)]) [0] rfl ?_
              exact hK2 G
      · refine x_dp (L' := [(0, vR a0)]) [0] rfl ?_
        exact hK2 G
    · refine x_ifne (pt := 28) F dX12_takeNumber_4 rfl rfl ?_ ?_
      · refine x_aload_n F dX12_takeNumber_7 rfl rfl rfl ?_
        refine x_getR F flX12_24 ha0 rfl dX12_takeNumber_8 rfl ?_
        refine x_aload_n F dX12_takeNumber_11 rfl rfl rfl ?_
        refine s_getI F flX12_154 ha0 rfl dX12_takeNumber_12 rfl ?_
        refine s_iald F (tf12_4 ha0).1 (tf12_4 ha0).2 dX12_takeNumber_15 rfl (fun v11 => ?_)
        refine x_iconst F dX12_takeNumber_16 ⟨by decide, by decide⟩ rfl ?_
        refine x_icmpeq (pt := 28) F dX12_takeNumber_17 rfl rfl ?_ ?_
        · exact hK5
        · refine x_aload_n F dX12_takeNumber_20 rfl rfl rfl ?_
          refine x_iconst F dX12_takeNumber_21 ⟨by decide, by decide⟩ rfl ?_
          refine s_callVv F [vI 1] [] lkX12_163 mX12_wrong rfl ha0 rfl hnE hn0 hd (tX12_wrong cx.l x hi G a0 1 ha0) rfl rfl dX12_takeNumber_22 rfl rfl (fun _ G12 => ?_)
          refine x_goto (pc' := 70) F dX12_takeNumber_25 rfl ?_
          refine x_dp (L' := [(0, vR a0)]) [0] rfl ?_
          exact hK2 G12
      · exact hK5
theorem dX12_wordHere_0 : decode cX12_wordHere 0 = .ok (.iconst (-1), 1) := by decide +kernel
theorem dX12_wordHere_1 : decode cX12_wordHere 1 = .ok (.istore_n 3, 1) := by decide +kernel
theorem dX12_wordHere_2 : decode cX12_wordHere 2 = .ok (.iconst 0, 1) := by decide +kernel
theorem dX12_wordHere_3 : decode cX12_wordHere 3 = .ok (.istore 4, 2) := by decide +kernel
theorem dX12_wordHere_5 : decode cX12_wordHere 5 = .ok (.iload 4, 2) := by decide +kernel
theorem dX12_wordHere_7 : decode cX12_wordHere 7 = .ok (.iload_n 2, 1) := by decide +kernel
theorem dX12_wordHere_8 : decode cX12_wordHere 8 = .ok (.if_icmp .ge 27, 3) := by decide +kernel
theorem dX12_wordHere_11 : decode cX12_wordHere 11 = .ok (.aload_n 0, 1) := by decide +kernel
theorem dX12_wordHere_12 : decode cX12_wordHere 12 = .ok (.iload_n 1, 1) := by decide +kernel
theorem dX12_wordHere_13 : decode cX12_wordHere 13 = .ok (.iload 4, 2) := by decide +kernel
theorem dX12_wordHere_15 : decode cX12_wordHere 15 = .ok (.iadd, 1) := by decide +kernel
theorem dX12_wordHere_16 : decode cX12_wordHere 16 = .ok (.invokevirtual 166, 3) := by decide +kernel
theorem dX12_wordHere_19 : decode cX12_wordHere 19 = .ok (.ifCond .eq 8, 3) := by decide +kernel
theorem dX12_wordHere_22 : decode cX12_wordHere 22 = .ok (.iload 4, 2) := by decide +kernel
theorem dX12_wordHere_24 : decode cX12_wordHere 24 = .ok (.goto 4, 3) := by decide +kernel
theorem dX12_wordHere_27 : decode cX12_wordHere 27 = .ok (.iload_n 3, 1) := by decide +kernel
theorem dX12_wordHere_28 : decode cX12_wordHere 28 = .ok (.istore_n 3, 1) := by decide +kernel
theorem dX12_wordHere_29 : decode cX12_wordHere 29 = .ok (.iinc 4 1, 3) := by decide +kernel
theorem dX12_wordHere_32 : decode cX12_wordHere 32 = .ok (.goto (-27), 3) := by decide +kernel
theorem dX12_wordHere_35 : decode cX12_wordHere 35 = .ok (.iload_n 3, 1) := by decide +kernel
theorem dX12_wordHere_36 : decode cX12_wordHere 36 = .ok (.ireturn, 1) := by decide +kernel
def fX12_wordHere (a0 : Nat) (a1 : Int) (a2 : Int) (G : Hp) : RT := bd ((-1)) fun v1 => bd 0 fun v2 => (lp (fun (_ : Int) (_ : Int) => (none : RT)) 5000 (fun (rc5 : Int → Int → RT) (v3 : Int) (v4 : Int) => if v4 < a2 then (bp (fX12_isWord a0 (iadd a1 v4) G) fun v6 => jn (fun (v7 : Int) => bd v7 fun v9 => bd (iadd v4 1) fun v10 => rc5 v9 v10) fun (K8 : Int → RT) => if v6 = 0 then K8 v3 else K8 v4) else rt v3 G)) v1 v2
theorem pX12_wordHere {G : Hp} {a0 : Nat} {a1 : Int} {a2 : Int} : PU G (fX12_wordHere a0 a1 a2 G) := by
  unfold fX12_wordHere
  refine PU_bd (fun v1 => ?_)
  refine PU_bd (fun v2 => ?_)
  refine x_lp (fun (rc5 : Int → Int → RT) => ∀ (v3 : Int) (v4 : Int), PU G (rc5 v3 v4)) (fun _ _ => PU_none) (fun rc5 phrc5 v3 v4 => ?_) 5000 v1 v2
  refine PU_ite ?_ ?_
  · refine PU_bp (fun v6 => ?_)
    refine PU_jn (fun (K8 : Int → RT) => ∀ (v7 : Int), PU G (K8 v7)) ?_ (fun K8 phK8 => ?_)
    · intro v7
      refine PU_bd (fun v9 => ?_)
      refine PU_bd (fun v10 => ?_)
      exact phrc5 v9 v10
    · refine PU_ite ?_ ?_
      · exact phK8 v3
      · exact phK8 v4
  · exact PU_rt
set_option maxRecDepth 20000 in
set_option maxHeartbeats 4000000 in
theorem tX12_wordHere (l : Launch) (x : WX) (hi : Inj x.2.2) (G : Hp) (a0 : Nat) (a1 : Int) (a2 : Int) (ha0 : kd a0 = 12) : Ct l x yX12_wordHere cX12_wordHere 5 (some .int) 1 129 129 [vR a0, vI a1, vI a2] G (fX12_wordHere a0 a1 a2 G) := by
  refine ct_of (plainFor_of_name (by decide)) hi (Nat.le_refl _) (Nat.le_refl _) (Nat.le_of_ble_eq_true rfl) (fun cx F hd hn0 hnE hl hQ => ?_)
  subst hl
  have F : Fx cx x RX12 cX12_wordHere 5 (some .int) := F
  show Y cx x 5 (some .int) 129 0 [(0, vR a0), (1, vI a1), (2, vI a2)] [] G _
  unfold fX12_wordHere
  refine x_iconst F dX12_wordHere_0 ⟨by decide, by decide⟩ rfl ?_
  refine x_istore_n F dX12_wordHere_1 rfl (by decide) rfl rfl (fun v1 => ?_)
  show Y cx x _ _ _ _ [(0, vR a0), (1, vI a1), (2, vI a2), (3, vI v1)] _ _ _
  refine x_iconst F dX12_wordHere_2 ⟨by decide, by decide⟩ rfl ?_
  refine x_istore F dX12_wordHere_3 (by decide) rfl rfl (fun v2 => ?_)
  show Y cx x _ _ _ _ [(0, vR a0), (1, vI a1), (2, vI a2), (3, vI v1), (4, vI v2)] _ _ _
  refine x_lp (fun (rc5 : Int → Int → RT) => ∀ (v3 : Int) (v4 : Int), Y cx x 5 (some .int) 129 5 [(0, vR a0), (1, vI a1), (2, vI a2), (3, vI v3), (4, vI v4)] [] G (rc5 v3 v4)) (fun _ _ => Y_none) (fun rc5 hrc5 v3 v4 => ?_) 5000 v1 v2
  refine x_iload F dX12_wordHere_5 rfl rfl ?_
  refine x_iload_n F dX12_wordHere_7 rfl rfl rfl ?_
  refine x_icmpge (pt := 35) F dX12_wordHere_8 rfl rfl ?_ ?_
  · refine x_aload_n F dX12_wordHere_11 rfl rfl rfl ?_
    refine x_iload_n F dX12_wordHere_12 rfl rfl rfl ?_
    refine x_iload F dX12_wordHere_13 rfl rfl ?_
    refine x_iadd F dX12_wordHere_15 rfl ?_
    refine s_callVP F [vI (iadd a1 v4)] [] lkX12_166 mX12_isWord rfl ha0 rfl hnE hn0 hd pX12_isWord (tX12_isWord cx.l x hi G a0 (iadd a1 v4) ha0) rfl rfl dX12_wordHere_16 rfl rfl (fun v6 => ?_)
    refine x_jn (fun (K8 : Int → RT) => ∀ (v7 : Int), Y cx x 5 (some .int) 129 28 [(0, vR a0), (1, vI a1), (2, vI a2), (4, vI v4)] [vI v7] G (K8 v7)) ?_ (fun K8 hK8 => ?_)
    · intro v7
      refine x_istore_n F dX12_wordHere_28 rfl (by decide) rfl rfl (fun v9 => ?_)
      show Y cx x _ _ _ _ [(0, vR a0), (1, vI a1), (2, vI a2), (4, vI v4), (3, vI v9)] _ _ _
      refine x_iinc F dX12_wordHere_29 rfl (by decide) rfl rfl (fun v10 => ?_)
      show Y cx x _ _ _ _ [(0, vR a0), (1, vI a1), (2, vI a2), (4, vI v10), (3, vI v9)] _ _ _
      refine x_goto (pc' := 5) F dX12_wordHere_32 rfl ?_
      refine x_dp (L' := [(0, vR a0), (1, vI a1), (2, vI a2), (3, vI v9), (4, vI v10)]) [0, 1, 2, 4, 3] rfl ?_
      exact hrc5 v9 v10
    · refine x_ifeq (pt := 27) F dX12_wordHere_19 rfl rfl ?_ ?_
      · refine x_iload_n F dX12_wordHere_27 rfl rfl rfl ?_
        refine x_dp (L' := [(0, vR a0), (1, vI a1), (2, vI a2), (4, vI v4)]) [0, 1, 2, 4] rfl ?_
        exact hK8 v3
      · refine x_iload F dX12_wordHere_22 rfl rfl ?_
        refine x_goto (pc' := 28) F dX12_wordHere_24 rfl ?_
        refine x_dp (L' := [(0, vR a0), (1, vI a1), (2, vI a2), (4, vI v4)]) [0, 1, 2, 4] rfl ?_
        exact hK8 v4
  · refine x_iload_n F dX12_wordHere_35 rfl rfl rfl ?_
    exact x_iret F hnE hQ dX12_wordHere_36
theorem dX12_readOnce_0 : decode cX12_readOnce 0 = .ok (.iload_n 1, 1) := by decide +kernel
theorem dX12_readOnce_1 : decode cX12_readOnce 1 = .ok (.ifCond .eq 10, 3) := by decide +kernel
theorem dX12_readOnce_4 : decode cX12_readOnce 4 = .ok (.aload_n 0, 1) := by decide +kernel
theorem dX12_readOnce_5 : decode cX12_readOnce 5 = .ok (.iconst 3, 1) := by decide +kernel
theorem dX12_readOnce_6 : decode cX12_readOnce 6 = .ok (.invokevirtual 163, 3) := by decide +kernel
theorem dX12_readOnce_9 : decode cX12_readOnce 9 = .ok (.iconst 0, 1) := by decide +kernel
theorem dX12_readOnce_10 : decode cX12_readOnce 10 = .ok (.ireturn, 1) := by decide +kernel
theorem dX12_readOnce_11 : decode cX12_readOnce 11 = .ok (.aload_n 0, 1) := by decide +kernel
theorem dX12_readOnce_12 : decode cX12_readOnce 12 = .ok (.dup, 1) := by decide +kernel
theorem dX12_readOnce_13 : decode cX12_readOnce 13 = .ok (.getfield 154, 3) := by decide +kernel
theorem dX12_readOnce_16 : decode cX12_readOnce 16 = .ok (.iconst 1, 1) := by decide +kernel
theorem dX12_readOnce_17 : decode cX12_readOnce 17 = .ok (.iadd, 1) := by decide +kernel
theorem dX12_readOnce_18 : decode cX12_readOnce 18 = .ok (.putfield 154, 3) := by decide +kernel
theorem dX12_readOnce_21 : decode cX12_readOnce 21 = .ok (.iconst 1, 1) := by decide +kernel
theorem dX12_readOnce_22 : decode cX12_readOnce 22 = .ok (.ireturn, 1) := by decide +kernel
def fX12_readOnce (a0 : Nat) (a1 : Int) (G : Hp) : RT := if a1 = 0 then (bh (up G a0 7 (iadd (G a0 7) 1)) fun G1 => rz 1 G1) else (bn (fX12_wrong a0 3 G) fun _ G2 => rz 0 G2)
set_option maxRecDepth 20000 in
set_option maxHeartbeats 4000000 in
theorem tX12_readOnce (l : Launch) (x : WX) (hi : Inj x.2.2) (G : Hp) (a0 : Nat) (a1 : Int) (ha0 : kd a0 = 12) : Ct l x yX12_readOnce cX12_readOnce 2 (some .boolean) 1 129 129 [vR a0, vI a1] G (fX12_readOnce a0 a1 G) := by
  refine ct_of (plainFor_of_name (by decide)) hi (Nat.le_refl _) (Nat.le_refl _) (Nat.le_of_ble_eq_true rfl) (fun cx F hd hn0 hnE hl hQ => ?_)
  subst hl
  have F : Fx cx x RX12 cX12_readOnce 2 (some .boolean) := F
  show Y cx x 2 (some .boolean) 129 0 [(0, vR a0), (1, vI a1)] [] G _
  unfold fX12_readOnce
  refine x_iload_n F dX12_readOnce_0 rfl rfl rfl ?_
  refine x_ifeq (pt := 11) F dX12_readOnce_1 rfl rfl ?_ ?_
  · refine x_aload_n F dX12_readOnce_11 rfl rfl rfl ?_
    refine x_dup F dX12_readOnce_12 rfl rfl ?_
    refine s_getI F flX12_154 ha0 rfl dX12_readOnce_13 rfl ?_
    refine x_iconst F dX12_readOnce_16 ⟨by decide, by decide⟩ rfl ?_
    refine x_iadd F dX12_readOnce_17 rfl ?_
    refine s_putI F fpX12_154 ha0 rfl dX12_readOnce_18 rfl (fun G1 => ?_)
    refine x_iconst F dX12_readOnce_21 ⟨by decide, by decide⟩ rfl ?_
    exact x_zret F hnE hQ dX12_readOnce_22
  · refine x_aload_n F dX12_readOnce_4 rfl rfl rfl ?_
    refine x_iconst F dX12_readOnce_5 ⟨by decide, by decide⟩ rfl ?_
    refine s_callVv F [vI 3] [] lkX12_163 mX12_wrong rfl ha0 rfl hnE hn0 hd (tX12_wrong cx.l x hi G a0 3 ha0) rfl rfl dX12_readOnce_6 rfl rfl (fun _ G2 => ?_)
    refine x_iconst F dX12_readOnce_9 ⟨by decide, by decide⟩ rfl ?_
    exact x_zret F hnE hQ dX12_readOnce_10
theorem dX12_worthAt_0 : decode cX12_worthAt 0 = .ok (.iconst 0, 1) := by decide +kernel
theorem dX12_worthAt_1 : decode cX12_worthAt 1 = .ok (.istore_n 2, 1) := by decide +kernel
theorem dX12_worthAt_2 : decode cX12_worthAt 2 = .ok (.iload_n 1, 1) := by decide +kernel
theorem dX12_worthAt_3 : decode cX12_worthAt 3 = .ok (.istore_n 3, 1) := by decide +kernel
theorem dX12_worthAt_4 : decode cX12_worthAt 4 = .ok (.aload_n 0, 1) := by decide +kernel
theorem dX12_worthAt_5 : decode cX12_worthAt 5 = .ok (.getfield 90, 3) := by decide +kernel
theorem dX12_worthAt_8 : decode cX12_worthAt 8 = .ok (.iload_n 3, 1) := by decide +kernel
theorem dX12_worthAt_9 : decode cX12_worthAt 9 = .ok (.iaload, 1) := by decide +kernel
theorem dX12_worthAt_10 : decode cX12_worthAt 10 = .ok (.bipush 16, 2) := by decide +kernel
theorem dX12_worthAt_12 : decode cX12_worthAt 12 = .ok (.irem, 1) := by decide +kernel
theorem dX12_worthAt_13 : decode cX12_worthAt 13 = .ok (.ifCond .eq 139, 3) := by decide +kernel
theorem dX12_worthAt_16 : decode cX12_worthAt 16 = .ok (.aload_n 0, 1) := by decide +kernel
theorem dX12_worthAt_17 : decode cX12_worthAt 17 = .ok (.getfield 90, 3) := by decide +kernel
theorem dX12_worthAt_20 : decode cX12_worthAt 20 = .ok (.iload_n 3, 1) := by decide +kernel
theorem dX12_worthAt_21 : decode cX12_worthAt 21 = .ok (.iaload, 1) := by decide +kernel
theorem dX12_worthAt_22 : decode cX12_worthAt 22 = .ok (.bipush 16, 2) := by decide +kernel
theorem dX12_worthAt_24 : decode cX12_worthAt 24 = .ok (.irem, 1) := by decide +kernel
theorem dX12_worthAt_25 : decode cX12_worthAt 25 = .ok (.istore 4, 2) := by decide +kernel
theorem dX12_worthAt_27 : decode cX12_worthAt 27 = .ok (.iload 4, 2) := by decide +kernel
theorem dX12_worthAt_29 : decode cX12_worthAt 29 = .ok (.iconst 1, 1) := by decide +kernel
theorem dX12_worthAt_30 : decode cX12_worthAt 30 = .ok (.if_icmp .eq 9, 3) := by decide +kernel
theorem dX12_worthAt_33 : decode cX12_worthAt 33 = .ok (.iload 4, 2) := by decide +kernel
theorem dX12_worthAt_35 : decode cX12_worthAt 35 = .ok (.iconst 2, 1) := by decide +kernel
theorem dX12_worthAt_36 : decode cX12_worthAt 36 = .ok (.if_icmp .ne 47, 3) := by decide +kernel
theorem dX12_worthAt_39 : decode cX12_worthAt 39 = .ok (.aload_n 0, 1) := by decide +kernel
theorem dX12_worthAt_40 : decode cX12_worthAt 40 = .ok (.getfield 102, 3) := by decide +kernel
theorem dX12_worthAt_43 : decode cX12_worthAt 43 = .ok (.iload_n 2, 1) := by decide +kernel
theorem dX12_worthAt_44 : decode cX12_worthAt 44 = .ok (.iload 4, 2) := by decide +kernel
theorem dX12_worthAt_46 : decode cX12_worthAt 46 = .ok (.iconst 1, 1) := by decide +kernel
theorem dX12_worthAt_47 : decode cX12_worthAt 47 = .ok (.if_icmp .ne 15, 3) := by decide +kernel
theorem dX12_worthAt_50 : decode cX12_worthAt 50 = .ok (.aload_n 0, 1) := by decide +kernel
theorem dX12_worthAt_51 : decode cX12_worthAt 51 = .ok (.getfield 90, 3) := by decide +kernel
theorem dX12_worthAt_54 : decode cX12_worthAt 54 = .ok (.iload_n 3, 1) := by decide +kernel
theorem dX12_worthAt_55 : decode cX12_worthAt 55 = .ok (.iaload, 1) := by decide +kernel
theorem dX12_worthAt_56 : decode cX12_worthAt 56 = .ok (.bipush 16, 2) := by decide +kernel
theorem dX12_worthAt_58 : decode cX12_worthAt 58 = .ok (.idiv, 1) := by decide +kernel
theorem dX12_worthAt_59 : decode cX12_worthAt 59 = .ok (.goto 17, 3) := by decide +kernel
theorem dX12_worthAt_62 : decode cX12_worthAt 62 = .ok (.aload_n 0, 1) := by decide +kernel
theorem dX12_worthAt_63 : decode cX12_worthAt 63 = .ok (.getfield 99, 3) := by decide +kernel
theorem dX12_worthAt_66 : decode cX12_worthAt 66 = .ok (.aload_n 0, 1) := by decide +kernel
theorem dX12_worthAt_67 : decode cX12_worthAt 67 = .ok (.getfield 90, 3) := by decide +kernel
theorem dX12_worthAt_70 : decode cX12_worthAt 70 = .ok (.iload_n 3, 1) := by decide +kernel
theorem dX12_worthAt_71 : decode cX12_worthAt 71 = .ok (.iaload, 1) := by decide +kernel
theorem dX12_worthAt_72 : decode cX12_worthAt 72 = .ok (.bipush 16, 2) := by decide +kernel
theorem dX12_worthAt_74 : decode cX12_worthAt 74 = .ok (.idiv, 1) := by decide +kernel
theorem dX12_worthAt_75 : decode cX12_worthAt 75 = .ok (.iaload, 1) := by decide +kernel
theorem dX12_worthAt_76 : decode cX12_worthAt 76 = .ok (.iastore, 1) := by decide +kernel
theorem dX12_worthAt_77 : decode cX12_worthAt 77 = .ok (.iinc 2 1, 3) := by decide +kernel
theorem dX12_worthAt_80 : decode cX12_worthAt 80 = .ok (.goto 66, 3) := by decide +kernel
theorem dX12_worthAt_83 : decode cX12_worthAt 83 = .ok (.iload 4, 2) := by decide +kernel
theorem dX12_worthAt_85 : decode cX12_worthAt 85 = .ok (.iconst 3, 1) := by decide +kernel
theorem dX12_worthAt_86 : decode cX12_worthAt 86 = .ok (.if_icmp .ne 30, 3) := by decide +kernel
theorem dX12_worthAt_89 : decode cX12_worthAt 89 = .ok (.aload_n 0, 1) := by decide +kernel
theorem dX12_worthAt_90 : decode cX12_worthAt 90 = .ok (.getfield 102, 3) := by decide +kernel
theorem dX12_worthAt_93 : decode cX12_worthAt 93 = .ok (.iload_n 2, 1) := by decide +kernel
theorem dX12_worthAt_94 : decode cX12_worthAt 94 = .ok (.iconst 1, 1) := by decide +kernel
theorem dX12_worthAt_95 : decode cX12_worthAt 95 = .ok (.isub, 1) := by decide +kernel
theorem dX12_worthAt_96 : decode cX12_worthAt 96 = .ok (.aload_n 0, 1) := by decide +kernel
theorem dX12_worthAt_97 : decode cX12_worthAt 97 = .ok (.getfield 102, 3) := by decide +kernel
theorem dX12_worthAt_100 : decode cX12_worthAt 100 = .ok (.iload_n 2, 1) := by decide +kernel
theorem dX12_worthAt_101 : decode cX12_worthAt 101 = .ok (.iconst 1, 1) := by decide +kernel
theorem dX12_worthAt_102 : decode cX12_worthAt 102 = .ok (.isub, 1) := by decide +kernel
theorem dX12_worthAt_103 : decode cX12_worthAt 103 = .ok (.iaload, 1) := by decide +kernel
theorem dX12_worthAt_104 : decode cX12_worthAt 104 = .ok (.ifCond .ne 7, 3) := by decide +kernel
theorem dX12_worthAt_107 : decode cX12_worthAt 107 = .ok (.iconst 1, 1) := by decide +kernel
theorem dX12_worthAt_108 : decode cX12_worthAt 108 = .ok (.goto 4, 3) := by decide +kernel
theorem dX12_worthAt_111 : decode cX12_worthAt 111 = .ok (.iconst 0, 1) := by decide +kernel
theorem dX12_worthAt_112 : decode cX12_worthAt 112 = .ok (.iastore, 1) := by decide +kernel
theorem dX12_worthAt_113 : decode cX12_worthAt 113 = .ok (.goto 33, 3) := by decide +kernel
theorem dX12_worthAt_116 : decode cX12_worthAt 116 = .ok (.iinc 2 (-1), 3) := by decide +kernel
theorem dX12_worthAt_119 : decode cX12_worthAt 119 = .ok (.aload_n 0, 1) := by decide +kernel
theorem dX12_worthAt_120 : decode cX12_worthAt 120 = .ok (.getfield 102, 3) := by decide +kernel
theorem dX12_worthAt_123 : decode cX12_worthAt 123 = .ok (.iload_n 2, 1) := by decide +kernel
theorem dX12_worthAt_124 : decode cX12_worthAt 124 = .ok (.iconst 1, 1) := by decide +kernel
theorem dX12_worthAt_125 : decode cX12_worthAt 125 = .ok (.isub, 1) := by decide +kernel
theorem dX12_worthAt_126 : decode cX12_worthAt 126 = .ok (.iload 4, 2) := by decide +kernel
theorem dX12_worthAt_128 : decode cX12_worthAt 128 = .ok (.aload_n 0, 1) := by decide +kernel
theorem dX12_worthAt_129 : decode cX12_worthAt 129 = .ok (.getfield 102, 3) := by decide +kernel
theorem dX12_worthAt_132 : decode cX12_worthAt 132 = .ok (.iload_n 2, 1) := by decide +kernel
theorem dX12_worthAt_133 : decode cX12_worthAt 133 = .ok (.iconst 1, 1) := by decide +kernel
theorem dX12_worthAt_134 : decode cX12_worthAt 134 = .ok (.isub, 1) := by decide +kernel
theorem dX12_worthAt_135 : decode cX12_worthAt 135 = .ok (.iaload, 1) := by decide +kernel
theorem dX12_worthAt_136 : decode cX12_worthAt 136 = .ok (.aload_n 0, 1) := by decide +kernel
theorem dX12_worthAt_137 : decode cX12_worthAt 137 = .ok (.getfield 102, 3) := by decide +kernel
theorem dX12_worthAt_140 : decode cX12_worthAt 140 = .ok (.iload_n 2, 1) := by decide +kernel
theorem dX12_worthAt_141 : decode cX12_worthAt 141 = .ok (.iaload, 1) := by decide +kernel
theorem dX12_worthAt_142 : decode cX12_worthAt 142 = .ok (.invokestatic 254, 3) := by decide +kernel
theorem dX12_worthAt_145 : decode cX12_worthAt 145 = .ok (.iastore, 1) := by decide +kernel
theorem dX12_worthAt_146 : decode cX12_worthAt 146 = .ok (.iinc 3 1, 3) := by decide +kernel
theorem dX12_worthAt_149 : decode cX12_worthAt 149 = .ok (.goto (-145), 3) := by decide +kernel
theorem dX12_worthAt_152 : decode cX12_worthAt 152 = .ok (.aload_n 0, 1) := by decide +kernel
theorem dX12_worthAt_153 : decode cX12_worthAt 153 = .ok (.getfield 102, 3) := by decide +kernel
theorem dX12_worthAt_156 : decode cX12_worthAt 156 = .ok (.iconst 0, 1) := by decide +kernel
theorem dX12_worthAt_157 : decode cX12_worthAt 157 = .ok (.iaload, 1) := by decide +kernel
theorem dX12_worthAt_158 : decode cX12_worthAt 158 = .ok (.ireturn, 1) := by decide +kernel
def fX12_worthAt (a0 : Nat) (a1 : Int) (G : Hp) : RT := bd 0 fun v1 => bd a1 fun v2 => (lp (fun (_ : Int) (_ : Int) (_ : Hp) => (none : RT)) 5000 (fun (rc6 : Int → Int → Hp → RT) (v3 : Int) (v4 : Int) (G5 : Hp) => br (rd G5 ((rf a0 11)) 2200 v4) fun v7 => nz 16 (if (irem v7 16) = 0 then (br (rd G5 ((rf a0 16)) 64 0) fun v8 => rt v8 G5) else (br (rd G5 ((rf a0 11)) 2200 v4) fun v9 => nz 16 (bd (irem v9 16) fun v10 => jn (fun (v11 : Int) (G12 : Hp) => bd (iadd v4 1) fun v14 => rc6 v11 v14 G12) fun (K13 : Int → Hp → RT) => jn (jn (fun (v16 : Int) => bs (wr G5 ((rf a0 16)) 64 v3 v16) fun G18 => bd (iadd v3 1) fun v19 => K13 v19 G18) fun (K17 : Int → RT) => if v10 = 1 then (br (rd G5 ((rf a0 11)) 2200 v4) fun v22 => nz 16 (K17 (idiv v22 16))) else (br (rd G5 ((rf a0 11)) 2200 v4) fun v20 => nz 16 (br (rd G5 ((rf a0 15)) 4 (idiv v20 16)) fun v21 => K17 v21))) fun (K15 : RT) => if v10 = 1 then K15 else (if v10 = 2 then K15 else (if v10 = 3 then (br (rd G5 ((rf a0 16)) 64 (isub v3 1)) fun v28 => jn (fun (v29 : Int) => bs (wr G5 ((rf a0 16)) 64 (isub v3 1) v29) fun G31 => K13 v3 G31) fun (K30 : Int → RT) => if v28 = 0 then K30 1 else K30 0) else (bd (iadd v3 (-1)) fun v23 => br (rd G5 ((rf a0 16)) 64 (isub v23 1)) fun v24 => br (rd G5 ((rf a0 16)) 64 v23) fun v25 => bp (fX12_worked v10 v24 v25 G5) fun v26 => bs (wr G5 ((rf a0 16)) 64 (isub v23 1) v26) fun G27 => K13 v23 G27)))))))) v1 v2 G
set_option maxRecDepth 20000 in
set_option maxHeartbeats 4000000 in
theorem tX12_worthAt (l : Launch) (x : WX) (hi : Inj x.2.2) (G : Hp) (a0 : Nat) (a1 : Int) (ha0 : kd a0 = 12) : Ct l x yX12_worthAt cX12_worthAt 5 (some .int) 1 129 129 [vR a0, vI a1] G (fX12_worthAt a0 a1 G) := by
  refine ct_of (plainFor_of_name (by decide)) hi (Nat.le_refl _) (Nat.le_refl _) (Nat.le_of_ble_eq_true rfl) (fun cx F hd hn0 hnE hl hQ => ?_)
  subst hl
  have F : Fx cx x RX12 cX12_worthAt 5 (some .int) := F
  show Y cx x 5 (some .int) 129 0 [(0, vR a0), (1, vI a1)] [] G _
  unfold fX12_worthAt
  refine x_iconst F dX12_worthAt_0 ⟨by decide, by decide⟩ rfl ?_
  refine x_istore_n F dX12_worthAt_1 rfl (by decide) rfl rfl (fun v1 => ?_)
  show Y cx x _ _ _ _ [(0, vR a0), (1, vI a1), (2, vI v1)] _ _ _
  refine x_iload_n F dX12_worthAt_2 rfl rfl rfl ?_
  refine x_dp (L' := [(0, vR a0), (2, vI v1)]) [0, 2] rfl ?_
  refine x_istore_n F dX12_worthAt_3 rfl (by decide) rfl rfl (fun v2 => ?_)
  show Y cx x _ _ _ _ [(0, vR a0), (2, vI v1), (3, vI v2)] _ _ _
  refine x_lp (fun (rc6 : Int → Int → Hp → RT) => ∀ (v3 : Int) (v4 : Int) (G5 : Hp), Y cx x 5 (some .int) 129 4 [(0, vR a0), (2, vI v3), (3, vI v4)] [] G5 (rc6 v3 v4 G5)) (fun _ _ _ => Y_none) (fun rc6 hrc6 v3 v4 G5 => ?_) 5000 v1 v2 G
  refine x_aload_n F dX12_worthAt_4 rfl rfl rfl ?_
  refine x_getR F flX12_90 ha0 rfl dX12_worthAt_5 rfl ?_
  refine x_iload_n F dX12_worthAt_8 rfl rfl rfl ?_
  refine s_iald F (tf12_11 ha0).1 (tf12_11 ha0).2 dX12_worthAt_9 rfl (fun v7 => ?_)
  refine x_bipush F dX12_worthAt_10 ⟨by decide, by decide⟩ (by decide) rfl ?_
  refine x_irem F dX12_worthAt_12 rfl ?_
  refine x_ifeq (pt := 152) F dX12_worthAt_13 rfl rfl ?_ ?_
  · refine x_aload_n F dX12_worthAt_152 rfl rfl rfl ?_
    refine x_getR F flX12_102 ha0 rfl dX12_worthAt_153 rfl ?_
    refine x_iconst F dX12_worthAt_156 ⟨by decide, by decide⟩ rfl ?_
    refine s_iald F (tf12_16 ha0).1 (tf12_16 ha0).2 dX12_worthAt_157 rfl (fun v8 => ?_)
    exact x_iret F hnE hQ dX12_worthAt_158
  · refine x_aload_n F dX12_worthAt_16 rfl rfl rfl ?_
    refine x_getR F flX12_90 ha0 rfl dX12_worthAt_17 rfl ?_
    refine x_iload_n F dX12_worthAt_20 rfl rfl rfl ?_
    refine s_iald F (tf12_11 ha0).1 (tf12_11 ha0).2 dX12_worthAt_21 rfl (fun v9 => ?_)
    refine x_bipush F dX12_worthAt_22 ⟨by decide, by decide⟩ (by decide) rfl ?_
    refine x_irem F dX12_worthAt_24 rfl ?_
    refine x_istore F dX12_worthAt_25 (by decide) rfl rfl (fun v10 => ?_)
    show Y cx x _ _ _ _ [(0, vR a0), (2, vI v3), (3, vI v4), (4, vI v10)] _ _ _
    refine x_iload F dX12_worthAt_27 rfl rfl ?_
    refine x_iconst F dX12_worthAt_29 ⟨by decide, by decide⟩ rfl ?_
    refine x_jn (fun (K13 : Int → Hp → RT) => ∀ (v11 : Int) (G12 : Hp), Y cx x 5 (some .int) 129 146 [(0, vR a0), (2, vI v11), (3, vI v4)] [] G12 (K13 v11 G12)) ?_ (fun K13 hK13 => ?_)
    · intro v11 G12
      refine x_iinc F dX12_worthAt_146 rfl (by decide) rfl rfl (fun v14 => ?_)
      show Y cx x _ _ _ _ [(0, vR a0), (2, vI v11), (3, vI v14)] _ _ _
      refine x_goto (pc' := 4) F dX12_worthAt_149 rfl ?_
      exact hrc6 v11 v14 G12
    · refine x_jn (fun (K15 : RT) => Y cx x 5 (some .int) 129 39 [(0, vR a0), (2, vI v3), (3, vI v4), (4, vI v10)] [] G5 K15) ?_ (fun K15 hK15 => ?_)
      · refine x_aload_n F dX12_worthAt_39 rfl rfl rfl ?_
        refine x_getR F flX12_102 ha0 rfl dX12_worthAt_40 rfl ?_
        refine x_iload_n F dX12_worthAt_43 rfl rfl rfl ?_
        refine x_iload F dX12_worthAt_44 rfl rfl ?_
        refine x_iconst F dX12_worthAt_46 ⟨by decide, by decide⟩ rfl ?_
        refine x_jn (fun (K17 : Int → RT) => ∀ (v16 : Int), Y cx x 5 (some .int) 129 76 [(0, vR a0), (2, vI v3), (3, vI v4)] [vI v16, vI v3, vR ((rf a0 16))] G5 (K17 v16)) ?_ (fun K17 hK17 => ?_)
        · intro v16
          refine s_iast F (tf12_16 ha0).1 (tf12_16 ha0).2 dX12_worthAt_76 rfl (fun G18 => ?_)
          refine x_iinc F dX12_worthAt_77 rfl (by decide) rfl rfl (fun v19 => ?_)
          show Y cx x _ _ _ _ [(0, vR a0), (2, vI v19), (3, vI v4)] _ _ _
          refine x_goto (pc' := 146) F dX12_worthAt_80 rfl ?_
          exact hK13 v19 G18
        · refine x_icmpne (pt := 62) F dX12_worthAt_47 rfl rfl ?_ ?_
          · refine x_aload_n F dX12_worthAt_50 rfl rfl rfl ?_
            refine x_getR F flX12_90 ha0 rfl dX12_worthAt_51 rfl ?_
            refine x_iload_n F dX12_worthAt_54 rfl rfl rfl ?_
            refine s_iald F (tf12_11 ha0).1 (tf12_11 ha0).2 dX12_worthAt_55 rfl (fun v22 => ?_)
            refine x_bipush F dX12_worthAt_56 ⟨by decide, by decide⟩ (by decide) rfl ?_
            refine x_idiv F dX12_worthAt_58 rfl ?_
            refine x_goto (pc' := 76) F dX12_worthAt_59 rfl ?_
            refine x_dp (L' := [(0, vR a0), (2, vI v3), (3, vI v4)]) [0, 1, 2] rfl ?_
            exact hK17 (idiv v22 16)
          · refine x_aload_n F dX12_worthAt_62 rfl rfl rfl ?_
            refine x_getR F flX12_99 ha0 rfl dX12_worthAt_63 rfl ?_
            refine x_aload_n F dX12_worthAt_66 rfl rfl rfl ?_
            refine x_getR F flX12_90 ha0 rfl dX12_worthAt_67 rfl ?_
            refine x_iload_n F dX12_worthAt_70 rfl rfl rfl ?_
            refine s_iald F (tf12_11 ha0).1 (tf12_11 ha0).2 dX12_worthAt_71 rfl (fun v20 => ?_)
            refine x_bipush F dX12_worthAt_72 ⟨by decide, by decide⟩ (by decide) rfl ?_
            refine x_idiv F dX12_worthAt_74 rfl ?_
            refine s_iald F (tf12_15 ha0).1 (tf12_15 ha0).2 dX12_worthAt_75 rfl (fun v21 => ?_)
            refine x_dp (L' := [(0, vR a0), (2, vI v3), (3, vI v4)]) [0, 1, 2] rfl ?_
            exact hK17 v21
      · refine x_icmpeq (pt := 39) F dX12_worthAt_30 rfl rfl ?_ ?_
        · exact hK15
        · refine x_iload F dX12_worthAt_33 rfl rfl ?_
          refine x_iconst F dX12_worthAt_35 ⟨by decide, by decide⟩ rfl ?_
          refine x_icmpne (pt := 83) F dX12_worthAt_36 rfl rfl ?_ ?_
          · exact hK15
          · refine x_iload F dX12_worthAt_83 rfl rfl ?_
            refine x_iconst F dX12_worthAt_85 ⟨by decide, by decide⟩ rfl ?_
            refine x_icmpne (pt := 116) F dX12_worthAt_86 rfl rfl ?_ ?_
            · refine x_aload_n F dX12_worthAt_89 rfl rfl rfl ?_
              refine x_getR F flX12_102 ha0 rfl dX12_worthAt_90 rfl ?_
              refine x_iload_n F dX12_worthAt_93 rfl rfl rfl ?_
              refine x_iconst F dX12_worthAt_94 ⟨by decide, by decide⟩ rfl ?_
              refine x_isub F dX12_worthAt_95 rfl ?_
              refine x_aload_n F dX12_worthAt_96 rfl rfl rfl ?_
              refine x_getR F flX12_102 ha0 rfl dX12_worthAt_97 rfl ?_
              refine x_iload_n F dX12_worthAt_100 rfl rfl rfl ?_
              refine x_iconst F dX12_worthAt_101 ⟨by decide, by decide⟩ rfl ?_
              refine x_isub F dX12_worthAt_102 rfl ?_
              refine s_iald F (tf12_16 ha0).1 (tf12_16 ha0).2 dX12_worthAt_103 rfl (fun v28 => ?_)
              refine x_jn (fun (K30 : Int → RT) => ∀ (v29 : Int), Y cx x 5 (some .int) 129 112 [(0, vR a0), (2, vI v3), (3, vI v4)] [vI v29, vI (isub v3 1), vR ((rf a0 16))] G5 (K30 v29)) ?_ (fun K30 hK30 => ?_)
              · intro v29
                refine s_iast F (tf12_16 ha0).1 (tf12_16 ha0).2 dX12_worthAt_112 rfl (fun G31 => ?_)
                refine x_goto (pc' := 146) F dX12_worthAt_113 rfl ?_
                exact hK13 v3 G31
              · refine x_ifne (pt := 111) F dX12_worthAt_104 rfl rfl ?_ ?_
                · refine x_iconst F dX12_worthAt_107 ⟨by decide, by decide⟩ rfl ?_
                  refine x_goto (pc' := 112) F dX12_worthAt_108 rfl ?_
                  refine x_dp (L' := [(0, vR a0), (2, vI v3), (3, vI v4)]) [0, 1, 2] rfl ?_
                  exact hK30 1
                · refine x_iconst F dX12_worthAt_111 ⟨by decide, by decide⟩ rfl ?_
                  refine x_dp (L' := [(0, vR a0), (2, vI v3), (3, vI v4)]) [0, 1, 2] rfl ?_
                  exact hK30 0
            · refine x_iinc F dX12_worthAt_116 rfl (by decide) rfl rfl (fun v23 => ?_)
              show Y cx x _ _ _ _ [(0, vR a0), (2, vI v23), (3, vI v4), (4, vI v10)] _ _ _
              refine x_aload_n F dX12_worthAt_119 rfl rfl rfl ?_
              refine x_getR F flX12_102 ha0 rfl dX12_worthAt_120 rfl ?_
              refine x_iload_n F dX12_worthAt_123 rfl rfl rfl ?_
              refine x_iconst F dX12_worthAt_124 ⟨by decide, by decide⟩ rfl ?_
              refine x_isub F dX12_worthAt_125 rfl ?_
              refine x_iload F dX12_worthAt_126 rfl rfl ?_
              refine x_aload_n F dX12_worthAt_128 rfl rfl rfl ?_
              refine x_getR F flX12_102 ha0 rfl dX12_worthAt_129 rfl ?_
              refine x_iload_n F dX12_worthAt_132 rfl rfl rfl ?_
              refine x_iconst F dX12_worthAt_133 ⟨by decide, by decide⟩ rfl ?_
              refine x_isub F dX12_worthAt_134 rfl ?_
              refine s_iald F (tf12_16 ha0).1 (tf12_16 ha0).2 dX12_worthAt_135 rfl (fun v24 => ?_)
              refine x_aload_n F dX12_worthAt_136 rfl rfl rfl ?_
              refine x_getR F flX12_102 ha0 rfl dX12_worthAt_137 rfl ?_
              refine x_iload_n F dX12_worthAt_140 rfl rfl rfl ?_
              refine s_iald F (tf12_16 ha0).1 (tf12_16 ha0).2 dX12_worthAt_141 rfl (fun v25 => ?_)
              refine s_callSP F [vI v10, vI v24, vI v25] [vI (isub v23 1), vR ((rf a0 16))] lkX12_254 mX12_worked hnE hn0 hd pX12_worked (tX12_worked cx.l x hi G5 v10 v24 v25) rfl rfl dX12_worthAt_142 rfl rfl (fun v26 => ?_)
              refine s_iast F (tf12_16 ha0).1 (tf12_16 ha0).2 dX12_worthAt_145 rfl (fun G27 => ?_)
              refine x_dp (L' := [(0, vR a0), (2, vI v23), (3, vI v4)]) [0, 1, 2] rfl ?_
              exact hK13 v23 G27
theorem dX12_isNode_0 : decode cX12_isNode 0 = .ok (.iload_n 1, 1) := by decide +kernel
theorem dX12_isNode_1 : decode cX12_isNode 1 = .ok (.ifCond .lt 15, 3) := by decide +kernel
theorem dX12_isNode_4 : decode cX12_isNode 4 = .ok (.iload_n 1, 1) := by decide +kernel
theorem dX12_isNode_5 : decode cX12_isNode 5 = .ok (.aload_n 0, 1) := by decide +kernel
theorem dX12_isNode_6 : decode cX12_isNode 6 = .ok (.invokevirtual 236, 3) := by decide +kernel
theorem dX12_isNode_9 : decode cX12_isNode 9 = .ok (.if_icmp .ge 7, 3) := by decide +kernel
theorem dX12_isNode_12 : decode cX12_isNode 12 = .ok (.iconst 1, 1) := by decide +kernel
theorem dX12_isNode_13 : decode cX12_isNode 13 = .ok (.goto 4, 3) := by decide +kernel
theorem dX12_isNode_16 : decode cX12_isNode 16 = .ok (.iconst 0, 1) := by decide +kernel
theorem dX12_isNode_17 : decode cX12_isNode 17 = .ok (.ireturn, 1) := by decide +kernel
def fX12_isNode (a0 : Nat) (a1 : Int) (G : Hp) : RT := if a1 < 0 then rz 0 G else (bp (fX12_nodes a0 G) fun v1 => if a1 < v1 then rz 1 G else rz 0 G)
theorem pX12_isNode {G : Hp} {a0 : Nat} {a1 : Int} : PU G (fX12_isNode a0 a1 G) := by
  unfold fX12_isNode
  refine PU_ite ?_ ?_
  · exact PU_rz
  · refine PU_bp (fun v1 => ?_)
    refine PU_ite ?_ ?_
    · exact PU_rz
    · exact PU_rz
set_option maxRecDepth 20000 in
set_option maxHeartbeats 4000000 in
theorem tX12_isNode (l : Launch) (x : WX) (hi : Inj x.2.2) (G : Hp) (a0 : Nat) (a1 : Int) (ha0 : kd a0 = 12) : Ct l x yX12_isNode cX12_isNode 2 (some .boolean) 1 129 129 [vR a0, vI a1] G (fX12_isNode a0 a1 G) := by
  refine ct_of (plainFor_of_name (by decide)) hi (Nat.le_refl _) (Nat.le_refl _) (Nat.le_of_ble_eq_true rfl) (fun cx F hd hn0 hnE hl hQ => ?_)
  subst hl
  have F : Fx cx x RX12 cX12_isNode 2 (some .boolean) := F
  show Y cx x 2 (some .boolean) 129 0 [(0, vR a0), (1, vI a1)] [] G _
  unfold fX12_isNode
  refine x_iload_n F dX12_isNode_0 rfl rfl rfl ?_
  refine x_iflt (pt := 16) F dX12_isNode_1 rfl rfl ?_ ?_
  · refine x_iconst F dX12_isNode_16 ⟨by decide, by decide⟩ rfl ?_
    exact x_zret F hnE hQ dX12_isNode_17
  · refine x_iload_n F dX12_isNode_4 rfl rfl rfl ?_
    refine x_aload_n F dX12_isNode_5 rfl rfl rfl ?_
    refine s_callVP F [] [vI a1] lkX12_236 mX12_nodes rfl ha0 rfl hnE hn0 hd pX12_nodes (tX12_nodes cx.l x hi G a0 ha0) rfl rfl dX12_isNode_6 rfl rfl (fun v1 => ?_)
    refine x_icmpge (pt := 16) F dX12_isNode_9 rfl rfl ?_ ?_
    · refine x_iconst F dX12_isNode_12 ⟨by decide, by decide⟩ rfl ?_
      refine x_goto (pc' := 17) F dX12_isNode_13 rfl ?_
      exact x_zret F hnE hQ dX12_isNode_17
    · refine x_iconst F dX12_isNode_16 ⟨by decide, by decide⟩ rfl ?_
      exact x_zret F hnE hQ dX12_isNode_17
theorem dX12_isKey_0 : decode cX12_isKey 0 = .ok (.iload_n 1, 1) := by decide +kernel
theorem dX12_isKey_1 : decode cX12_isKey 1 = .ok (.ifCond .lt 15, 3) := by decide +kernel
theorem dX12_isKey_4 : decode cX12_isKey 4 = .ok (.iload_n 1, 1) := by decide +kernel
theorem dX12_isKey_5 : decode cX12_isKey 5 = .ok (.aload_n 0, 1) := by decide +kernel
theorem dX12_isKey_6 : decode cX12_isKey 6 = .ok (.invokevirtual 229, 3) := by decide +kernel
theorem dX12_isKey_9 : decode cX12_isKey 9 = .ok (.if_icmp .ge 7, 3) := by decide +kernel
theorem dX12_isKey_12 : decode cX12_isKey 12 = .ok (.iconst 1, 1) := by decide +kernel
theorem dX12_isKey_13 : decode cX12_isKey 13 = .ok (.goto 4, 3) := by decide +kernel
theorem dX12_isKey_16 : decode cX12_isKey 16 = .ok (.iconst 0, 1) := by decide +kernel
theorem dX12_isKey_17 : decode cX12_isKey 17 = .ok (.ireturn, 1) := by decide +kernel
def fX12_isKey (a0 : Nat) (a1 : Int) (G : Hp) : RT := if a1 < 0 then rz 0 G else (bp (fX12_keys a0 G) fun v1 => if a1 < v1 then rz 1 G else rz 0 G)
theorem pX12_isKey {G : Hp} {a0 : Nat} {a1 : Int} : PU G (fX12_isKey a0 a1 G) := by
  unfold fX12_isKey
  refine PU_ite ?_ ?_
  · exact PU_rz
  · refine PU_bp (fun v1 => ?_)
    refine PU_ite ?_ ?_
    · exact PU_rz
    · exact PU_rz
set_option maxRecDepth 20000 in
set_option maxHeartbeats 4000000 in
theorem tX12_isKey (l : Launch) (x : WX) (hi : Inj x.2.2) (G : Hp) (a0 : Nat) (a1 : Int) (ha0 : kd a0 = 12) : Ct l x yX12_isKey cX12_isKey 2 (some .boolean) 1 129 129 [vR a0, vI a1] G (fX12_isKey a0 a1 G) := by
  refine ct_of (plainFor_of_name (by decide)) hi (Nat.le_refl _) (Nat.le_refl _) (Nat.le_of_ble_eq_true rfl) (fun cx F hd hn0 hnE hl hQ => ?_)
  subst hl
  have F : Fx cx x RX12 cX12_isKey 2 (some .boolean) := F
  show Y cx x 2 (some .boolean) 129 0 [(0, vR a0), (1, vI a1)] [] G _
  unfold fX12_isKey
  refine x_iload_n F dX12_isKey_0 rfl rfl rfl ?_
  refine x_iflt (pt := 16) F dX12_isKey_1 rfl rfl ?_ ?_
  · refine x_iconst F dX12_isKey_16 ⟨by decide, by decide⟩ rfl ?_
    exact x_zret F hnE hQ dX12_isKey_17
  · refine x_iload_n F dX12_isKey_4 rfl rfl rfl ?_
    refine x_aload_n F dX12_isKey_5 rfl rfl rfl ?_
    refine s_callVP F [] [vI a1] lkX12_229 mX12_keys rfl ha0 rfl hnE hn0 hd pX12_keys (tX12_keys cx.l x hi G a0 ha0) rfl rfl dX12_isKey_6 rfl rfl (fun v1 => ?_)
    refine x_icmpge (pt := 16) F dX12_isKey_9 rfl rfl ?_ ?_
    · refine x_iconst F dX12_isKey_12 ⟨by decide, by decide⟩ rfl ?_
      refine x_goto (pc' := 17) F dX12_isKey_13 rfl ?_
      exact x_zret F hnE hQ dX12_isKey_17
    · refine x_iconst F dX12_isKey_16 ⟨by decide, by decide⟩ rfl ?_
      exact x_zret F hnE hQ dX12_isKey_17
theorem dX12_isPlace_0 : decode cX12_isPlace 0 = .ok (.iload_n 1, 1) := by decide +kernel
theorem dX12_isPlace_1 : decode cX12_isPlace 1 = .ok (.ifCond .lt 15, 3) := by decide +kernel
theorem dX12_isPlace_4 : decode cX12_isPlace 4 = .ok (.iload_n 1, 1) := by decide +kernel
theorem dX12_isPlace_5 : decode cX12_isPlace 5 = .ok (.aload_n 0, 1) := by decide +kernel
theorem dX12_isPlace_6 : decode cX12_isPlace 6 = .ok (.invokevirtual 257, 3) := by decide +kernel
theorem dX12_isPlace_9 : decode cX12_isPlace 9 = .ok (.if_icmp .ge 7, 3) := by decide +kernel
theorem dX12_isPlace_12 : decode cX12_isPlace 12 = .ok (.iconst 1, 1) := by decide +kernel
theorem dX12_isPlace_13 : decode cX12_isPlace 13 = .ok (.goto 4, 3) := by decide +kernel
theorem dX12_isPlace_16 : decode cX12_isPlace 16 = .ok (.iconst 0, 1) := by decide +kernel
theorem dX12_isPlace_17 : decode cX12_isPlace 17 = .ok (.ireturn, 1) := by decide +kernel
def fX12_isPlace (a0 : Nat) (a1 : Int) (G : Hp) : RT := if a1 < 0 then rz 0 G else (bp (fX12_circle a0 G) fun v1 => if a1 < v1 then rz 1 G else rz 0 G)
theorem pX12_isPlace {G : Hp} {a0 : Nat} {a1 : Int} : PU G (fX12_isPlace a0 a1 G) := by
  unfold fX12_isPlace
  refine PU_ite ?_ ?_
  · exact PU_rz
  · refine PU_bp (fun v1 => ?_)
    refine PU_ite ?_ ?_
    · exact PU_rz
    · exact PU_rz
set_option maxRecDepth 20000 in
set_option maxHeartbeats 4000000 in
theorem tX12_isPlace (l : Launch) (x : WX) (hi : Inj x.2.2) (G : Hp) (a0 : Nat) (a1 : Int) (ha0 : kd a0 = 12) : Ct l x yX12_isPlace cX12_isPlace 2 (some .boolean) 1 129 129 [vR a0, vI a1] G (fX12_isPlace a0 a1 G) := by
  refine ct_of (plainFor_of_name (by decide)) hi (Nat.le_refl _) (Nat.le_refl _) (Nat.le_of_ble_eq_true rfl) (fun cx F hd hn0 hnE hl hQ => ?_)
  subst hl
  have F : Fx cx x RX12 cX12_isPlace 2 (some .boolean) := F
  show Y cx x 2 (some .boolean) 129 0 [(0, vR a0), (1, vI a1)] [] G _
  unfold fX12_isPlace
  refine x_iload_n F dX12_isPlace_0 rfl rfl rfl ?_
  refine x_iflt (pt := 16) F dX12_isPlace_1 rfl rfl ?_ ?_
  · refine x_iconst F dX12_isPlace_16 ⟨by decide, by decide⟩ rfl ?_
    exact x_zret F hnE hQ dX12_isPlace_17
  · refine x_iload_n F dX12_isPlace_4 rfl rfl rfl ?_
    refine x_aload_n F dX12_isPlace_5 rfl rfl rfl ?_
    refine s_callVP F [] [vI a1] lkX12_257 mX12_circle rfl ha0 rfl hnE hn0 hd pX12_circle (tX12_circle cx.l x hi G a0 ha0) rfl rfl dX12_isPlace_6 rfl rfl (fun v1 => ?_)
    refine x_icmpge (pt := 16) F dX12_isPlace_9 rfl rfl ?_ ?_
    · refine x_iconst F dX12_isPlace_12 ⟨by decide, by decide⟩ rfl ?_
      refine x_goto (pc' := 17) F dX12_isPlace_13 rfl ?_
      exact x_zret F hnE hQ dX12_isPlace_17
    · refine x_iconst F dX12_isPlace_16 ⟨by decide, by decide⟩ rfl ?_
      exact x_zret F hnE hQ dX12_isPlace_17
theorem dX12_starts_0 : decode cX12_starts 0 = .ok (.iconst 0, 1) := by decide +kernel
theorem dX12_starts_1 : decode cX12_starts 1 = .ok (.istore_n 2, 1) := by decide +kernel
theorem dX12_starts_2 : decode cX12_starts 2 = .ok (.iload_n 2, 1) := by decide +kernel
theorem dX12_starts_3 : decode cX12_starts 3 = .ok (.bipush 8, 2) := by decide +kernel
theorem dX12_starts_5 : decode cX12_starts 5 = .ok (.if_icmp .ge 15, 3) := by decide +kernel
theorem dX12_starts_8 : decode cX12_starts 8 = .ok (.aload_n 0, 1) := by decide +kernel
theorem dX12_starts_9 : decode cX12_starts 9 = .ok (.iload_n 1, 1) := by decide +kernel
theorem dX12_starts_10 : decode cX12_starts 10 = .ok (.iload_n 2, 1) := by decide +kernel
theorem dX12_starts_11 : decode cX12_starts 11 = .ok (.invokevirtual 263, 3) := by decide +kernel
theorem dX12_starts_14 : decode cX12_starts 14 = .ok (.iinc 2 1, 3) := by decide +kernel
theorem dX12_starts_17 : decode cX12_starts 17 = .ok (.goto (-15), 3) := by decide +kernel
theorem dX12_starts_20 : decode cX12_starts 20 = .ok (.iconst 0, 1) := by decide +kernel
theorem dX12_starts_21 : decode cX12_starts 21 = .ok (.istore_n 2, 1) := by decide +kernel
theorem dX12_starts_22 : decode cX12_starts 22 = .ok (.iload_n 2, 1) := by decide +kernel
theorem dX12_starts_23 : decode cX12_starts 23 = .ok (.bipush 10, 2) := by decide +kernel
theorem dX12_starts_25 : decode cX12_starts 25 = .ok (.if_icmp .ge 21, 3) := by decide +kernel
theorem dX12_starts_28 : decode cX12_starts 28 = .ok (.aload_n 0, 1) := by decide +kernel
theorem dX12_starts_29 : decode cX12_starts 29 = .ok (.getfield 105, 3) := by decide +kernel
theorem dX12_starts_32 : decode cX12_starts 32 = .ok (.iload_n 1, 1) := by decide +kernel
theorem dX12_starts_33 : decode cX12_starts 33 = .ok (.bipush 120, 2) := by decide +kernel
theorem dX12_starts_35 : decode cX12_starts 35 = .ok (.iadd, 1) := by decide +kernel
theorem dX12_starts_36 : decode cX12_starts 36 = .ok (.iload_n 2, 1) := by decide +kernel
theorem dX12_starts_37 : decode cX12_starts 37 = .ok (.iadd, 1) := by decide +kernel
theorem dX12_starts_38 : decode cX12_starts 38 = .ok (.iconst (-1), 1) := by decide +kernel
theorem dX12_starts_39 : decode cX12_starts 39 = .ok (.iastore, 1) := by decide +kernel
theorem dX12_starts_40 : decode cX12_starts 40 = .ok (.iinc 2 1, 3) := by decide +kernel
theorem dX12_starts_43 : decode cX12_starts 43 = .ok (.goto (-21), 3) := by decide +kernel
theorem dX12_starts_46 : decode cX12_starts 46 = .ok (.return_, 1) := by decide +kernel
def fX12_starts (a0 : Nat) (a1 : Int) (G : Hp) : RT := bd 0 fun v1 => (lp (fun (_ : Int) (_ : Hp) => (none : RT)) 5000 (fun (rc4 : Int → Hp → RT) (v2 : Int) (G3 : Hp) => if v2 < 8 then (bn (fX12_goesOut a0 a1 v2 G3) fun _ G11 => bd (iadd v2 1) fun v12 => rc4 v12 G11) else (bd 0 fun v5 => (lp (fun (_ : Int) (_ : Hp) => (none : RT)) 5000 (fun (rc8 : Int → Hp → RT) (v6 : Int) (G7 : Hp) => if v6 < 10 then (bs (wr G7 ((rf a0 17)) 3565 (iadd (iadd a1 120) v6) ((-1))) fun G9 => bd (iadd v6 1) fun v10 => rc8 v10 G9) else rt 0 G7)) v5 G3))) v1 G
set_option maxRecDepth 20000 in
set_option maxHeartbeats 4000000 in
theorem tX12_starts (l : Launch) (x : WX) (hi : Inj x.2.2) (G : Hp) (a0 : Nat) (a1 : Int) (ha0 : kd a0 = 12) : Ct l x yX12_starts cX12_starts 3 none 1 129 129 [vR a0, vI a1] G (fX12_starts a0 a1 G) := by
  refine ct_of (plainFor_of_name (by decide)) hi (Nat.le_refl _) (Nat.le_refl _) (Nat.le_of_ble_eq_true rfl) (fun cx F hd hn0 hnE hl hQ => ?_)
  subst hl
  have F : Fx cx x RX12 cX12_starts 3 none := F
  show Y cx x 3 none 129 0 [(0, vR a0), (1, vI a1)] [] G _
  unfold fX12_starts
  refine x_iconst F dX12_starts_0 ⟨by decide, by decide⟩ rfl ?_
  refine x_istore_n F dX12_starts_1 rfl (by decide) rfl rfl (fun v1 => ?_)
  show Y cx x _ _ _ _ [(0, vR a0), (1, vI a1), (2, vI v1)] _ _ _
  refine x_lp (fun (rc4 : Int → Hp → RT) => ∀ (v2 : Int) (G3 : Hp), Y cx x 3 none 129 2 [(0, vR a0), (1, vI a1), (2, vI v2)] [] G3 (rc4 v2 G3)) (fun _ _ => Y_none) (fun rc4 hrc4 v2 G3 => ?_) 5000 v1 G
  refine x_iload_n F dX12_starts_2 rfl rfl rfl ?_
  refine x_bipush F dX12_starts_3 ⟨by decide, by decide⟩ (by decide) rfl ?_
  refine x_icmpge (pt := 20) F dX12_starts_5 rfl rfl ?_ ?_
  · refine x_aload_n F dX12_starts_8 rfl rfl rfl ?_
    refine x_iload_n F dX12_starts_9 rfl rfl rfl ?_
    refine x_iload_n F dX12_starts_10 rfl rfl rfl ?_
    refine s_callVv F [vI a1, vI v2] [] lkX12_263 mX12_goesOut rfl ha0 rfl hnE hn0 hd (tX12_goesOut cx.l x hi G3 a0 a1 v2 ha0) rfl rfl dX12_starts_11 rfl rfl (fun _ G11 => ?_)
    refine x_iinc F dX12_starts_14 rfl (by decide) rfl rfl (fun v12 => ?_)
    show Y cx x _ _ _ _ [(0, vR a0), (1, vI a1), (2, vI v12)] _ _ _
    refine x_goto (pc' := 2) F dX12_starts_17 rfl ?_
    exact hrc4 v12 G11
  · refine x_iconst F dX12_starts_20 ⟨by decide, by decide⟩ rfl ?_
    refine x_istore_n F dX12_starts_21 rfl (by decide) rfl rfl (fun v5 => ?_)
    show Y cx x _ _ _ _ [(0, vR a0), (1, vI a1), (2, vI v5)] _ _ _
    refine x_lp (fun (rc8 : Int → Hp → RT) => ∀ (v6 : Int) (G7 : Hp), Y cx x 3 none 129 22 [(0, vR a0), (1, vI a1), (2, vI v6)] [] G7 (rc8 v6 G7)) (fun _ _ => Y_none) (fun rc8 hrc8 v6 G7 => ?_) 5000 v5 G3
    refine x_iload_n F dX12_starts_22 rfl rfl rfl ?_
    refine x_bipush F dX12_starts_23 ⟨by decide, by decide⟩ (by decide) rfl ?_
    refine x_icmpge (pt := 46) F dX12_starts_25 rfl rfl ?_ ?_
    · refine x_aload_n F dX12_starts_28 rfl rfl rfl ?_
      refine x_getR F flX12_105 ha0 rfl dX12_starts_29 rfl ?_
      refine x_iload_n F dX12_starts_32 rfl rfl rfl ?_
      refine x_bipush F dX12_starts_33 ⟨by decide, by decide⟩ (by decide) rfl ?_
      refine x_iadd F dX12_starts_35 rfl ?_
      refine x_iload_n F dX12_starts_36 rfl rfl rfl ?_
      refine x_iadd F dX12_starts_37 rfl ?_
      refine x_iconst F dX12_starts_38 ⟨by decide, by decide⟩ rfl ?_
      refine s_iast F (tf12_17 ha0).1 (tf12_17 ha0).2 dX12_starts_39 rfl (fun G9 => ?_)
      refine x_iinc F dX12_starts_40 rfl (by decide) rfl rfl (fun v10 => ?_)
      show Y cx x _ _ _ _ [(0, vR a0), (1, vI a1), (2, vI v10)] _ _ _
      refine x_goto (pc' := 22) F dX12_starts_43 rfl ?_
      exact hrc8 v10 G9
    · exact x_vret F hnE hQ dX12_starts_46
theorem dX12_aside_0 : decode cX12_aside 0 = .ok (.aload_n 0, 1) := by decide +kernel
theorem dX12_aside_1 : decode cX12_aside 1 = .ok (.iconst 0, 1) := by decide +kernel
theorem dX12_aside_2 : decode cX12_aside 2 = .ok (.sipush 3410, 3) := by decide +kernel
theorem dX12_aside_5 : decode cX12_aside 5 = .ok (.sipush 130, 3) := by decide +kernel
theorem dX12_aside_8 : decode cX12_aside 8 = .ok (.invokevirtual 275, 3) := by decide +kernel
theorem dX12_aside_11 : decode cX12_aside 11 = .ok (.return_, 1) := by decide +kernel
def fX12_aside (a0 : Nat) (G : Hp) : RT := bn (fX12_copies a0 0 3410 130 G) fun _ G1 => rt 0 G1
set_option maxRecDepth 20000 in
set_option maxHeartbeats 4000000 in
theorem tX12_aside (l : Launch) (x : WX) (hi : Inj x.2.2) (G : Hp) (a0 : Nat) (ha0 : kd a0 = 12) : Ct l x yX12_aside cX12_aside 1 none 1 129 129 [vR a0] G (fX12_aside a0 G) := by
  refine ct_of (plainFor_of_name (by decide)) hi (Nat.le_refl _) (Nat.le_refl _) (Nat.le_of_ble_eq_true rfl) (fun cx F hd hn0 hnE hl hQ => ?_)
  subst hl
  have F : Fx cx x RX12 cX12_aside 1 none := F
  show Y cx x 1 none 129 0 [(0, vR a0)] [] G _
  unfold fX12_aside
  refine x_aload_n F dX12_aside_0 rfl rfl rfl ?_
  refine x_iconst F dX12_aside_1 ⟨by decide, by decide⟩ rfl ?_
  refine x_sipush F dX12_aside_2 ⟨by decide, by decide⟩ (by decide) rfl ?_
  refine x_sipush F dX12_aside_5 ⟨by decide, by decide⟩ (by decide) rfl ?_
  refine s_callVv F [vI 0, vI 3410, vI 130] [] lkX12_275 mX12_copies rfl ha0 rfl hnE hn0 hd (tX12_copies cx.l x hi G a0 0 3410 130 ha0) rfl rfl dX12_aside_8 rfl rfl (fun _ G1 => ?_)
  exact x_vret F hnE hQ dX12_aside_11
theorem dX12_keeps_0 : decode cX12_keeps 0 = .ok (.aload_n 0, 1) := by decide +kernel
theorem dX12_keeps_1 : decode cX12_keeps 1 = .ok (.getfield 272, 3) := by decide +kernel
theorem dX12_keeps_4 : decode cX12_keeps 4 = .ok (.bipush 16, 2) := by decide +kernel
theorem dX12_keeps_6 : decode cX12_keeps 6 = .ok (.if_icmp .ne 50, 3) := by decide +kernel
theorem dX12_keeps_9 : decode cX12_keeps 9 = .ok (.iconst 1, 1) := by decide +kernel
theorem dX12_keeps_10 : decode cX12_keeps 10 = .ok (.istore_n 1, 1) := by decide +kernel
theorem dX12_keeps_11 : decode cX12_keeps 11 = .ok (.iload_n 1, 1) := by decide +kernel
theorem dX12_keeps_12 : decode cX12_keeps 12 = .ok (.bipush 16, 2) := by decide +kernel
theorem dX12_keeps_14 : decode cX12_keeps 14 = .ok (.if_icmp .ge 32, 3) := by decide +kernel
theorem dX12_keeps_17 : decode cX12_keeps 17 = .ok (.aload_n 0, 1) := by decide +kernel
theorem dX12_keeps_18 : decode cX12_keeps 18 = .ok (.sipush 155, 3) := by decide +kernel
theorem dX12_keeps_21 : decode cX12_keeps 21 = .ok (.iconst 5, 1) := by decide +kernel
theorem dX12_keeps_22 : decode cX12_keeps 22 = .ok (.iload_n 1, 1) := by decide +kernel
theorem dX12_keeps_23 : decode cX12_keeps 23 = .ok (.iadd, 1) := by decide +kernel
theorem dX12_keeps_24 : decode cX12_keeps 24 = .ok (.imul, 1) := by decide +kernel
theorem dX12_keeps_25 : decode cX12_keeps 25 = .ok (.sipush 155, 3) := by decide +kernel
theorem dX12_keeps_28 : decode cX12_keeps 28 = .ok (.iconst 5, 1) := by decide +kernel
theorem dX12_keeps_29 : decode cX12_keeps 29 = .ok (.iload_n 1, 1) := by decide +kernel
theorem dX12_keeps_30 : decode cX12_keeps 30 = .ok (.iadd, 1) := by decide +kernel
theorem dX12_keeps_31 : decode cX12_keeps 31 = .ok (.iconst 1, 1) := by decide +kernel
theorem dX12_keeps_32 : decode cX12_keeps 32 = .ok (.isub, 1) := by decide +kernel
theorem dX12_keeps_33 : decode cX12_keeps 33 = .ok (.imul, 1) := by decide +kernel
theorem dX12_keeps_34 : decode cX12_keeps 34 = .ok (.sipush 130, 3) := by decide +kernel
theorem dX12_keeps_37 : decode cX12_keeps 37 = .ok (.invokevirtual 275, 3) := by decide +kernel
theorem dX12_keeps_40 : decode cX12_keeps 40 = .ok (.iinc 1 1, 3) := by decide +kernel
theorem dX12_keeps_43 : decode cX12_keeps 43 = .ok (.goto (-32), 3) := by decide +kernel
theorem dX12_keeps_46 : decode cX12_keeps 46 = .ok (.aload_n 0, 1) := by decide +kernel
theorem dX12_keeps_47 : decode cX12_keeps 47 = .ok (.dup, 1) := by decide +kernel
theorem dX12_keeps_48 : decode cX12_keeps 48 = .ok (.getfield 272, 3) := by decide +kernel
theorem dX12_keeps_51 : decode cX12_keeps 51 = .ok (.iconst 1, 1) := by decide +kernel
theorem dX12_keeps_52 : decode cX12_keeps 52 = .ok (.isub, 1) := by decide +kernel
theorem dX12_keeps_53 : decode cX12_keeps 53 = .ok (.putfield 272, 3) := by decide +kernel
theorem dX12_keeps_56 : decode cX12_keeps 56 = .ok (.aload_n 0, 1) := by decide +kernel
theorem dX12_keeps_57 : decode cX12_keeps 57 = .ok (.sipush 3410, 3) := by decide +kernel
theorem dX12_keeps_60 : decode cX12_keeps 60 = .ok (.sipush 155, 3) := by decide +kernel
theorem dX12_keeps_63 : decode cX12_keeps 63 = .ok (.iconst 5, 1) := by decide +kernel
theorem dX12_keeps_64 : decode cX12_keeps 64 = .ok (.aload_n 0, 1) := by decide +kernel
theorem dX12_keeps_65 : decode cX12_keeps 65 = .ok (.getfield 272, 3) := by decide +kernel
theorem dX12_keeps_68 : decode cX12_keeps 68 = .ok (.iadd, 1) := by decide +kernel
theorem dX12_keeps_69 : decode cX12_keeps 69 = .ok (.imul, 1) := by decide +kernel
theorem dX12_keeps_70 : decode cX12_keeps 70 = .ok (.sipush 130, 3) := by decide +kernel
theorem dX12_keeps_73 : decode cX12_keeps 73 = .ok (.invokevirtual 275, 3) := by decide +kernel
theorem dX12_keeps_76 : decode cX12_keeps 76 = .ok (.aload_n 0, 1) := by decide +kernel
theorem dX12_keeps_77 : decode cX12_keeps 77 = .ok (.dup, 1) := by decide +kernel
theorem dX12_keeps_78 : decode cX12_keeps 78 = .ok (.getfield 272, 3) := by decide +kernel
theorem dX12_keeps_81 : decode cX12_keeps 81 = .ok (.iconst 1, 1) := by decide +kernel
theorem dX12_keeps_82 : decode cX12_keeps 82 = .ok (.iadd, 1) := by decide +kernel
theorem dX12_keeps_83 : decode cX12_keeps 83 = .ok (.putfield 272, 3) := by decide +kernel
theorem dX12_keeps_86 : decode cX12_keeps 86 = .ok (.return_, 1) := by decide +kernel
def fX12_keeps (a0 : Nat) (G : Hp) : RT := jn (fun (G1 : Hp) => bn (fX12_copies a0 3410 (imul 155 (iadd 5 (G1 a0 18))) 130 G1) fun _ G3 => bh (up G3 a0 18 (iadd (G3 a0 18) 1)) fun G4 => rt 0 G4) fun (K2 : Hp → RT) => if (G a0 18) = 16 then (bd 1 fun v6 => (lp (fun (_ : Int) (_ : Hp) => (none : RT)) 5000 (fun (rc9 : Int → Hp → RT) (v7 : Int) (G8 : Hp) => if v7 < 16 then (bn (fX12_copies a0 (imul 155 (iadd 5 v7)) (imul 155 (isub (iadd 5 v7) 1)) 130 G8) fun _ G11 => bd (iadd v7 1) fun v12 => rc9 v12 G11) else (bh (up G8 a0 18 (isub (G8 a0 18) 1)) fun G10 => K2 G10))) v6 G) else K2 G
set_option maxRecDepth 20000 in
set_option maxHeartbeats 4000000 in
theorem tX12_keeps (l : Launch) (x : WX) (hi : Inj x.2.2) (G : Hp) (a0 : Nat) (ha0 : kd a0 = 12) : Ct l x yX12_keeps cX12_keeps 2 none 1 129 129 [vR a0] G (fX12_keeps a0 G) := by
  refine ct_of (plainFor_of_name (by decide)) hi (Nat.le_refl _) (Nat.le_refl _) (Nat.le_of_ble_eq_true rfl) (fun cx F hd hn0 hnE hl hQ => ?_)
  subst hl
  have F : Fx cx x RX12 cX12_keeps 2 none := F
  show Y cx x 2 none 129 0 [(0, vR a0)] [] G _
  unfold fX12_keeps
  refine x_aload_n F dX12_keeps_0 rfl rfl rfl ?_
  refine s_getI F flX12_272 ha0 rfl dX12_keeps_1 rfl ?_
  refine x_bipush F dX12_keeps_4 ⟨by decide, by decide⟩ (by decide) rfl ?_
  refine x_jn (fun (K2 : Hp → RT) => ∀ (G1 : Hp), Y cx x 2 none 129 56 [(0, vR a0)] [] G1 (K2 G1)) ?_ (fun K2 hK2 => ?_)
  · intro G1
    refine x_aload_n F dX12_keeps_56 rfl rfl rfl ?_
    refine x_sipush F dX12_keeps_57 ⟨by decide, by decide⟩ (by decide) rfl ?_
    refine x_sipush F dX12_keeps_60 ⟨by decide, by decide⟩ (by decide) rfl ?_
    refine x_iconst F dX12_keeps_63 ⟨by decide, by decide⟩ rfl ?_
    refine x_aload_n F dX12_keeps_64 rfl rfl rfl ?_
    refine s_getI F flX12_272 ha0 rfl dX12_keeps_65 rfl ?_
    refine x_iadd F dX12_keeps_68 rfl ?_
    refine x_imul F dX12_keeps_69 rfl ?_
    refine x_sipush F dX12_keeps_70 ⟨by decide, by decide⟩ (by decide) rfl ?_
    refine s_callVv F [vI 3410, vI (imul 155 (iadd 5 (G1 a0 18))), vI 130] [] lkX12_275 mX12_copies rfl ha0 rfl hnE hn0 hd (tX12_copies cx.l x hi G1 a0 3410 (imul 155 (iadd 5 (G1 a0 18))) 130 ha0) rfl rfl dX12_keeps_73 rfl rfl (fun _ G3 => ?_)
    refine x_aload_n F dX12_keeps_76 rfl rfl rfl ?_
    refine x_dup F dX12_keeps_77 rfl rfl ?_
    refine s_getI F flX12_272 ha0 rfl dX12_keeps_78 rfl ?_
    refine x_iconst F dX12_keeps_81 ⟨by decide, by decide⟩ rfl ?_
    refine x_iadd F dX12_keeps_82 rfl ?_
    refine s_putI F fpX12_272 ha0 rfl dX12_keeps_83 rfl (fun G4 => ?_)
    exact x_vret F hnE hQ dX12_keeps_86
  · refine x_icmpne (pt := 56) F dX12_keeps_6 rfl rfl ?_ ?_
    · refine x_iconst F dX12_keeps_9 ⟨by decide, by decide⟩ rfl ?_
      refine x_istore_n F dX12_keeps_10 rfl (by decide) rfl rfl (fun v6 => ?_)
      show Y cx x _ _ _ _ [(0, vR a0), (1, vI v6)] _ _ _
      refine x_lp (fun (rc9 : Int → Hp → RT) => ∀ (v7 : Int) (G8 : Hp), Y cx x 2 none 129 11 [(0, vR a0), (1, vI v7)] [] G8 (rc9 v7 G8)) (fun _ _ => Y_none) (fun rc9 hrc9 v7 G8 => ?_) 5000 v6 G
      refine x_iload_n F dX12_keeps_11 rfl rfl rfl ?_
      refine x_bipush F dX12_keeps_12 ⟨by decide, by decide⟩ (by decide) rfl ?_
      refine x_icmpge (pt := 46) F dX12_keeps_14 rfl rfl ?_ ?_
      · refine x_aload_n F dX12_keeps_17 rfl rfl rfl ?_
        refine x_sipush F dX12_keeps_18 ⟨by decide, by decide⟩ (by decide) rfl ?_
        refine x_iconst F dX12_keeps_21 ⟨by decide, by decide⟩ rfl ?_
        refine x_iload_n F dX12_keeps_22 rfl rfl rfl ?_
        refine x_iadd F dX12_keeps_23 rfl ?_
        refine x_imul F dX12_keeps_24 rfl ?_
        refine x_sipush F dX12_keeps_25 ⟨by decide, by decide⟩ (by decide) rfl ?_
        refine x_iconst F dX12_keeps_28 ⟨by decide, by decide⟩ rfl ?_
        refine x_iload_n F dX12_keeps_29 rfl rfl rfl ?_
        refine x_iadd F dX12_keeps_30 rfl ?_
        refine x_iconst F dX12_keeps_31 ⟨by decide, by decide⟩ rfl ?_
        refine x_isub F dX12_keeps_32 rfl ?_
        refine x_imul F dX12_keeps_33 rfl ?_
        refine x_sipush F dX12_keeps_34 ⟨by decide, by decide⟩ (by decide) rfl ?_
        refine s_callVv F [vI (imul 155 (iadd 5 v7)), vI (imul 155 (isub (iadd 5 v7) 1)), vI 130] [] lkX12_275 mX12_copies rfl ha0 rfl hnE hn0 hd (tX12_copies cx.l x hi G8 a0 (imul 155 (iadd 5 v7)) (imul 155 (isub (iadd 5 v7) 1)) 130 ha0) rfl rfl dX12_keeps_37 rfl rfl (fun _ G11 => ?_)
        refine x_iinc F dX12_keeps_40 rfl (by decide) rfl rfl (fun v12 => ?_)
        show Y cx x _ _ _ _ [(0, vR a0), (1, vI v12)] _ _ _
        refine x_goto (pc' := 11) F dX12_keeps_43 rfl ?_
        exact hrc9 v12 G11
      · refine x_aload_n F dX12_keeps_46 rfl rfl rfl ?_
        refine x_dup F dX12_keeps_47 rfl rfl ?_
        refine s_getI F flX12_272 ha0 rfl dX12_keeps_48 rfl ?_
        refine x_iconst F dX12_keeps_51 ⟨by decide, by decide⟩ rfl ?_
        refine x_isub F dX12_keeps_52 rfl ?_
        refine s_putI F fpX12_272 ha0 rfl dX12_keeps_53 rfl (fun G10 => ?_)
        refine x_dp (L' := [(0, vR a0)]) [0] rfl ?_
        exact hK2 G10
    · exact hK2 G
theorem dX12_inSet_0 : decode cX12_inSet 0 = .ok (.iconst 0, 1) := by decide +kernel
theorem dX12_inSet_1 : decode cX12_inSet 1 = .ok (.istore_n 2, 1) := by decide +kernel
theorem dX12_inSet_2 : decode cX12_inSet 2 = .ok (.iconst 0, 1) := by decide +kernel
theorem dX12_inSet_3 : decode cX12_inSet 3 = .ok (.istore_n 3, 1) := by decide +kernel
theorem dX12_inSet_4 : decode cX12_inSet 4 = .ok (.iload_n 3, 1) := by decide +kernel
theorem dX12_inSet_5 : decode cX12_inSet 5 = .ok (.aload_n 0, 1) := by decide +kernel
theorem dX12_inSet_6 : decode cX12_inSet 6 = .ok (.invokevirtual 236, 3) := by decide +kernel
theorem dX12_inSet_9 : decode cX12_inSet 9 = .ok (.if_icmp .ge 28, 3) := by decide +kernel
theorem dX12_inSet_12 : decode cX12_inSet 12 = .ok (.iload_n 2, 1) := by decide +kernel
theorem dX12_inSet_13 : decode cX12_inSet 13 = .ok (.aload_n 0, 1) := by decide +kernel
theorem dX12_inSet_14 : decode cX12_inSet 14 = .ok (.iload_n 1, 1) := by decide +kernel
theorem dX12_inSet_15 : decode cX12_inSet 15 = .ok (.iload_n 3, 1) := by decide +kernel
theorem dX12_inSet_16 : decode cX12_inSet 16 = .ok (.invokevirtual 278, 3) := by decide +kernel
theorem dX12_inSet_19 : decode cX12_inSet 19 = .ok (.ifCond .eq 9, 3) := by decide +kernel
theorem dX12_inSet_22 : decode cX12_inSet 22 = .ok (.iconst 1, 1) := by decide +kernel
theorem dX12_inSet_23 : decode cX12_inSet 23 = .ok (.iload_n 3, 1) := by decide +kernel
theorem dX12_inSet_24 : decode cX12_inSet 24 = .ok (.ishl, 1) := by decide +kernel
theorem dX12_inSet_25 : decode cX12_inSet 25 = .ok (.goto 4, 3) := by decide +kernel
theorem dX12_inSet_28 : decode cX12_inSet 28 = .ok (.iconst 0, 1) := by decide +kernel
theorem dX12_inSet_29 : decode cX12_inSet 29 = .ok (.ior, 1) := by decide +kernel
theorem dX12_inSet_30 : decode cX12_inSet 30 = .ok (.istore_n 2, 1) := by decide +kernel
theorem dX12_inSet_31 : decode cX12_inSet 31 = .ok (.iinc 3 1, 3) := by decide +kernel
theorem dX12_inSet_34 : decode cX12_inSet 34 = .ok (.goto (-30), 3) := by decide +kernel
theorem dX12_inSet_37 : decode cX12_inSet 37 = .ok (.iload_n 2, 1) := by decide +kernel
theorem dX12_inSet_38 : decode cX12_inSet 38 = .ok (.ireturn, 1) := by decide +kernel
def fX12_inSet (a0 : Nat) (a1 : Int) (G : Hp) : RT := bd 0 fun v1 => bd 0 fun v2 => (lp (fun (_ : Int) (_ : Int) => (none : RT)) 5000 (fun (rc5 : Int → Int → RT) (v3 : Int) (v4 : Int) => bp (fX12_nodes a0 G) fun v6 => if v4 < v6 then (bp (fX12_isIn a0 a1 v4 G) fun v7 => jn (fun (v8 : Int) => bd (ior v3 v8) fun v10 => bd (iadd v4 1) fun v11 => rc5 v10 v11) fun (K9 : Int → RT) => if v7 = 0 then K9 0 else (K9 (ishl 1 v4))) else rt v3 G)) v1 v2
theorem pX12_inSet {G : Hp} {a0 : Nat} {a1 : Int} : PU G (fX12_inSet a0 a1 G) := by
  unfold fX12_inSet
  refine PU_bd (fun v1 => ?_)
  refine PU_bd (fun v2 => ?_)
  refine x_lp (fun (rc5 : Int → Int → RT) => ∀ (v3 : Int) (v4 : Int), PU G (rc5 v3 v4)) (fun _ _ => PU_none) (fun rc5 phrc5 v3 v4 => ?_) 5000 v1 v2
  refine PU_bp (fun v6 => ?_)
  refine PU_ite ?_ ?_
  · refine PU_bp (fun v7 => ?_)
    refine PU_jn (fun (K9 : Int → RT) => ∀ (v8 : Int), PU G (K9 v8)) ?_ (fun K9 phK9 => ?_)
    · intro v8
      refine PU_bd (fun v10 => ?_)
      refine PU_bd (fun v11 => ?_)
      exact phrc5 v10 v11
    · refine PU_ite ?_ ?_
      · exact phK9 0
      · exact phK9 (ishl 1 v4)
  · exact PU_rt
set_option maxRecDepth 20000 in
set_option maxHeartbeats 4000000 in
theorem tX12_inSet (l : Launch) (x : WX) (hi : Inj x.2.2) (G : Hp) (a0 : Nat) (a1 : Int) (ha0 : kd a0 = 12) : Ct l x yX12_inSet cX12_inSet 4 (some .int) 1 129 129 [vR a0, vI a1] G (fX12_inSet a0 a1 G) := by
  refine ct_of (plainFor_of_name (by decide)) hi (Nat.le_refl _) (Nat.le_refl _) (Nat.le_of_ble_eq_true rfl) (fun cx F hd hn0 hnE hl hQ => ?_)
  subst hl
  have F : Fx cx x RX12 cX12_inSet 4 (some .int) := F
  show Y cx x 4 (some .int) 129 0 [(0, vR a0), (1, vI a1)] [] G _
  unfold fX12_inSet
  refine x_iconst F dX12_inSet_0 ⟨by decide, by decide⟩ rfl ?_
  refine x_istore_n F dX12_inSet_1 rfl (by decide) rfl rfl (fun v1 => ?_)
  show Y cx x _ _ _ _ [(0, vR a0), (1, vI a1), (2, vI v1)] _ _ _
  refine x_iconst F dX12_inSet_2 ⟨by decide, by decide⟩ rfl ?_
  refine x_istore_n F dX12_inSet_3 rfl (by decide) rfl rfl (fun v2 => ?_)
  show Y cx x _ _ _ _ [(0, vR a0), (1, vI a1), (2, vI v1), (3, vI v2)] _ _ _
  refine x_lp (fun (rc5 : Int → Int → RT) => ∀ (v3 : Int) (v4 : Int), Y cx x 4 (some .int) 129 4 [(0, vR a0), (1, vI a1), (2, vI v3), (3, vI v4)] [] G (rc5 v3 v4)) (fun _ _ => Y_none) (fun rc5 hrc5 v3 v4 => ?_) 5000 v1 v2
  refine x_iload_n F dX12_inSet_4 rfl rfl rfl ?_
  refine x_aload_n F dX12_inSet_5 rfl rfl rfl ?_
  refine s_callVP F [] [vI v4] lkX12_236 mX12_nodes rfl ha0 rfl hnE hn0 hd pX12_nodes (tX12_nodes cx.l x hi G a0 ha0) rfl rfl dX12_inSet_6 rfl rfl (fun v6 => ?_)
  refine x_icmpge (pt := 37) F dX12_inSet_9 rfl rfl ?_ ?_
  · refine x_iload_n F dX12_inSet_12 rfl rfl rfl ?_
    refine x_aload_n F dX12_inSet_13 rfl rfl rfl ?_
    refine x_iload_n F dX12_inSet_14 rfl rfl rfl ?_
    refine x_iload_n F dX12_inSet_15 rfl rfl rfl ?_
    refine s_callVP F [vI a1, vI v4] [vI v3] lkX12_278 mX12_isIn rfl ha0 rfl hnE hn0 hd pX12_isIn (tX12_isIn cx.l x hi G a0 a1 v4 ha0) rfl rfl dX12_inSet_16 rfl rfl (fun v7 => ?_)
    refine x_jn (fun (K9 : Int → RT) => ∀ (v8 : Int), Y cx x 4 (some .int) 129 29 [(0, vR a0), (1, vI a1), (3, vI v4)] [vI v8, vI v3] G (K9 v8)) ?_ (fun K9 hK9 => ?_)
    · intro v8
      refine x_ior F dX12_inSet_29 rfl ?_
      refine x_istore_n F dX12_inSet_30 rfl (by decide) rfl rfl (fun v10 => ?_)
      show Y cx x _ _ _ _ [(0, vR a0), (1, vI a1), (3, vI v4), (2, vI v10)] _ _ _
      refine x_iinc F dX12_inSet_31 rfl (by decide) rfl rfl (fun v11 => ?_)
      show Y cx x _ _ _ _ [(0, vR a0), (1, vI a1), (3, vI v11), (2, vI v10)] _ _ _
      refine x_goto (pc' := 4) F dX12_inSet_34 rfl ?_
      refine x_dp (L' := [(0, vR a0), (1, vI a1), (2, vI v10), (3, vI v11)]) [0, 1, 3, 2] rfl ?_
      exact hrc5 v10 v11
    · refine x_ifeq (pt := 28) F dX12_inSet_19 rfl rfl ?_ ?_
      · refine x_iconst F dX12_inSet_28 ⟨by decide, by decide⟩ rfl ?_
        refine x_dp (L' := [(0, vR a0), (1, vI a1), (3, vI v4)]) [0, 1, 3] rfl ?_
        exact hK9 0
      · refine x_iconst F dX12_inSet_22 ⟨by decide, by decide⟩ rfl ?_
        refine x_iload_n F dX12_inSet_23 rfl rfl rfl ?_
        refine x_ishl F dX12_inSet_24 rfl ?_
        refine x_goto (pc' := 29) F dX12_inSet_25 rfl ?_
        refine x_dp (L' := [(0, vR a0), (1, vI a1), (3, vI v4)]) [0, 1, 3] rfl ?_
        exact hK9 (ishl 1 v4)
  · refine x_iload_n F dX12_inSet_37 rfl rfl rfl ?_
    exact x_iret F hnE hQ dX12_inSet_38
theorem dX12_way_0 : decode cX12_way 0 = .ok (.iload_n 2, 1) := by decide +kernel
theorem dX12_way_1 : decode cX12_way 1 = .ok (.iload_n 1, 1) := by decide +kernel
theorem dX12_way_2 : decode cX12_way 2 = .ok (.if_icmp .le 9, 3) := by decide +kernel
theorem dX12_way_5 : decode cX12_way 5 = .ok (.iload_n 2, 1) := by decide +kernel
theorem dX12_way_6 : decode cX12_way 6 = .ok (.iload_n 1, 1) := by decide +kernel
theorem dX12_way_7 : decode cX12_way 7 = .ok (.isub, 1) := by decide +kernel
theorem dX12_way_8 : decode cX12_way 8 = .ok (.goto 11, 3) := by decide +kernel
theorem dX12_way_11 : decode cX12_way 11 = .ok (.iload_n 2, 1) := by decide +kernel
theorem dX12_way_12 : decode cX12_way 12 = .ok (.iload_n 1, 1) := by decide +kernel
theorem dX12_way_13 : decode cX12_way 13 = .ok (.isub, 1) := by decide +kernel
theorem dX12_way_14 : decode cX12_way 14 = .ok (.aload_n 0, 1) := by decide +kernel
theorem dX12_way_15 : decode cX12_way 15 = .ok (.invokevirtual 257, 3) := by decide +kernel
theorem dX12_way_18 : decode cX12_way 18 = .ok (.iadd, 1) := by decide +kernel
theorem dX12_way_19 : decode cX12_way 19 = .ok (.ireturn, 1) := by decide +kernel
def fX12_way (a0 : Nat) (a1 : Int) (a2 : Int) (G : Hp) : RT := if a1 < a2 then (rt (isub a2 a1) G) else (bp (fX12_circle a0 G) fun v1 => rt (iadd (isub a2 a1) v1) G)
theorem pX12_way {G : Hp} {a0 : Nat} {a1 : Int} {a2 : Int} : PU G (fX12_way a0 a1 a2 G) := by
  unfold fX12_way
  refine PU_ite ?_ ?_
  · exact PU_rt
  · refine PU_bp (fun v1 => ?_)
    exact PU_rt
set_option maxRecDepth 20000 in
set_option maxHeartbeats 4000000 in
theorem tX12_way (l : Launch) (x : WX) (hi : Inj x.2.2) (G : Hp) (a0 : Nat) (a1 : Int) (a2 : Int) (ha0 : kd a0 = 12) : Ct l x yX12_way cX12_way 3 (some .int) 1 129 129 [vR a0, vI a1, vI a2] G (fX12_way a0 a1 a2 G) := by
  refine ct_of (plainFor_of_name (by decide)) hi (Nat.le_refl _) (Nat.le_refl _) (Nat.le_of_ble_eq_true rfl) (fun cx F hd hn0 hnE hl hQ => ?_)
  subst hl
  have F : Fx cx x RX12 cX12_way 3 (some .int) := F
  show Y cx x 3 (some .int) 129 0 [(0, vR a0), (1, vI a1), (2, vI a2)] [] G _
  unfold fX12_way
  refine x_iload_n F dX12_way_0 rfl rfl rfl ?_
  refine x_iload_n F dX12_way_1 rfl rfl rfl ?_
  refine x_icmple (pt := 11) F dX12_way_2 rfl rfl ?_ ?_
  · refine x_iload_n F dX12_way_5 rfl rfl rfl ?_
    refine x_iload_n F dX12_way_6 rfl rfl rfl ?_
    refine x_isub F dX12_way_7 rfl ?_
    refine x_goto (pc' := 19) F dX12_way_8 rfl ?_
    exact x_iret F hnE hQ dX12_way_19
  · refine x_iload_n F dX12_way_11 rfl rfl rfl ?_
    refine x_iload_n F dX12_way_12 rfl rfl rfl ?_
    refine x_isub F dX12_way_13 rfl ?_
    refine x_aload_n F dX12_way_14 rfl rfl rfl ?_
    refine s_callVP F [] [vI (isub a2 a1)] lkX12_257 mX12_circle rfl ha0 rfl hnE hn0 hd pX12_circle (tX12_circle cx.l x hi G a0 ha0) rfl rfl dX12_way_15 rfl rfl (fun v1 => ?_)
    refine x_iadd F dX12_way_18 rfl ?_
    exact x_iret F hnE hQ dX12_way_19
theorem dX12_inAt_0 : decode cX12_inAt 0 = .ok (.iconst (-1), 1) := by decide +kernel
theorem dX12_inAt_1 : decode cX12_inAt 1 = .ok (.istore_n 3, 1) := by decide +kernel
theorem dX12_inAt_2 : decode cX12_inAt 2 = .ok (.iconst 0, 1) := by decide +kernel
theorem dX12_inAt_3 : decode cX12_inAt 3 = .ok (.istore 4, 2) := by decide +kernel
theorem dX12_inAt_5 : decode cX12_inAt 5 = .ok (.iload 4, 2) := by decide +kernel
theorem dX12_inAt_7 : decode cX12_inAt 7 = .ok (.aload_n 0, 1) := by decide +kernel
theorem dX12_inAt_8 : decode cX12_inAt 8 = .ok (.invokevirtual 236, 3) := by decide +kernel
theorem dX12_inAt_11 : decode cX12_inAt 11 = .ok (.if_icmp .ge 41, 3) := by decide +kernel
theorem dX12_inAt_14 : decode cX12_inAt 14 = .ok (.aload_n 0, 1) := by decide +kernel
theorem dX12_inAt_15 : decode cX12_inAt 15 = .ok (.iload_n 1, 1) := by decide +kernel
theorem dX12_inAt_16 : decode cX12_inAt 16 = .ok (.iload 4, 2) := by decide +kernel
theorem dX12_inAt_18 : decode cX12_inAt 18 = .ok (.invokevirtual 278, 3) := by decide +kernel
theorem dX12_inAt_21 : decode cX12_inAt 21 = .ok (.ifCond .eq 23, 3) := by decide +kernel
theorem dX12_inAt_24 : decode cX12_inAt 24 = .ok (.aload_n 0, 1) := by decide +kernel
theorem dX12_inAt_25 : decode cX12_inAt 25 = .ok (.iload 4, 2) := by decide +kernel
theorem dX12_inAt_27 : decode cX12_inAt 27 = .ok (.invokevirtual 282, 3) := by decide +kernel
theorem dX12_inAt_30 : decode cX12_inAt 30 = .ok (.iload_n 2, 1) := by decide +kernel
theorem dX12_inAt_31 : decode cX12_inAt 31 = .ok (.aload_n 0, 1) := by decide +kernel
theorem dX12_inAt_32 : decode cX12_inAt 32 = .ok (.invokevirtual 257, 3) := by decide +kernel
theorem dX12_inAt_35 : decode cX12_inAt 35 = .ok (.irem, 1) := by decide +kernel
theorem dX12_inAt_36 : decode cX12_inAt 36 = .ok (.if_icmp .ne 8, 3) := by decide +kernel
theorem dX12_inAt_39 : decode cX12_inAt 39 = .ok (.iload 4, 2) := by decide +kernel
theorem dX12_inAt_41 : decode cX12_inAt 41 = .ok (.goto 4, 3) := by decide +kernel
theorem dX12_inAt_44 : decode cX12_inAt 44 = .ok (.iload_n 3, 1) := by decide +kernel
theorem dX12_inAt_45 : decode cX12_inAt 45 = .ok (.istore_n 3, 1) := by decide +kernel
theorem dX12_inAt_46 : decode cX12_inAt 46 = .ok (.iinc 4 1, 3) := by decide +kernel
theorem dX12_inAt_49 : decode cX12_inAt 49 = .ok (.goto (-44), 3) := by decide +kernel
theorem dX12_inAt_52 : decode cX12_inAt 52 = .ok (.iload_n 3, 1) := by decide +kernel
theorem dX12_inAt_53 : decode cX12_inAt 53 = .ok (.ireturn, 1) := by decide +kernel
def fX12_inAt (a0 : Nat) (a1 : Int) (a2 : Int) (G : Hp) : RT := bd ((-1)) fun v1 => bd 0 fun v2 => (lp (fun (_ : Int) (_ : Int) => (none : RT)) 5000 (fun (rc5 : Int → Int → RT) (v3 : Int) (v4 : Int) => bp (fX12_nodes a0 G) fun v6 => if v4 < v6 then (bp (fX12_isIn a0 a1 v4 G) fun v7 => jn (fun (v8 : Int) => bd v8 fun v10 => bd (iadd v4 1) fun v11 => rc5 v10 v11) fun (K9 : Int → RT) => jn (K9 v3) fun (K12 : RT) => if v7 = 0 then K12 else (bp (fX12_placeOf a0 v4 G) fun v13 => bp (fX12_circle a0 G) fun v14 => nz v14 (if v13 = (irem a2 v14) then K9 v4 else K12))) else rt v3 G)) v1 v2
theorem pX12_inAt {G : Hp} {a0 : Nat} {a1 : Int} {a2 : Int} : PU G (fX12_inAt a0 a1 a2 G) := by
  unfold fX12_inAt
  refine PU_bd (fun v1 => ?_)
  refine PU_bd (fun v2 => ?_)
  refine x_lp (fun (rc5 : Int → Int → RT) => ∀ (v3 : Int) (v4 : Int), PU G (rc5 v3 v4)) (fun _ _ => PU_none) (fun rc5 phrc5 v3 v4 => ?_) 5000 v1 v2
  refine PU_bp (fun v6 => ?_)
  refine PU_ite ?_ ?_
  · refine PU_bp (fun v7 => ?_)
    refine PU_jn (fun (K9 : Int → RT) => ∀ (v8 : Int), PU G (K9 v8)) ?_ (fun K9 phK9 => ?_)
    · intro v8
      refine PU_bd (fun v10 => ?_)
      refine PU_bd (fun v11 => ?_)
      exact phrc5 v10 v11
    · refine PU_jn (fun (K12 : RT) => PU G (K12)) ?_ (fun K12 phK12 => ?_)
      · exact phK9 v3
      · refine PU_ite ?_ ?_
        · exact phK12
        · refine PU_bp (fun v13 => ?_)
          refine PU_bp (fun v14 => ?_)
          refine PU_nz ?_
          refine PU_ite ?_ ?_
          · exact phK9 v4
          · exact phK12
  · exact PU_rt
set_option maxRecDepth 20000 in
set_option maxHeartbeats 4000000 in
theorem tX12_inAt (l : Launch) (x : WX) (hi : Inj x.2.2) (G : Hp) (a0 : Nat) (a1 : Int) (a2 : Int) (ha0 : kd a0 = 12) : Ct l x yX12_inAt cX12_inAt 5 (some .int) 1 129 129 [vR a0, vI a1, vI a2] G (fX12_inAt a0 a1 a2 G) := by
  refine ct_of (plainFor_of_name (by decide)) hi (Nat.le_refl _) (Nat.le_refl _) (Nat.le_of_ble_eq_true rfl) (fun cx F hd hn0 hnE hl hQ => ?_)
  subst hl
  have F : Fx cx x RX12 cX12_inAt 5 (some .int) := F
  show Y cx x 5 (some .int) 129 0 [(0, vR a0), (1, vI a1), (2, vI a2)] [] G _
  unfold fX12_inAt
  refine x_iconst F dX12_inAt_0 ⟨by decide, by decide⟩ rfl ?_
  refine x_istore_n F dX12_inAt_1 rfl (by decide) rfl rfl (fun v1 => ?_)
  show Y cx x _ _ _ _ [(0, vR a0), (1, vI a1), (2, vI a2), (3, vI v1)] _ _ _
  refine x_iconst F dX12_inAt_2 ⟨by decide, by decide⟩ rfl ?_
  refine x_istore F dX12_inAt_3 (by decide) rfl rfl (fun v2 => ?_)
  show Y cx x _ _ _ _ [(0, vR a0), (1, vI a1), (2, vI a2), (3, vI v1), (4, vI v2)] _ _ _
  refine x_lp (fun (rc5 : Int → Int → RT) => ∀ (v3 : Int) (v4 : Int), Y cx x 5 (some .int) 129 5 [(0, vR a0), (1, vI a1), (2, vI a2), (3, vI v3), (4, vI v4)] [] G (rc5 v3 v4)) (fun _ _ => Y_none) (fun rc5 hrc5 v3 v4 => ?_) 5000 v1 v2
  refine x_iload F dX12_inAt_5 rfl rfl ?_
  refine x_aload_n F dX12_inAt_7 rfl rfl rfl ?_
  refine s_callVP F [] [vI v4] lkX12_236 mX12_nodes rfl ha0 rfl hnE hn0 hd pX12_nodes (tX12_nodes cx.l x hi G a0 ha0) rfl rfl dX12_inAt_8 rfl rfl (fun v6 => ?_)
  refine x_icmpge (pt := 52) F dX12_inAt_11 rfl rfl ?_ ?_
  · refine x_aload_n F dX12_inAt_14 rfl rfl rfl ?_
    refine x_iload_n F dX12_inAt_15 rfl rfl rfl ?_
    refine x_iload F dX12_inAt_16 rfl rfl ?_
    refine s_callVP F [vI a1, vI v4] [] lkX12_278 mX12_isIn rfl ha0 rfl hnE hn0 hd pX12_isIn (tX12_isIn cx.l x hi G a0 a1 v4 ha0) rfl rfl dX12_inAt_18 rfl rfl (fun v7 => ?_)
    refine x_jn (fun (K9 : Int → RT) => ∀ (v8 : Int), Y cx x 5 (some .int) 129 45 [(0, vR a0), (1, vI a1), (2, vI a2), (4, vI v4)] [vI v8] G (K9 v8)) ?_ (fun K9 hK9 => ?_)
    · intro v8
      refine x_istore_n F dX12_inAt_45 rfl (by decide) rfl rfl (fun v10 => ?_)
      show Y cx x _ _ _ _ [(0, vR a0), (1, vI a1), (2, vI a2), (4, vI v4), (3, vI v10)] _ _ _
      refine x_iinc F dX12_inAt_46 rfl (by decide) rfl rfl (fun v11 => ?_)
      show Y cx x _ _ _ _ [(0, vR a0), (1, vI a1), (2, vI a2), (4, vI v11), (3, vI v10)] _ _ _
      refine x_goto (pc' := 5) F dX12_inAt_49 rfl ?_
      refine x_dp (L' := [(0, vR a0), (1, vI a1), (2, vI a2), (3, vI v10), (4, vI v11)]) [0, 1, 2, 4, 3] rfl ?_
      exact hrc5 v10 v11
    · refine x_jn (fun (K12 : RT) => Y cx x 5 (some .int) 129 44 [(0, vR a0), (1, vI a1), (2, vI a2), (3, vI v3), (4, vI v4)] [] G K12) ?_ (fun K12 hK12 => ?_)
      · refine x_iload_n F dX12_inAt_44 rfl rfl rfl ?_
        refine x_dp (L' := [(0, vR a0), (1, vI a1), (2, vI a2), (4, vI v4)]) [0, 1, 2, 4] rfl ?_
        exact hK9 v3
      · refine x_ifeq (pt := 44) F dX12_inAt_21 rfl rfl ?_ ?_
        · exact hK12
        · refine x_aload_n F dX12_inAt_24 rfl rfl rfl ?_
          refine x_iload F dX12_inAt_25 rfl rfl ?_
          refine s_callVP F [vI v4] [] lkX12_282 mX12_placeOf rfl ha0 rfl hnE hn0 hd pX12_placeOf (tX12_placeOf cx.l x hi G a0 v4 ha0) rfl rfl dX12_inAt_27 rfl rfl (fun v13 => ?_)
          refine x_iload_n F dX12_inAt_30 rfl rfl rfl ?_
          refine x_aload_n F dX12_inAt_31 rfl rfl rfl ?_
          refine s_callVP F [] [vI a2, vI v13] lkX12_257 mX12_circle rfl ha0 rfl hnE hn0 hd pX12_circle (tX12_circle cx.l x hi G a0 ha0) rfl rfl dX12_inAt_32 rfl rfl (fun v14 => ?_)
          refine x_irem F dX12_inAt_35 rfl ?_
          refine x_icmpne (pt := 44) F dX12_inAt_36 rfl rfl ?_ ?_
          · refine x_iload F dX12_inAt_39 rfl rfl ?_
            refine x_goto (pc' := 45) F dX12_inAt_41 rfl ?_
            refine x_dp (L' := [(0, vR a0), (1, vI a1), (2, vI a2), (4, vI v4)]) [0, 1, 2, 4] rfl ?_
            exact hK9 v4
          · exact hK12
  · refine x_iload_n F dX12_inAt_52 rfl rfl rfl ?_
    exact x_iret F hnE hQ dX12_inAt_53
theorem dX12_firstOf_0 : decode cX12_firstOf 0 = .ok (.iconst 0, 1) := by decide +kernel
theorem dX12_firstOf_1 : decode cX12_firstOf 1 = .ok (.istore_n 3, 1) := by decide +kernel
theorem dX12_firstOf_2 : decode cX12_firstOf 2 = .ok (.iload_n 3, 1) := by decide +kernel
theorem dX12_firstOf_3 : decode cX12_firstOf 3 = .ok (.aload_n 0, 1) := by decide +kernel
theorem dX12_firstOf_4 : decode cX12_firstOf 4 = .ok (.iload_n 1, 1) := by decide +kernel
theorem dX12_firstOf_5 : decode cX12_firstOf 5 = .ok (.iload_n 2, 1) := by decide +kernel
theorem dX12_firstOf_6 : decode cX12_firstOf 6 = .ok (.invokevirtual 291, 3) := by decide +kernel
theorem dX12_firstOf_9 : decode cX12_firstOf 9 = .ok (.if_icmp .ge 32, 3) := by decide +kernel
theorem dX12_firstOf_12 : decode cX12_firstOf 12 = .ok (.aload_n 0, 1) := by decide +kernel
theorem dX12_firstOf_13 : decode cX12_firstOf 13 = .ok (.iload_n 1, 1) := by decide +kernel
theorem dX12_firstOf_14 : decode cX12_firstOf 14 = .ok (.aload_n 0, 1) := by decide +kernel
theorem dX12_firstOf_15 : decode cX12_firstOf 15 = .ok (.iload_n 1, 1) := by decide +kernel
theorem dX12_firstOf_16 : decode cX12_firstOf 16 = .ok (.iload_n 2, 1) := by decide +kernel
theorem dX12_firstOf_17 : decode cX12_firstOf 17 = .ok (.iload_n 3, 1) := by decide +kernel
theorem dX12_firstOf_18 : decode cX12_firstOf 18 = .ok (.invokevirtual 294, 3) := by decide +kernel
theorem dX12_firstOf_21 : decode cX12_firstOf 21 = .ok (.invokevirtual 278, 3) := by decide +kernel
theorem dX12_firstOf_24 : decode cX12_firstOf 24 = .ok (.ifCond .eq 11, 3) := by decide +kernel
theorem dX12_firstOf_27 : decode cX12_firstOf 27 = .ok (.aload_n 0, 1) := by decide +kernel
theorem dX12_firstOf_28 : decode cX12_firstOf 28 = .ok (.iload_n 1, 1) := by decide +kernel
theorem dX12_firstOf_29 : decode cX12_firstOf 29 = .ok (.iload_n 2, 1) := by decide +kernel
theorem dX12_firstOf_30 : decode cX12_firstOf 30 = .ok (.iload_n 3, 1) := by decide +kernel
theorem dX12_firstOf_31 : decode cX12_firstOf 31 = .ok (.invokevirtual 294, 3) := by decide +kernel
theorem dX12_firstOf_34 : decode cX12_firstOf 34 = .ok (.ireturn, 1) := by decide +kernel
theorem dX12_firstOf_35 : decode cX12_firstOf 35 = .ok (.iinc 3 1, 3) := by decide +kernel
theorem dX12_firstOf_38 : decode cX12_firstOf 38 = .ok (.goto (-36), 3) := by decide +kernel
theorem dX12_firstOf_41 : decode cX12_firstOf 41 = .ok (.iconst (-1), 1) := by decide +kernel
theorem dX12_firstOf_42 : decode cX12_firstOf 42 = .ok (.ireturn, 1) := by decide +kernel
def fX12_firstOf (a0 : Nat) (a1 : Int) (a2 : Int) (G : Hp) : RT := bd 0 fun v1 => (lp (fun (_ : Int) => (none : RT)) 5000 (fun (rc3 : Int → RT) (v2 : Int) => bp (fX12_longOf a0 a1 a2 G) fun v4 => if v2 < v4 then (bp (fX12_listedOf a0 a1 a2 v2 G) fun v5 => bp (fX12_isIn a0 a1 v5 G) fun v6 => if v6 = 0 then (bd (iadd v2 1) fun v7 => rc3 v7) else (bp (fX12_listedOf a0 a1 a2 v2 G) fun v8 => rt v8 G)) else (rt ((-1)) G))) v1
theorem pX12_firstOf {G : Hp} {a0 : Nat} {a1 : Int} {a2 : Int} : PU G (fX12_firstOf a0 a1 a2 G) := by
  unfold fX12_firstOf
  refine PU_bd (fun v1 => ?_)
  refine x_lp (fun (rc3 : Int → RT) => ∀ (v2 : Int), PU G (rc3 v2)) (fun _ => PU_none) (fun rc3 phrc3 v2 => ?_) 5000 v1
  refine PU_bp (fun v4 => ?_)
  refine PU_ite ?_ ?_
  · refine PU_bp (fun v5 => ?_)
    refine PU_bp (fun v6 => ?_)
    refine PU_ite ?_ ?_
    · refine PU_bd (fun v7 => ?_)
      exact phrc3 v7
    · refine PU_bp (fun v8 => ?_)
      exact PU_rt
  · exact PU_rt
set_option maxRecDepth 20000 in
set_option maxHeartbeats 4000000 in
theorem tX12_firstOf (l : Launch) (x : WX) (hi : Inj x.2.2) (G : Hp) (a0 : Nat) (a1 : Int) (a2 : Int) (ha0 : kd a0 = 12) : Ct l x yX12_firstOf cX12_firstOf 4 (some .int) 1 129 129 [vR a0, vI a1, vI a2] G (fX12_firstOf a0 a1 a2 G) := by
  refine ct_of (plainFor_of_name (by decide)) hi (Nat.le_refl _) (Nat.le_refl _) (Nat.le_of_ble_eq_true rfl) (fun cx F hd hn0 hnE hl hQ => ?_)
  subst hl
  have F : Fx cx x RX12 cX12_firstOf 4 (some .int) := F
  show Y cx x 4 (some .int) 129 0 [(0, vR a0), (1, vI a1), (2, vI a2)] [] G _
  unfold fX12_firstOf
  refine x_iconst F dX12_firstOf_0 ⟨by decide, by decide⟩ rfl ?_
  refine x_istore_n F dX12_firstOf_1 rfl (by decide) rfl rfl (fun v1 => ?_)
  show Y cx x _ _ _ _ [(0, vR a0), (1, vI a1), (2, vI a2), (3, vI v1)] _ _ _
  refine x_lp (fun (rc3 : Int → RT) => ∀ (v2 : Int), Y cx x 4 (some .int) 129 2 [(0, vR a0), (1, vI a1), (2, vI a2), (3, vI v2)] [] G (rc3 v2)) (fun _ => Y_none) (fun rc3 hrc3 v2 => ?_) 5000 v1
  refine x_iload_n F dX12_firstOf_2 rfl rfl rfl ?_
  refine x_aload_n F dX12_firstOf_3 rfl rfl rfl ?_
  refine x_iload_n F dX12_firstOf_4 rfl rfl rfl ?_
  refine x_iload_n F dX12_firstOf_5 rfl rfl rfl ?_
  refine s_callVP F [vI a1, vI a2] [vI v2] lkX12_291 mX12_longOf rfl ha0 rfl hnE hn0 hd pX12_longOf (tX12_longOf cx.l x hi G a0 a1 a2 ha0) rfl rfl dX12_firstOf_6 rfl rfl (fun v4 => ?_)
  refine x_icmpge (pt := 41) F dX12_firstOf_9 rfl rfl ?_ ?_
  · refine x_aload_n F dX12_firstOf_12 rfl rfl rfl ?_
    refine x_iload_n F dX12_firstOf_13 rfl rfl rfl ?_
    refine x_aload_n F dX12_firstOf_14 rfl rfl rfl ?_
    refine x_iload_n F dX12_firstOf_15 rfl rfl rfl ?_
    refine x_iload_n F dX12_firstOf_16 rfl rfl rfl ?_
    refine x_iload_n F dX12_firstOf_17 rfl rfl rfl ?_
    refine s_callVP F [vI a1, vI a2, vI v2] [vI a1, vR a0] lkX12_294 mX12_listedOf rfl ha0 rfl hnE hn0 hd pX12_listedOf (tX12_listedOf cx.l x hi G a0 a1 a2 v2 ha0) rfl rfl dX12_firstOf_18 rfl rfl (fun v5 => ?_)
    refine s_callVP F [vI a1, vI v5] [] lkX12_278 mX12_isIn rfl ha0 rfl hnE hn0 hd pX12_isIn (tX12_isIn cx.l x hi G a0 a1 v5 ha0) rfl rfl dX12_firstOf_21 rfl rfl (fun v6 => ?_)
    refine x_ifeq (pt := 35) F dX12_firstOf_24 rfl rfl ?_ ?_
    · refine x_iinc F dX12_firstOf_35 rfl (by decide) rfl rfl (fun v7 => ?_)
      show Y cx x _ _ _ _ [(0, vR a0), (1, vI a1), (2, vI a2), (3, vI v7)] _ _ _
      refine x_goto (pc' := 2) F dX12_firstOf_38 rfl ?_
      exact hrc3 v7
    · refine x_aload_n F dX12_firstOf_27 rfl rfl rfl ?_
      refine x_iload_n F dX12_firstOf_28 rfl rfl rfl ?_
      refine x_iload_n F dX12_firstOf_29 rfl rfl rfl ?_
      refine x_iload_n F dX12_firstOf_30 rfl rfl rfl ?_
      refine s_callVP F [vI a1, vI a2, vI v2] [] lkX12_294 mX12_listedOf rfl ha0 rfl hnE hn0 hd pX12_listedOf (tX12_listedOf cx.l x hi G a0 a1 a2 v2 ha0) rfl rfl dX12_firstOf_31 rfl rfl (fun v8 => ?_)
      exact x_iret F hnE hQ dX12_firstOf_34
  · refine x_iconst F dX12_firstOf_41 ⟨by decide, by decide⟩ rfl ?_
    exact x_iret F hnE hQ dX12_firstOf_42
theorem dX12_lists_0 : decode cX12_lists 0 = .ok (.aload_n 0, 1) := by decide +kernel
theorem dX12_lists_1 : decode cX12_lists 1 = .ok (.iload_n 2, 1) := by decide +kernel
theorem dX12_lists_2 : decode cX12_lists 2 = .ok (.invokevirtual 319, 3) := by decide +kernel
theorem dX12_lists_5 : decode cX12_lists 5 = .ok (.iconst 1, 1) := by decide +kernel
theorem dX12_lists_6 : decode cX12_lists 6 = .ok (.if_icmp .ne 7, 3) := by decide +kernel
theorem dX12_lists_9 : decode cX12_lists 9 = .ok (.iconst 1, 1) := by decide +kernel
theorem dX12_lists_10 : decode cX12_lists 10 = .ok (.goto 9, 3) := by decide +kernel
theorem dX12_lists_13 : decode cX12_lists 13 = .ok (.aload_n 0, 1) := by decide +kernel
theorem dX12_lists_14 : decode cX12_lists 14 = .ok (.getfield 87, 3) := by decide +kernel
theorem dX12_lists_17 : decode cX12_lists 17 = .ok (.iconst 1, 1) := by decide +kernel
theorem dX12_lists_18 : decode cX12_lists 18 = .ok (.iaload, 1) := by decide +kernel
theorem dX12_lists_19 : decode cX12_lists 19 = .ok (.istore 4, 2) := by decide +kernel
theorem dX12_lists_21 : decode cX12_lists 21 = .ok (.iconst 1, 1) := by decide +kernel
theorem dX12_lists_22 : decode cX12_lists 22 = .ok (.istore 5, 2) := by decide +kernel
theorem dX12_lists_24 : decode cX12_lists 24 = .ok (.aload_n 0, 1) := by decide +kernel
theorem dX12_lists_25 : decode cX12_lists 25 = .ok (.getfield 118, 3) := by decide +kernel
theorem dX12_lists_28 : decode cX12_lists 28 = .ok (.iconst 0, 1) := by decide +kernel
theorem dX12_lists_29 : decode cX12_lists 29 = .ok (.iload_n 3, 1) := by decide +kernel
theorem dX12_lists_30 : decode cX12_lists 30 = .ok (.iastore, 1) := by decide +kernel
theorem dX12_lists_31 : decode cX12_lists 31 = .ok (.iconst 0, 1) := by decide +kernel
theorem dX12_lists_32 : decode cX12_lists 32 = .ok (.istore 6, 2) := by decide +kernel
theorem dX12_lists_34 : decode cX12_lists 34 = .ok (.iload 6, 2) := by decide +kernel
theorem dX12_lists_36 : decode cX12_lists 36 = .ok (.aload_n 0, 1) := by decide +kernel
theorem dX12_lists_37 : decode cX12_lists 37 = .ok (.iload_n 1, 1) := by decide +kernel
theorem dX12_lists_38 : decode cX12_lists 38 = .ok (.iload_n 3, 1) := by decide +kernel
theorem dX12_lists_39 : decode cX12_lists 39 = .ok (.invokevirtual 291, 3) := by decide +kernel
theorem dX12_lists_42 : decode cX12_lists 42 = .ok (.if_icmp .ge 96, 3) := by decide +kernel
theorem dX12_lists_45 : decode cX12_lists 45 = .ok (.aload_n 0, 1) := by decide +kernel
theorem dX12_lists_46 : decode cX12_lists 46 = .ok (.iload_n 1, 1) := by decide +kernel
theorem dX12_lists_47 : decode cX12_lists 47 = .ok (.iload_n 3, 1) := by decide +kernel
theorem dX12_lists_48 : decode cX12_lists 48 = .ok (.iload 6, 2) := by decide +kernel
theorem dX12_lists_50 : decode cX12_lists 50 = .ok (.invokevirtual 294, 3) := by decide +kernel
theorem dX12_lists_53 : decode cX12_lists 53 = .ok (.istore 7, 2) := by decide +kernel
theorem dX12_lists_55 : decode cX12_lists 55 = .ok (.iload 7, 2) := by decide +kernel
theorem dX12_lists_57 : decode cX12_lists 57 = .ok (.iload_n 2, 1) := by decide +kernel
theorem dX12_lists_58 : decode cX12_lists 58 = .ok (.if_icmp .eq 14, 3) := by decide +kernel
theorem dX12_lists_61 : decode cX12_lists 61 = .ok (.iload 5, 2) := by decide +kernel
theorem dX12_lists_63 : decode cX12_lists 63 = .ok (.iload 4, 2) := by decide +kernel
theorem dX12_lists_65 : decode cX12_lists 65 = .ok (.if_icmp .ge 7, 3) := by decide +kernel
theorem dX12_lists_68 : decode cX12_lists 68 = .ok (.iconst 1, 1) := by decide +kernel
theorem dX12_lists_69 : decode cX12_lists 69 = .ok (.goto 4, 3) := by decide +kernel
theorem dX12_lists_72 : decode cX12_lists 72 = .ok (.iconst 0, 1) := by decide +kernel
theorem dX12_lists_73 : decode cX12_lists 73 = .ok (.istore 8, 2) := by decide +kernel
theorem dX12_lists_75 : decode cX12_lists 75 = .ok (.iconst 0, 1) := by decide +kernel
theorem dX12_lists_76 : decode cX12_lists 76 = .ok (.istore 9, 2) := by decide +kernel
theorem dX12_lists_78 : decode cX12_lists 78 = .ok (.iload 9, 2) := by decide +kernel
theorem dX12_lists_80 : decode cX12_lists 80 = .ok (.iload 5, 2) := by decide +kernel
theorem dX12_lists_82 : decode cX12_lists 82 = .ok (.if_icmp .ge 33, 3) := by decide +kernel
theorem dX12_lists_85 : decode cX12_lists 85 = .ok (.iload 8, 2) := by decide +kernel
theorem dX12_lists_87 : decode cX12_lists 87 = .ok (.ifCond .eq 19, 3) := by decide +kernel
theorem dX12_lists_90 : decode cX12_lists 90 = .ok (.aload_n 0, 1) := by decide +kernel
theorem dX12_lists_91 : decode cX12_lists 91 = .ok (.getfield 118, 3) := by decide +kernel
theorem dX12_lists_94 : decode cX12_lists 94 = .ok (.iload 9, 2) := by decide +kernel
theorem dX12_lists_96 : decode cX12_lists 96 = .ok (.iaload, 1) := by decide +kernel
theorem dX12_lists_97 : decode cX12_lists 97 = .ok (.iload 7, 2) := by decide +kernel
theorem dX12_lists_99 : decode cX12_lists 99 = .ok (.if_icmp .eq 7, 3) := by decide +kernel
theorem dX12_lists_102 : decode cX12_lists 102 = .ok (.iconst 1, 1) := by decide +kernel
theorem dX12_lists_103 : decode cX12_lists 103 = .ok (.goto 4, 3) := by decide +kernel
theorem dX12_lists_106 : decode cX12_lists 106 = .ok (.iconst 0, 1) := by decide +kernel
theorem dX12_lists_107 : decode cX12_lists 107 = .ok (.istore 8, 2) := by decide +kernel
theorem dX12_lists_109 : decode cX12_lists 109 = .ok (.iinc 9 1, 3) := by decide +kernel
theorem dX12_lists_112 : decode cX12_lists 112 = .ok (.goto (-34), 3) := by decide +kernel
theorem dX12_lists_115 : decode cX12_lists 115 = .ok (.iload 8, 2) := by decide +kernel
theorem dX12_lists_117 : decode cX12_lists 117 = .ok (.ifCond .eq 15, 3) := by decide +kernel
theorem dX12_lists_120 : decode cX12_lists 120 = .ok (.aload_n 0, 1) := by decide +kernel
theorem dX12_lists_121 : decode cX12_lists 121 = .ok (.getfield 118, 3) := by decide +kernel
theorem dX12_lists_124 : decode cX12_lists 124 = .ok (.iload 5, 2) := by decide +kernel
theorem dX12_lists_126 : decode cX12_lists 126 = .ok (.iload 7, 2) := by decide +kernel
theorem dX12_lists_128 : decode cX12_lists 128 = .ok (.iastore, 1) := by decide +kernel
theorem dX12_lists_129 : decode cX12_lists 129 = .ok (.iinc 5 1, 3) := by decide +kernel
theorem dX12_lists_132 : decode cX12_lists 132 = .ok (.iinc 6 1, 3) := by decide +kernel
theorem dX12_lists_135 : decode cX12_lists 135 = .ok (.goto (-101), 3) := by decide +kernel
theorem dX12_lists_138 : decode cX12_lists 138 = .ok (.aload_n 0, 1) := by decide +kernel
theorem dX12_lists_139 : decode cX12_lists 139 = .ok (.iload_n 1, 1) := by decide +kernel
theorem dX12_lists_140 : decode cX12_lists 140 = .ok (.iload_n 2, 1) := by decide +kernel
theorem dX12_lists_141 : decode cX12_lists 141 = .ok (.iload 5, 2) := by decide +kernel
theorem dX12_lists_143 : decode cX12_lists 143 = .ok (.invokevirtual 322, 3) := by decide +kernel
theorem dX12_lists_146 : decode cX12_lists 146 = .ok (.return_, 1) := by decide +kernel
def fX12_lists (a0 : Nat) (a1 : Int) (a2 : Int) (a3 : Int) (G : Hp) : RT := bp (fX12_kindOf a0 a2 G) fun v1 => jn (fun (v2 : Int) => bd v2 fun v4 => bd 1 fun v5 => bs (wr G ((rf a0 23)) 4 0 a3) fun G6 => bd 0 fun v7 => (lp (fun (_ : Int) (_ : Int) (_ : Hp) => (none : RT)) 5000 (fun (rc11 : Int → Int → Hp → RT) (v8 : Int) (v9 : Int) (G10 : Hp) => bp (fX12_longOf a0 a1 a3 G10) fun v12 => if v9 < v12 then (bp (fX12_listedOf a0 a1 a3 v9 G10) fun v15 => bd v15 fun v16 => jn (fun (v17 : Int) => bd v17 fun v19 => bd 0 fun v20 => (lp (fun (_ : Int) (_ : Int) => (none : RT)) 5000 (fun (rc23 : Int → Int → RT) (v21 : Int) (v22 : Int) => if v22 < v8 then (jn (fun (v30 : Int) => bd v30 fun v32 => bd (iadd v22 1) fun v33 => rc23 v32 v33) fun (K31 : Int → RT) => jn (K31 0) fun (K34 : RT) => if v21 = 0 then K34 else (br (rd G10 ((rf a0 23)) 4 v22) fun v35 => if v35 = v16 then K34 else K31 1)) else (jn (fun (v24 : Int) (G25 : Hp) => bd (iadd v9 1) fun v27 => rc11 v24 v27 G25) fun (K26 : Int → Hp → RT) => if v21 = 0 then K26 v8 G10 else (bs (wr G10 ((rf a0 23)) 4 v8 v16) fun G28 => bd (iadd v8 1) fun v29 => K26 v29 G28)))) v19 v20) fun (K18 : Int → RT) => jn (K18 0) fun (K36 : RT) => if v16 = a2 then K36 else (if v8 < v4 then K18 1 else K36)) else (bn (fX12_listIs a0 a1 a2 v8 G10) fun _ G13 => rt 0 G13))) v5 v7 G6) fun (K3 : Int → RT) => if v1 = 1 then K3 1 else (br (rd G ((rf a0 10)) 64 1) fun v37 => K3 v37)
set_option maxRecDepth 20000 in
set_option maxHeartbeats 4000000 in
theorem tX12_lists (l : Launch) (x : WX) (hi : Inj x.2.2) (G : Hp) (a0 : Nat) (a1 : Int) (a2 : Int) (a3 : Int) (ha0 : kd a0 = 12) : Ct l x yX12_lists cX12_lists 10 none 1 129 129 [vR a0, vI a1, vI a2, vI a3] G (fX12_lists a0 a1 a2 a3 G) := by
  refine ct_of (plainFor_of_name (by decide)) hi (Nat.le_refl _) (Nat.le_refl _) (Nat.le_of_ble_eq_true rfl) (fun cx F hd hn0 hnE hl hQ => ?_)
  subst hl
  have F : Fx cx x RX12 cX12_lists 10 none := F
  show Y cx x 10 none 129 0 [(0, vR a0), (1, vI a1), (2, vI a2), (3, vI a3)] [] G _
  unfold fX12_lists
  refine x_aload_n F dX12_lists_0 rfl rfl rfl ?_
  refine x_iload_n F dX12_lists_1 rfl rfl rfl ?_
  refine s_callVP F [vI a2] [] lkX12_319 mX12_kindOf rfl ha0 rfl hnE hn0 hd pX12_kindOf (tX12_kindOf cx.l x hi G a0 a2 ha0) rfl rfl dX12_lists_2 rfl rfl (fun v1 => ?_)
  refine x_iconst F dX12_lists_5 ⟨by decide, by decide⟩ rfl ?_
  refine x_jn (fun (K3 : Int → RT) => ∀ (v2 : Int), Y cx x 10 none 129 19 [(0, vR a0), (1, vI a1), (2, vI a2), (3, vI a3)] [vI v2] G (K3 v2)) ?_ (fun K3 hK3 => ?_)
  · intro v2
    refine x_istore F dX12_lists_19 (by decide) rfl rfl (fun v4 => ?_)
    show Y cx x _ _ _ _ [(0, vR a0), (1, vI a1), (2, vI a2), (3, vI a3), (4, vI v4)] _ _ _
    refine x_iconst F dX12_lists_21 ⟨by decide, by decide⟩ rfl ?_
    refine x_istore F dX12_lists_22 (by decide) rfl rfl (fun v5 => ?_)
    show Y cx x _ _ _ _ [(0, vR a0), (1, vI a1), (2, vI a2), (3, vI a3), (4, vI v4), (5, vI v5)] _ _ _
    refine x_aload_n F dX12_lists_24 rfl rfl rfl ?_
    refine x_getR F flX12_118 ha0 rfl dX12_lists_25 rfl ?_
    refine x_iconst F dX12_lists_28 ⟨by decide, by decide⟩ rfl ?_
    refine x_iload_n F dX12_lists_29 rfl rfl rfl ?_
    refine s_iast F (tf12_23 ha0).1 (tf12_23 ha0).2 dX12_lists_30 rfl (fun G6 => ?_)
    refine x_iconst F dX12_lists_31 ⟨by decide, by decide⟩ rfl ?_
    refine x_istore F dX12_lists_32 (by decide) rfl rfl (fun v7 => ?_)
    show Y cx x _ _ _ _ [(0, vR a0), (1, vI a1), (2, vI a2), (3, vI a3), (4, vI v4), (5, vI v5), (6, vI v7)] _ _ _
    refine x_lp (fun (rc11 : Int → Int → Hp → RT) => ∀ (v8 : Int) (v9 : Int) (G10 : Hp), Y cx x 10 none 129 34 [(0, vR a0), (1, vI a1), (2, vI a2), (3, vI a3), (4, vI v4), (5, vI v8), (6, vI v9)] [] G10 (rc11 v8 v9 G10)) (fun _ _ _ => Y_none) (fun rc11 hrc11 v8 v9 G10 => ?_) 5000 v5 v7 G6
    refine x_iload F dX12_lists_34 rfl rfl ?_
    refine x_aload_n F dX12_lists_36 rfl rfl rfl ?_
    refine x_iload_n F dX12_lists_37 rfl rfl rfl ?_
    refine x_iload_n F dX12_lists_38 rfl rfl rfl ?_
    refine s_callVP F [vI a1, vI a3] [vI v9] lkX12_291 mX12_longOf rfl ha0 rfl hnE hn0 hd pX12_longOf (tX12_longOf cx.l x hi G10 a0 a1 a3 ha0) rfl rfl dX12_lists_39 rfl rfl (fun v12 => ?_)
    refine x_icmpge (pt := 138) F dX12_lists_42 rfl rfl ?_ ?_
    · refine x_aload_n F dX12_lists_45 rfl rfl rfl ?_
      refine x_iload_n F dX12_lists_46 rfl rfl rfl ?_
      refine x_iload_n F dX12_lists_47 rfl rfl rfl ?_
      refine x_iload F dX12_lists_48 rfl rfl ?_
      refine s_callVP F [vI a1, vI a3, vI v9] [] lkX12_294 mX12_listedOf rfl ha0 rfl hnE hn0 hd pX12_listedOf (tX12_listedOf cx.l x hi G10 a0 a1 a3 v9 ha0) rfl rfl dX12_lists_50 rfl rfl (fun v15 => ?_)
      refine x_istore F dX12_lists_53 (by decide) rfl rfl (fun v16 => ?_)
      show Y cx x _ _ _ _ [(0, vR a0), (1, vI a1), (2, vI a2), (3, vI a3), (4, vI v4), (5, vI v8), (6, vI v9), (7, vI v16)] _ _ _
      refine x_iload F dX12_lists_55 rfl rfl ?_
      refine x_iload_n F dX12_lists_57 rfl rfl rfl ?_
      refine x_jn (fun (K18 : Int → RT) => ∀ (v17 : Int), Y cx x 10 none 129 73 [(0, vR a0), (1, vI a1), (2, vI a2), (3, vI a3), (4, vI v4), (5, vI v8), (6, vI v9), (7, vI v16)] [vI v17] G10 (K18 v17)) ?_ (fun K18 hK18 => ?_)
      · intro v17
        refine x_istore F dX12_lists_73 (by decide) rfl rfl (fun v19 => ?_)
        show Y cx x _ _ _ _ [(0, vR a0), (1, vI a1), (2, vI a2), (3, vI a3), (4, vI v4), (5, vI v8), (6, vI v9), (7, vI v16), (8, vI v19)] _ _ _
        refine x_iconst F dX12_lists_75 ⟨by decide, by decide⟩ rfl ?_
        refine x_istore F dX12_lists_76 (by decide) rfl rfl (fun v20 => ?_)
        show Y cx x _ _ _ _ [(0, vR a0), (1, vI a1), (2, vI a2), (3, vI a3), (4, vI v4), (5, vI v8), (6, vI v9), (7, vI v16), (8, vI v19), (9, vI v20)] _ _ _
        refine x_lp (fun (rc23 : Int → Int → RT) => ∀ (v21 : Int) (v22 : Int), Y cx x 10 none 129 78 [(0, vR a0), (1, vI a1), (2, vI a2), (3, vI a3), (4, vI v4), (5, vI v8), (6, vI v9), (7, vI v16), (8, vI v21), (9, vI v22)] [] G10 (rc23 v21 v22)) (fun _ _ => Y_none) (fun rc23 hrc23 v21 v22 => ?_) 5000 v19 v20
        refine x_iload F dX12_lists_78 rfl rfl ?_
        refine x_iload F dX12_lists_80 rfl rfl ?_
        refine x_icmpge (pt := 115) F dX12_lists_82 rfl rfl ?_ ?_
        · refine x_iload F dX12_lists_85 rfl rfl ?_
          refine x_jn (fun (K31 : Int → RT) => ∀ (v30 : Int), Y cx x 10 none 129 107 [(0, vR a0), (1, vI a1), (2, vI a2), (3, vI a3), (4, vI v4), (5, vI v8), (6, vI v9), (7, vI v16), (9, vI v22)] [vI v30] G10 (K31 v30)) ?_ (fun K31 hK31 => ?_)
          · intro v30
            refine x_istore F dX12_lists_107 (by decide) rfl rfl (fun v32 => ?_)
            show Y cx x _ _ _ _ [(0, vR a0), (1, vI a1), (2, vI a2), (3, vI a3), (4, vI v4), (5, vI v8), (6, vI v9), (7, vI v16), (9, vI v22), (8, vI v32)] _ _ _
            refine x_iinc F dX12_lists_109 rfl (by decide) rfl rfl (fun v33 => ?_)
            show Y cx x _ _ _ _ [(0, vR a0), (1, vI a1), (2, vI a2), (3, vI a3), (4, vI v4), (5, vI v8), (6, vI v9), (7, vI v16), (9, vI v33), (8, vI v32)] _ _ _
            refine x_goto (pc' := 78) F dX12_lists_112 rfl ?_
            refine x_dp (L' := [(0, vR a0), (1, vI a1), (2, vI a2), (3, vI a3), (4, vI v4), (5, vI v8), (6, vI v9), (7, vI v16), (8, vI v32), (9, vI v33)]) [0, 1, 2, 3, 4, 5, 6, 7, 9, 8] rfl ?_
            exact hrc23 v32 v33
          · refine x_jn (fun (K34 : RT) => Y cx x 10 none 129 106 [(0, vR a0), (1, vI a1), (2, vI a2), (3, vI a3), (4, vI v4), (5, vI v8), (6, vI v9), (7, vI v16), (9, vI v22)] [] G10 K34) ?_ (fun K34 hK34 => ?_)
            · refine x_iconst F dX12_lists_106 ⟨by decide, by decide⟩ rfl ?_
              exact hK31 0
            · refine x_ifeq (pt := 106) F dX12_lists_87 rfl rfl ?_ ?_
              · refine x_dp (L' := [(0, vR a0), (1, vI a1), (2, vI a2), (3, vI a3), (4, vI v4), (5, vI v8), (6, vI v9), (7, vI v16), (9, vI v22)]) [0, 1, 2, 3, 4, 5, 6, 7, 9] rfl ?_
                exact hK34
              · refine x_aload_n F dX12_lists_90 rfl rfl rfl ?_
                refine x_getR F flX12_118 ha0 rfl dX12_lists_91 rfl ?_
                refine x_iload F dX12_lists_94 rfl rfl ?_
                refine s_iald F (tf12_23 ha0).1 (tf12_23 ha0).2 dX12_lists_96 rfl (fun v35 => ?_)
                refine x_iload F dX12_lists_97 rfl rfl ?_
                refine x_icmpeq (pt := 106) F dX12_lists_99 rfl rfl ?_ ?_
                · refine x_dp (L' := [(0, vR a0), (1, vI a1), (2, vI a2), (3, vI a3), (4, vI v4), (5, vI v8), (6, vI v9), (7, vI v16), (9, vI v22)]) [0, 1, 2, 3, 4, 5, 6, 7, 9] rfl ?_
                  exact hK34
                · refine x_iconst F dX12_lists_102 ⟨by decide, by decide⟩ rfl ?_
                  refine x_goto (pc' := 107) F dX12_lists_103 rfl ?_
                  refine x_dp (L' := [(0, vR a0), (1, vI a1), (2, vI a2), (3, vI a3), (4, vI v4), (5, vI v8), (6, vI v9), (7, vI v16), (9, vI v22)]) [0, 1, 2, 3, 4, 5, 6, 7, 9] rfl ?_
                  exact hK31 1
        · refine x_iload F dX12_lists_115 rfl rfl ?_
          refine x_jn (fun (K26 : Int → Hp → RT) => ∀ (v24 : Int) (G25 : Hp), Y cx x 10 none 129 132 [(0, vR a0), (1, vI a1), (2, vI a2), (3, vI a3), (4, vI v4), (5, vI v24), (6, vI v9)] [] G25 (K26 v24 G25)) ?_ (fun K26 hK26 => ?_)
          · intro v24 G25
            refine x_iinc F dX12_lists_132 rfl (by decide) rfl rfl (fun v27 => ?_)
            show Y cx x _ _ _ _ [(0, vR a0), (1, vI a1), (2, vI a2), (3, vI a3), (4, vI v4), (5, vI v24), (6, vI v27)] _ _ _
            refine x_goto (pc' := 34) F dX12_lists_135 rfl ?_
            exact hrc11 v24 v27 G25
          · refine x_ifeq (pt := 132) F dX12_lists_117 rfl rfl ?_ ?_
            · refine x_dp (L' := [(0, vR a0), (1, vI a1), (2, vI a2), (3, vI a3), (4, vI v4), (5, vI v8), (6, vI v9)]) [0, 1, 2, 3, 4, 5, 6] rfl ?_
              exact hK26 v8 G10
            · refine x_aload_n F dX12_lists_120 rfl rfl rfl ?_
              refine x_getR F flX12_118 ha0 rfl dX12_lists_121 rfl ?_
              refine x_iload F dX12_lists_124 rfl rfl ?_
              refine x_iload F dX12_lists_126 rfl rfl ?_
              refine s_iast F (tf12_23 ha0).1 (tf12_23 ha0).2 dX12_lists_128 rfl (fun G28 => ?_)
              refine x_iinc F dX12_lists_129 rfl (by decide) rfl rfl (fun v29 => ?_)
              show Y cx x _ _ _ _ [(0, vR a0), (1, vI a1), (2, vI a2), (3, vI a3), (4, vI v4), (5, vI v29), (6, vI v9), (7, vI v16), (8, vI v21), (9, vI v22)] _ _ _
              refine x_dp (L' := [(0, vR a0), (1, vI a1), (2, vI a2), (3, vI a3), (4, vI v4), (5, vI v29), (6, vI v9)]) [0, 1, 2, 3, 4, 5, 6] rfl ?_
              exact hK26 v29 G28
      · refine x_jn (fun (K36 : RT) => Y cx x 10 none 129 72 [(0, vR a0), (1, vI a1), (2, vI a2), (3, vI a3), (4, vI v4), (5, vI v8), (6, vI v9), (7, vI v16)] [] G10 K36) ?_ (fun K36 hK36 => ?_)
        · refine x_iconst F dX12_lists_72 ⟨by decide, by decide⟩ rfl ?_
          exact hK18 0
        · refine x_icmpeq (pt := 72) F dX12_lists_58 rfl rfl ?_ ?_
          · exact hK36
          · refine x_iload F dX12_lists_61 rfl rfl ?_
            refine x_iload F dX12_lists_63 rfl rfl ?_
            refine x_icmpge (pt := 72) F dX12_lists_65 rfl rfl ?_ ?_
            · refine x_iconst F dX12_lists_68 ⟨by decide, by decide⟩ rfl ?_
              refine x_goto (pc' := 73) F dX12_lists_69 rfl ?_
              exact hK18 1
            · exact hK36
    · refine x_aload_n F dX12_lists_138 rfl rfl rfl ?_
      refine x_iload_n F dX12_lists_139 rfl rfl rfl ?_
      refine x_iload_n F dX12_lists_140 rfl rfl rfl ?_
      refine x_iload F dX12_lists_141 rfl rfl ?_
      refine s_callVv F [vI a1, vI a2, vI v8] [] lkX12_322 mX12_listIs rfl ha0 rfl hnE hn0 hd (tX12_listIs cx.l x hi G10 a0 a1 a2 v8 ha0) rfl rfl dX12_lists_143 rfl rfl (fun _ G13 => ?_)
      exact x_vret F hnE hQ dX12_lists_146
  · refine x_icmpne (pt := 13) F dX12_lists_6 rfl rfl ?_ ?_
    · refine x_iconst F dX12_lists_9 ⟨by decide, by decide⟩ rfl ?_
      refine x_goto (pc' := 19) F dX12_lists_10 rfl ?_
      exact hK3 1
    · refine x_aload_n F dX12_lists_13 rfl rfl rfl ?_
      refine x_getR F flX12_87 ha0 rfl dX12_lists_14 rfl ?_
      refine x_iconst F dX12_lists_17 ⟨by decide, by decide⟩ rfl ?_
      refine s_iald F (tf12_10 ha0).1 (tf12_10 ha0).2 dX12_lists_18 rfl (fun v37 => ?_)
      exact hK3 v37
