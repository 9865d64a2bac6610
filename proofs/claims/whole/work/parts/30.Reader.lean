theorem dX4_joined_0 : decode cX4_joined 0 = .ok (.iload_n 0, 1) := by decide +kernel
theorem dX4_joined_1 : decode cX4_joined 1 = .ok (.lookupswitch 117 #[(20, 59), (21, 73), (43, 109), (45, 113), (60, 87), (61, 98)], 59) := by decide +kernel
theorem dX4_joined_60 : decode cX4_joined 60 = .ok (.iload_n 1, 1) := by decide +kernel
theorem dX4_joined_61 : decode cX4_joined 61 = .ok (.ifCond .eq 11, 3) := by decide +kernel
theorem dX4_joined_64 : decode cX4_joined 64 = .ok (.iload_n 2, 1) := by decide +kernel
theorem dX4_joined_65 : decode cX4_joined 65 = .ok (.ifCond .eq 7, 3) := by decide +kernel
theorem dX4_joined_68 : decode cX4_joined 68 = .ok (.iconst 1, 1) := by decide +kernel
theorem dX4_joined_69 : decode cX4_joined 69 = .ok (.goto 4, 3) := by decide +kernel
theorem dX4_joined_72 : decode cX4_joined 72 = .ok (.iconst 0, 1) := by decide +kernel
theorem dX4_joined_73 : decode cX4_joined 73 = .ok (.ireturn, 1) := by decide +kernel
theorem dX4_joined_74 : decode cX4_joined 74 = .ok (.iload_n 1, 1) := by decide +kernel
theorem dX4_joined_75 : decode cX4_joined 75 = .ok (.ifCond .ne 7, 3) := by decide +kernel
theorem dX4_joined_78 : decode cX4_joined 78 = .ok (.iload_n 2, 1) := by decide +kernel
theorem dX4_joined_79 : decode cX4_joined 79 = .ok (.ifCond .eq 7, 3) := by decide +kernel
theorem dX4_joined_82 : decode cX4_joined 82 = .ok (.iconst 1, 1) := by decide +kernel
theorem dX4_joined_83 : decode cX4_joined 83 = .ok (.goto 4, 3) := by decide +kernel
theorem dX4_joined_86 : decode cX4_joined 86 = .ok (.iconst 0, 1) := by decide +kernel
theorem dX4_joined_87 : decode cX4_joined 87 = .ok (.ireturn, 1) := by decide +kernel
theorem dX4_joined_88 : decode cX4_joined 88 = .ok (.iload_n 1, 1) := by decide +kernel
theorem dX4_joined_89 : decode cX4_joined 89 = .ok (.iload_n 2, 1) := by decide +kernel
theorem dX4_joined_90 : decode cX4_joined 90 = .ok (.if_icmp .ge 7, 3) := by decide +kernel
theorem dX4_joined_93 : decode cX4_joined 93 = .ok (.iconst 1, 1) := by decide +kernel
theorem dX4_joined_94 : decode cX4_joined 94 = .ok (.goto 4, 3) := by decide +kernel
theorem dX4_joined_97 : decode cX4_joined 97 = .ok (.iconst 0, 1) := by decide +kernel
theorem dX4_joined_98 : decode cX4_joined 98 = .ok (.ireturn, 1) := by decide +kernel
theorem dX4_joined_99 : decode cX4_joined 99 = .ok (.iload_n 1, 1) := by decide +kernel
theorem dX4_joined_100 : decode cX4_joined 100 = .ok (.iload_n 2, 1) := by decide +kernel
theorem dX4_joined_101 : decode cX4_joined 101 = .ok (.if_icmp .ne 7, 3) := by decide +kernel
theorem dX4_joined_104 : decode cX4_joined 104 = .ok (.iconst 1, 1) := by decide +kernel
theorem dX4_joined_105 : decode cX4_joined 105 = .ok (.goto 4, 3) := by decide +kernel
theorem dX4_joined_108 : decode cX4_joined 108 = .ok (.iconst 0, 1) := by decide +kernel
theorem dX4_joined_109 : decode cX4_joined 109 = .ok (.ireturn, 1) := by decide +kernel
theorem dX4_joined_110 : decode cX4_joined 110 = .ok (.iload_n 1, 1) := by decide +kernel
theorem dX4_joined_111 : decode cX4_joined 111 = .ok (.iload_n 2, 1) := by decide +kernel
theorem dX4_joined_112 : decode cX4_joined 112 = .ok (.iadd, 1) := by decide +kernel
theorem dX4_joined_113 : decode cX4_joined 113 = .ok (.ireturn, 1) := by decide +kernel
theorem dX4_joined_114 : decode cX4_joined 114 = .ok (.iload_n 1, 1) := by decide +kernel
theorem dX4_joined_115 : decode cX4_joined 115 = .ok (.iload_n 2, 1) := by decide +kernel
theorem dX4_joined_116 : decode cX4_joined 116 = .ok (.isub, 1) := by decide +kernel
theorem dX4_joined_117 : decode cX4_joined 117 = .ok (.ireturn, 1) := by decide +kernel
theorem dX4_joined_118 : decode cX4_joined 118 = .ok (.iload_n 1, 1) := by decide +kernel
theorem dX4_joined_119 : decode cX4_joined 119 = .ok (.iload_n 2, 1) := by decide +kernel
theorem dX4_joined_120 : decode cX4_joined 120 = .ok (.imul, 1) := by decide +kernel
theorem dX4_joined_121 : decode cX4_joined 121 = .ok (.ireturn, 1) := by decide +kernel
def fX4_joined (a0 : Int) (a1 : Int) (a2 : Int) (G : Hp) : RT := if a0 = 20 then (if a1 = 0 then rt 0 G else (if a2 = 0 then rt 0 G else rt 1 G)) else (if a0 = 21 then (jn (rt 1 G) fun (K3 : RT) => if a1 = 0 then (if a2 = 0 then rt 0 G else K3) else K3) else (if a0 = 43 then (rt (iadd a1 a2) G) else (if a0 = 45 then (rt (isub a1 a2) G) else (if a0 = 60 then (if a1 < a2 then rt 1 G else rt 0 G) else (if a0 = 61 then (if a1 = a2 then rt 1 G else rt 0 G) else (rt (imul a1 a2) G))))))
theorem pX4_joined {G : Hp} {a0 : Int} {a1 : Int} {a2 : Int} : PU G (fX4_joined a0 a1 a2 G) := by
  unfold fX4_joined
  refine PU_ite ?_ ?_
  · refine PU_ite ?_ ?_
    · exact PU_rt
    · refine PU_ite ?_ ?_
      · exact PU_rt
      · exact PU_rt
  · refine PU_ite ?_ ?_
    · refine PU_jn (fun (K3 : RT) => PU G (K3)) ?_ (fun K3 phK3 => ?_)
      · exact PU_rt
      · refine PU_ite ?_ ?_
        · refine PU_ite ?_ ?_
          · exact PU_rt
          · exact phK3
        · exact phK3
    · refine PU_ite ?_ ?_
      · exact PU_rt
      · refine PU_ite ?_ ?_
        · exact PU_rt
        · refine PU_ite ?_ ?_
          · refine PU_ite ?_ ?_
            · exact PU_rt
            · exact PU_rt
          · refine PU_ite ?_ ?_
            · refine PU_ite ?_ ?_
              · exact PU_rt
              · exact PU_rt
            · exact PU_rt
set_option maxRecDepth 20000 in
set_option maxHeartbeats 4000000 in
theorem tX4_joined (l : Launch) (x : WX) (hi : Inj x.2.2) (G : Hp) (a0 : Int) (a1 : Int) (a2 : Int)  : Ct l x yX4_joined cX4_joined 3 (some .int) 0 129 129 [vI a0, vI a1, vI a2] G (fX4_joined a0 a1 a2 G) := by
  refine ct_of (plainFor_of_name (by decide)) hi (Nat.le_refl _) (Nat.le_refl _) (Nat.le_of_ble_eq_true rfl) (fun cx F hd hn0 hnE hl hQ => ?_)
  subst hl
  have F : Fx cx x RX4 cX4_joined 3 (some .int) := F
  show Y cx x 3 (some .int) 129 0 [(0, vI a0), (1, vI a1), (2, vI a2)] [] G _
  unfold fX4_joined
  refine x_iload_n F dX4_joined_0 rfl rfl rfl ?_
  refine x_ite (fun h1 => ?_) (fun h1 => ?_)
  · refine x_look (off := 59) (pc' := 60) F dX4_joined_1 (by decide) (by rw [h1]; rfl) rfl ?_
    refine x_iload_n F dX4_joined_60 rfl rfl rfl ?_
    refine x_ifeq (pt := 72) F dX4_joined_61 rfl rfl ?_ ?_
    · refine x_iconst F dX4_joined_72 ⟨by decide, by decide⟩ rfl ?_
      exact x_iret F hnE hQ dX4_joined_73
    · refine x_iload_n F dX4_joined_64 rfl rfl rfl ?_
      refine x_ifeq (pt := 72) F dX4_joined_65 rfl rfl ?_ ?_
      · refine x_iconst F dX4_joined_72 ⟨by decide, by decide⟩ rfl ?_
        exact x_iret F hnE hQ dX4_joined_73
      · refine x_iconst F dX4_joined_68 ⟨by decide, by decide⟩ rfl ?_
        refine x_goto (pc' := 73) F dX4_joined_69 rfl ?_
        exact x_iret F hnE hQ dX4_joined_73
  · refine x_ite (fun h2 => ?_) (fun h2 => ?_)
    · refine x_look (off := 73) (pc' := 74) F dX4_joined_1 (by decide) (by rw [h2]; rfl) rfl ?_
      refine x_iload_n F dX4_joined_74 rfl rfl rfl ?_
      refine x_jn (fun (K3 : RT) => Y cx x 3 (some .int) 129 82 [] [] G K3) ?_ (fun K3 hK3 => ?_)
      · refine x_iconst F dX4_joined_82 ⟨by decide, by decide⟩ rfl ?_
        refine x_goto (pc' := 87) F dX4_joined_83 rfl ?_
        exact x_iret F hnE hQ dX4_joined_87
      · refine x_ifne (pt := 82) F dX4_joined_75 rfl rfl ?_ ?_
        · refine x_iload_n F dX4_joined_78 rfl rfl rfl ?_
          refine x_ifeq (pt := 86) F dX4_joined_79 rfl rfl ?_ ?_
          · refine x_iconst F dX4_joined_86 ⟨by decide, by decide⟩ rfl ?_
            exact x_iret F hnE hQ dX4_joined_87
          · refine x_dp (L' := []) [] rfl ?_
            exact hK3
        · refine x_dp (L' := []) [] rfl ?_
          exact hK3
    · refine x_ite (fun h4 => ?_) (fun h4 => ?_)
      · refine x_look (off := 109) (pc' := 110) F dX4_joined_1 (by decide) (by rw [h4]; rfl) rfl ?_
        refine x_iload_n F dX4_joined_110 rfl rfl rfl ?_
        refine x_iload_n F dX4_joined_111 rfl rfl rfl ?_
        refine x_iadd F dX4_joined_112 rfl ?_
        exact x_iret F hnE hQ dX4_joined_113
      · refine x_ite (fun h5 => ?_) (fun h5 => ?_)
        · refine x_look (off := 113) (pc' := 114) F dX4_joined_1 (by decide) (by rw [h5]; rfl) rfl ?_
          refine x_iload_n F dX4_joined_114 rfl rfl rfl ?_
          refine x_iload_n F dX4_joined_115 rfl rfl rfl ?_
          refine x_isub F dX4_joined_116 rfl ?_
          exact x_iret F hnE hQ dX4_joined_117
        · refine x_ite (fun h6 => ?_) (fun h6 => ?_)
          · refine x_look (off := 87) (pc' := 88) F dX4_joined_1 (by decide) (by rw [h6]; rfl) rfl ?_
            refine x_iload_n F dX4_joined_88 rfl rfl rfl ?_
            refine x_iload_n F dX4_joined_89 rfl rfl rfl ?_
            refine x_icmpge (pt := 97) F dX4_joined_90 rfl rfl ?_ ?_
            · refine x_iconst F dX4_joined_93 ⟨by decide, by decide⟩ rfl ?_
              refine x_goto (pc' := 98) F dX4_joined_94 rfl ?_
              exact x_iret F hnE hQ dX4_joined_98
            · refine x_iconst F dX4_joined_97 ⟨by decide, by decide⟩ rfl ?_
              exact x_iret F hnE hQ dX4_joined_98
          · refine x_ite (fun h7 => ?_) (fun h7 => ?_)
            · refine x_look (off := 98) (pc' := 99) F dX4_joined_1 (by decide) (by rw [h7]; rfl) rfl ?_
              refine x_iload_n F dX4_joined_99 rfl rfl rfl ?_
              refine x_iload_n F dX4_joined_100 rfl rfl rfl ?_
              refine x_icmpne (pt := 108) F dX4_joined_101 rfl rfl ?_ ?_
              · refine x_iconst F dX4_joined_104 ⟨by decide, by decide⟩ rfl ?_
                refine x_goto (pc' := 109) F dX4_joined_105 rfl ?_
                exact x_iret F hnE hQ dX4_joined_109
              · refine x_iconst F dX4_joined_108 ⟨by decide, by decide⟩ rfl ?_
                exact x_iret F hnE hQ dX4_joined_109
            · refine x_look (off := 117) (pc' := 118) F dX4_joined_1 (by decide) (by simp only [Op.lookupswitch.offset_cons]; rw [if_neg (fun q => h1 q.symm)]; rw [if_neg (fun q => h2 q.symm)]; rw [if_neg (fun q => h4 q.symm)]; rw [if_neg (fun q => h5 q.symm)]; rw [if_neg (fun q => h6 q.symm)]; rw [if_neg (fun q => h7 q.symm)]; rfl) rfl ?_
              refine x_iload_n F dX4_joined_118 rfl rfl rfl ?_
              refine x_iload_n F dX4_joined_119 rfl rfl rfl ?_
              refine x_imul F dX4_joined_120 rfl ?_
              exact x_iret F hnE hQ dX4_joined_121
theorem dX4_factValue_0 : decode cX4_factValue 0 = .ok (.iload_n 1, 1) := by decide +kernel
theorem dX4_factValue_1 : decode cX4_factValue 1 = .ok (.lookupswitch 81 #[(0, 73), (22, 35), (23, 68)], 35) := by decide +kernel
theorem dX4_factValue_36 : decode cX4_factValue 36 = .ok (.aload_n 0, 1) := by decide +kernel
theorem dX4_factValue_37 : decode cX4_factValue 37 = .ok (.getfield 33, 3) := by decide +kernel
theorem dX4_factValue_40 : decode cX4_factValue 40 = .ok (.ifCond .lt 27, 3) := by decide +kernel
theorem dX4_factValue_43 : decode cX4_factValue 43 = .ok (.aload_n 0, 1) := by decide +kernel
theorem dX4_factValue_44 : decode cX4_factValue 44 = .ok (.getfield 33, 3) := by decide +kernel
theorem dX4_factValue_47 : decode cX4_factValue 47 = .ok (.bipush 10, 2) := by decide +kernel
theorem dX4_factValue_49 : decode cX4_factValue 49 = .ok (.if_icmp .ge 18, 3) := by decide +kernel
theorem dX4_factValue_52 : decode cX4_factValue 52 = .ok (.aload_n 0, 1) := by decide +kernel
theorem dX4_factValue_53 : decode cX4_factValue 53 = .ok (.getfield 18, 3) := by decide +kernel
theorem dX4_factValue_56 : decode cX4_factValue 56 = .ok (.getfield 131, 3) := by decide +kernel
theorem dX4_factValue_59 : decode cX4_factValue 59 = .ok (.aload_n 0, 1) := by decide +kernel
theorem dX4_factValue_60 : decode cX4_factValue 60 = .ok (.getfield 33, 3) := by decide +kernel
theorem dX4_factValue_63 : decode cX4_factValue 63 = .ok (.iaload, 1) := by decide +kernel
theorem dX4_factValue_64 : decode cX4_factValue 64 = .ok (.goto 4, 3) := by decide +kernel
theorem dX4_factValue_67 : decode cX4_factValue 67 = .ok (.iconst 0, 1) := by decide +kernel
theorem dX4_factValue_68 : decode cX4_factValue 68 = .ok (.ireturn, 1) := by decide +kernel
theorem dX4_factValue_69 : decode cX4_factValue 69 = .ok (.aload_n 0, 1) := by decide +kernel
theorem dX4_factValue_70 : decode cX4_factValue 70 = .ok (.getfield 33, 3) := by decide +kernel
theorem dX4_factValue_73 : decode cX4_factValue 73 = .ok (.ireturn, 1) := by decide +kernel
theorem dX4_factValue_74 : decode cX4_factValue 74 = .ok (.aload_n 0, 1) := by decide +kernel
theorem dX4_factValue_75 : decode cX4_factValue 75 = .ok (.getfield 18, 3) := by decide +kernel
theorem dX4_factValue_78 : decode cX4_factValue 78 = .ok (.getfield 84, 3) := by decide +kernel
theorem dX4_factValue_81 : decode cX4_factValue 81 = .ok (.ireturn, 1) := by decide +kernel
theorem dX4_factValue_82 : decode cX4_factValue 82 = .ok (.aload_n 0, 1) := by decide +kernel
theorem dX4_factValue_83 : decode cX4_factValue 83 = .ok (.getfield 18, 3) := by decide +kernel
theorem dX4_factValue_86 : decode cX4_factValue 86 = .ok (.getfield 97, 3) := by decide +kernel
theorem dX4_factValue_89 : decode cX4_factValue 89 = .ok (.ireturn, 1) := by decide +kernel
def fX4_factValue (a0 : Nat) (a1 : Int) (G : Hp) : RT := if a1 = 0 then (rt (G ((rf a0 1)) 0) G) else (if a1 = 22 then (if (G a0 4) < 0 then rt 0 G else (if (G a0 4) < 10 then (br (rd G ((rf ((rf a0 1)) 7)) 10 (G a0 4)) fun v3 => rt v3 G) else rt 0 G)) else (if a1 = 23 then (rt (G a0 4) G) else (rt (G ((rf a0 1)) 2) G)))
theorem pX4_factValue {G : Hp} {a0 : Nat} {a1 : Int} : PU G (fX4_factValue a0 a1 G) := by
  unfold fX4_factValue
  refine PU_ite ?_ ?_
  · exact PU_rt
  · refine PU_ite ?_ ?_
    · refine PU_ite ?_ ?_
      · exact PU_rt
      · refine PU_ite ?_ ?_
        · refine PU_br (fun v3 => ?_)
          exact PU_rt
        · exact PU_rt
    · refine PU_ite ?_ ?_
      · exact PU_rt
      · exact PU_rt
set_option maxRecDepth 20000 in
set_option maxHeartbeats 4000000 in
theorem tX4_factValue (l : Launch) (x : WX) (hi : Inj x.2.2) (G : Hp) (a0 : Nat) (a1 : Int) (ha0 : kd a0 = 4) : Ct l x yX4_factValue cX4_factValue 2 (some .int) 0 129 129 [vR a0, vI a1] G (fX4_factValue a0 a1 G) := by
  refine ct_of (plainFor_of_name (by decide)) hi (Nat.le_refl _) (Nat.le_refl _) (Nat.le_of_ble_eq_true rfl) (fun cx F hd hn0 hnE hl hQ => ?_)
  subst hl
  have F : Fx cx x RX4 cX4_factValue 2 (some .int) := F
  show Y cx x 2 (some .int) 129 0 [(0, vR a0), (1, vI a1)] [] G _
  unfold fX4_factValue
  refine x_iload_n F dX4_factValue_0 rfl rfl rfl ?_
  refine x_ite (fun h1 => ?_) (fun h1 => ?_)
  · refine x_look (off := 73) (pc' := 74) F dX4_factValue_1 (by decide) (by rw [h1]; rfl) rfl ?_
    refine x_aload_n F dX4_factValue_74 rfl rfl rfl ?_
    refine x_getR F flX4_18 ha0 rfl dX4_factValue_75 rfl ?_
    refine s_getI F flX4_84 (tf4_1 ha0).1 rfl dX4_factValue_78 rfl ?_
    exact x_iret F hnE hQ dX4_factValue_81
  · refine x_ite (fun h2 => ?_) (fun h2 => ?_)
    · refine x_look (off := 35) (pc' := 36) F dX4_factValue_1 (by decide) (by rw [h2]; rfl) rfl ?_
      refine x_aload_n F dX4_factValue_36 rfl rfl rfl ?_
      refine s_getI F flX4_33 ha0 rfl dX4_factValue_37 rfl ?_
      refine x_iflt (pt := 67) F dX4_factValue_40 rfl rfl ?_ ?_
      · refine x_iconst F dX4_factValue_67 ⟨by decide, by decide⟩ rfl ?_
        exact x_iret F hnE hQ dX4_factValue_68
      · refine x_aload_n F dX4_factValue_43 rfl rfl rfl ?_
        refine s_getI F flX4_33 ha0 rfl dX4_factValue_44 rfl ?_
        refine x_bipush F dX4_factValue_47 ⟨by decide, by decide⟩ (by decide) rfl ?_
        refine x_icmpge (pt := 67) F dX4_factValue_49 rfl rfl ?_ ?_
        · refine x_aload_n F dX4_factValue_52 rfl rfl rfl ?_
          refine x_getR F flX4_18 ha0 rfl dX4_factValue_53 rfl ?_
          refine x_getR F flX4_131 (tf4_1 ha0).1 rfl dX4_factValue_56 rfl ?_
          refine x_aload_n F dX4_factValue_59 rfl rfl rfl ?_
          refine s_getI F flX4_33 ha0 rfl dX4_factValue_60 rfl ?_
          refine s_iald F (tf8_7 (tf4_1 ha0).1).1 (tf8_7 (tf4_1 ha0).1).2 dX4_factValue_63 rfl (fun v3 => ?_)
          refine x_goto (pc' := 68) F dX4_factValue_64 rfl ?_
          exact x_iret F hnE hQ dX4_factValue_68
        · refine x_iconst F dX4_factValue_67 ⟨by decide, by decide⟩ rfl ?_
          exact x_iret F hnE hQ dX4_factValue_68
    · refine x_ite (fun h4 => ?_) (fun h4 => ?_)
      · refine x_look (off := 68) (pc' := 69) F dX4_factValue_1 (by decide) (by rw [h4]; rfl) rfl ?_
        refine x_aload_n F dX4_factValue_69 rfl rfl rfl ?_
        refine s_getI F flX4_33 ha0 rfl dX4_factValue_70 rfl ?_
        exact x_iret F hnE hQ dX4_factValue_73
      · refine x_look (off := 81) (pc' := 82) F dX4_factValue_1 (by decide) (by simp only [Op.lookupswitch.offset_cons]; rw [if_neg (fun q => h1 q.symm)]; rw [if_neg (fun q => h2 q.symm)]; rw [if_neg (fun q => h4 q.symm)]; rfl) rfl ?_
        refine x_aload_n F dX4_factValue_82 rfl rfl rfl ?_
        refine x_getR F flX4_18 ha0 rfl dX4_factValue_83 rfl ?_
        refine s_getI F flX4_97 (tf4_1 ha0).1 rfl dX4_factValue_86 rfl ?_
        exact x_iret F hnE hQ dX4_factValue_89
theorem dX4_isNewName_0 : decode cX4_isNewName 0 = .ok (.aload_n 0, 1) := by decide +kernel
theorem dX4_isNewName_1 : decode cX4_isNewName 1 = .ok (.getfield 9, 3) := by decide +kernel
theorem dX4_isNewName_4 : decode cX4_isNewName 4 = .ok (.invokevirtual 134, 3) := by decide +kernel
theorem dX4_isNewName_7 : decode cX4_isNewName 7 = .ok (.ifCond .ne 12, 3) := by decide +kernel
theorem dX4_isNewName_10 : decode cX4_isNewName 10 = .ok (.aload_n 0, 1) := by decide +kernel
theorem dX4_isNewName_11 : decode cX4_isNewName 11 = .ok (.getfield 9, 3) := by decide +kernel
theorem dX4_isNewName_14 : decode cX4_isNewName 14 = .ok (.iconst 1, 1) := by decide +kernel
theorem dX4_isNewName_15 : decode cX4_isNewName 15 = .ok (.invokevirtual 58, 3) := by decide +kernel
theorem dX4_isNewName_18 : decode cX4_isNewName 18 = .ok (.ireturn, 1) := by decide +kernel
theorem dX4_isNewName_19 : decode cX4_isNewName 19 = .ok (.aload_n 0, 1) := by decide +kernel
theorem dX4_isNewName_20 : decode cX4_isNewName 20 = .ok (.getfield 18, 3) := by decide +kernel
theorem dX4_isNewName_23 : decode cX4_isNewName 23 = .ok (.aload_n 0, 1) := by decide +kernel
theorem dX4_isNewName_24 : decode cX4_isNewName 24 = .ok (.getfield 9, 3) := by decide +kernel
theorem dX4_isNewName_27 : decode cX4_isNewName 27 = .ok (.getfield 107, 3) := by decide +kernel
theorem dX4_isNewName_30 : decode cX4_isNewName 30 = .ok (.invokevirtual 137, 3) := by decide +kernel
theorem dX4_isNewName_33 : decode cX4_isNewName 33 = .ok (.iconst (-1), 1) := by decide +kernel
theorem dX4_isNewName_34 : decode cX4_isNewName 34 = .ok (.if_icmp .ne 21, 3) := by decide +kernel
theorem dX4_isNewName_37 : decode cX4_isNewName 37 = .ok (.aload_n 0, 1) := by decide +kernel
theorem dX4_isNewName_38 : decode cX4_isNewName 38 = .ok (.getfield 18, 3) := by decide +kernel
theorem dX4_isNewName_41 : decode cX4_isNewName 41 = .ok (.aload_n 0, 1) := by decide +kernel
theorem dX4_isNewName_42 : decode cX4_isNewName 42 = .ok (.getfield 9, 3) := by decide +kernel
theorem dX4_isNewName_45 : decode cX4_isNewName 45 = .ok (.getfield 107, 3) := by decide +kernel
theorem dX4_isNewName_48 : decode cX4_isNewName 48 = .ok (.invokevirtual 141, 3) := by decide +kernel
theorem dX4_isNewName_51 : decode cX4_isNewName 51 = .ok (.iconst (-1), 1) := by decide +kernel
theorem dX4_isNewName_52 : decode cX4_isNewName 52 = .ok (.if_icmp .eq 12, 3) := by decide +kernel
theorem dX4_isNewName_55 : decode cX4_isNewName 55 = .ok (.aload_n 0, 1) := by decide +kernel
theorem dX4_isNewName_56 : decode cX4_isNewName 56 = .ok (.getfield 9, 3) := by decide +kernel
theorem dX4_isNewName_59 : decode cX4_isNewName 59 = .ok (.iconst 3, 1) := by decide +kernel
theorem dX4_isNewName_60 : decode cX4_isNewName 60 = .ok (.invokevirtual 58, 3) := by decide +kernel
theorem dX4_isNewName_63 : decode cX4_isNewName 63 = .ok (.ireturn, 1) := by decide +kernel
theorem dX4_isNewName_64 : decode cX4_isNewName 64 = .ok (.iconst 1, 1) := by decide +kernel
theorem dX4_isNewName_65 : decode cX4_isNewName 65 = .ok (.ireturn, 1) := by decide +kernel
def fX4_isNewName (a0 : Nat) (G : Hp) : RT := bp (fX7_isName ((rf a0 0)) G) fun v1 => if v1 = 0 then (bn (fX7_wrong ((rf a0 0)) 1 G) fun v7 G8 => rz v7 G8) else (bp (fX8_nodeNamed ((rf a0 1)) (G ((rf a0 0)) 7) G) fun v2 => jn (bn (fX7_wrong ((rf a0 0)) 3 G) fun v4 G5 => rz v4 G5) fun (K3 : RT) => if v2 = ((-1)) then (bp (fX8_keyNamed ((rf a0 1)) (G ((rf a0 0)) 7) G) fun v6 => if v6 = ((-1)) then rz 1 G else K3) else K3)
set_option maxRecDepth 20000 in
set_option maxHeartbeats 4000000 in
theorem tX4_isNewName (l : Launch) (x : WX) (hi : Inj x.2.2) (G : Hp) (a0 : Nat) (ha0 : kd a0 = 4) : Ct l x yX4_isNewName cX4_isNewName 1 (some .boolean) 1 129 129 [vR a0] G (fX4_isNewName a0 G) := by
  refine ct_of (plainFor_of_name (by decide)) hi (Nat.le_refl _) (Nat.le_refl _) (Nat.le_of_ble_eq_true rfl) (fun cx F hd hn0 hnE hl hQ => ?_)
  subst hl
  have F : Fx cx x RX4 cX4_isNewName 1 (some .boolean) := F
  show Y cx x 1 (some .boolean) 129 0 [(0, vR a0)] [] G _
  unfold fX4_isNewName
  refine x_aload_n F dX4_isNewName_0 rfl rfl rfl ?_
  refine x_getR F flX4_9 ha0 rfl dX4_isNewName_1 rfl ?_
  refine s_callVP F [] [] lkX4_134 mX7_isName rfl (tf4_0 ha0).1 rfl hnE hn0 hd pX7_isName (tX7_isName cx.l x hi G ((rf a0 0)) (tf4_0 ha0).1) rfl rfl dX4_isNewName_4 rfl rfl (fun v1 => ?_)
  refine x_ifne (pt := 19) F dX4_isNewName_7 rfl rfl ?_ ?_
  · refine x_aload_n F dX4_isNewName_10 rfl rfl rfl ?_
    refine x_getR F flX4_9 ha0 rfl dX4_isNewName_11 rfl ?_
    refine x_iconst F dX4_isNewName_14 ⟨by decide, by decide⟩ rfl ?_
    refine s_callV F [vI 1] [] lkX4_58 mX7_wrong rfl (tf4_0 ha0).1 rfl hnE hn0 hd (tX7_wrong cx.l x hi G ((rf a0 0)) 1 (tf4_0 ha0).1) rfl rfl dX4_isNewName_15 rfl rfl (fun v7 G8 => ?_)
    exact x_zret F hnE hQ dX4_isNewName_18
  · refine x_aload_n F dX4_isNewName_19 rfl rfl rfl ?_
    refine x_getR F flX4_18 ha0 rfl dX4_isNewName_20 rfl ?_
    refine x_aload_n F dX4_isNewName_23 rfl rfl rfl ?_
    refine x_getR F flX4_9 ha0 rfl dX4_isNewName_24 rfl ?_
    refine s_getJ F flX4_107 (tf4_0 ha0).1 rfl rfl dX4_isNewName_27 rfl ?_
    refine s_callVP F [vL (G ((rf a0 0)) 7)] [] lkX4_137 mX8_nodeNamed rfl (tf4_1 ha0).1 rfl hnE hn0 hd pX8_nodeNamed (tX8_nodeNamed cx.l x hi G ((rf a0 1)) (G ((rf a0 0)) 7) (tf4_1 ha0).1) rfl rfl dX4_isNewName_30 rfl rfl (fun v2 => ?_)
    refine x_iconst F dX4_isNewName_33 ⟨by decide, by decide⟩ rfl ?_
    refine x_jn (fun (K3 : RT) => Y cx x 1 (some .boolean) 129 55 [(0, vR a0)] [] G K3) ?_ (fun K3 hK3 => ?_)
    · refine x_aload_n F dX4_isNewName_55 rfl rfl rfl ?_
      refine x_getR F flX4_9 ha0 rfl dX4_isNewName_56 rfl ?_
      refine x_iconst F dX4_isNewName_59 ⟨by decide, by decide⟩ rfl ?_
      refine s_callV F [vI 3] [] lkX4_58 mX7_wrong rfl (tf4_0 ha0).1 rfl hnE hn0 hd (tX7_wrong cx.l x hi G ((rf a0 0)) 3 (tf4_0 ha0).1) rfl rfl dX4_isNewName_60 rfl rfl (fun v4 G5 => ?_)
      exact x_zret F hnE hQ dX4_isNewName_63
    · refine x_icmpne (pt := 55) F dX4_isNewName_34 rfl rfl ?_ ?_
      · refine x_aload_n F dX4_isNewName_37 rfl rfl rfl ?_
        refine x_getR F flX4_18 ha0 rfl dX4_isNewName_38 rfl ?_
        refine x_aload_n F dX4_isNewName_41 rfl rfl rfl ?_
        refine x_getR F flX4_9 ha0 rfl dX4_isNewName_42 rfl ?_
        refine s_getJ F flX4_107 (tf4_0 ha0).1 rfl rfl dX4_isNewName_45 rfl ?_
        refine s_callVP F [vL (G ((rf a0 0)) 7)] [] lkX4_141 mX8_keyNamed rfl (tf4_1 ha0).1 rfl hnE hn0 hd pX8_keyNamed (tX8_keyNamed cx.l x hi G ((rf a0 1)) (G ((rf a0 0)) 7) (tf4_1 ha0).1) rfl rfl dX4_isNewName_48 rfl rfl (fun v6 => ?_)
        refine x_iconst F dX4_isNewName_51 ⟨by decide, by decide⟩ rfl ?_
        refine x_icmpeq (pt := 64) F dX4_isNewName_52 rfl rfl ?_ ?_
        · refine x_iconst F dX4_isNewName_64 ⟨by decide, by decide⟩ rfl ?_
          exact x_zret F hnE hQ dX4_isNewName_65
        · exact hK3
      · exact hK3
theorem dX4_joinsOn_0 : decode cX4_joinsOn 0 = .ok (.aload_n 0, 1) := by decide +kernel
theorem dX4_joinsOn_1 : decode cX4_joinsOn 1 = .ok (.getfield 9, 3) := by decide +kernel
theorem dX4_joinsOn_4 : decode cX4_joinsOn 4 = .ok (.getfield 51, 3) := by decide +kernel
theorem dX4_joinsOn_7 : decode cX4_joinsOn 7 = .ok (.ifCond .eq 5, 3) := by decide +kernel
theorem dX4_joinsOn_10 : decode cX4_joinsOn 10 = .ok (.iconst 0, 1) := by decide +kernel
theorem dX4_joinsOn_11 : decode cX4_joinsOn 11 = .ok (.ireturn, 1) := by decide +kernel
theorem dX4_joinsOn_12 : decode cX4_joinsOn 12 = .ok (.iload_n 1, 1) := by decide +kernel
theorem dX4_joinsOn_13 : decode cX4_joinsOn 13 = .ok (.tableswitch 113 0 3 #[31, 43, 73, 103], 31) := by decide +kernel
theorem dX4_joinsOn_44 : decode cX4_joinsOn 44 = .ok (.aload_n 0, 1) := by decide +kernel
theorem dX4_joinsOn_45 : decode cX4_joinsOn 45 = .ok (.getfield 9, 3) := by decide +kernel
theorem dX4_joinsOn_48 : decode cX4_joinsOn 48 = .ok (.bipush 20, 2) := by decide +kernel
theorem dX4_joinsOn_50 : decode cX4_joinsOn 50 = .ok (.bipush 21, 2) := by decide +kernel
theorem dX4_joinsOn_52 : decode cX4_joinsOn 52 = .ok (.invokevirtual 54, 3) := by decide +kernel
theorem dX4_joinsOn_55 : decode cX4_joinsOn 55 = .ok (.ireturn, 1) := by decide +kernel
theorem dX4_joinsOn_56 : decode cX4_joinsOn 56 = .ok (.aload_n 0, 1) := by decide +kernel
theorem dX4_joinsOn_57 : decode cX4_joinsOn 57 = .ok (.getfield 9, 3) := by decide +kernel
theorem dX4_joinsOn_60 : decode cX4_joinsOn 60 = .ok (.bipush 60, 2) := by decide +kernel
theorem dX4_joinsOn_62 : decode cX4_joinsOn 62 = .ok (.invokevirtual 172, 3) := by decide +kernel
theorem dX4_joinsOn_65 : decode cX4_joinsOn 65 = .ok (.ifCond .ne 15, 3) := by decide +kernel
theorem dX4_joinsOn_68 : decode cX4_joinsOn 68 = .ok (.aload_n 0, 1) := by decide +kernel
theorem dX4_joinsOn_69 : decode cX4_joinsOn 69 = .ok (.getfield 9, 3) := by decide +kernel
theorem dX4_joinsOn_72 : decode cX4_joinsOn 72 = .ok (.bipush 61, 2) := by decide +kernel
theorem dX4_joinsOn_74 : decode cX4_joinsOn 74 = .ok (.invokevirtual 172, 3) := by decide +kernel
theorem dX4_joinsOn_77 : decode cX4_joinsOn 77 = .ok (.ifCond .eq 7, 3) := by decide +kernel
theorem dX4_joinsOn_80 : decode cX4_joinsOn 80 = .ok (.iconst 1, 1) := by decide +kernel
theorem dX4_joinsOn_81 : decode cX4_joinsOn 81 = .ok (.goto 4, 3) := by decide +kernel
theorem dX4_joinsOn_84 : decode cX4_joinsOn 84 = .ok (.iconst 0, 1) := by decide +kernel
theorem dX4_joinsOn_85 : decode cX4_joinsOn 85 = .ok (.ireturn, 1) := by decide +kernel
theorem dX4_joinsOn_86 : decode cX4_joinsOn 86 = .ok (.aload_n 0, 1) := by decide +kernel
theorem dX4_joinsOn_87 : decode cX4_joinsOn 87 = .ok (.getfield 9, 3) := by decide +kernel
theorem dX4_joinsOn_90 : decode cX4_joinsOn 90 = .ok (.bipush 43, 2) := by decide +kernel
theorem dX4_joinsOn_92 : decode cX4_joinsOn 92 = .ok (.invokevirtual 172, 3) := by decide +kernel
theorem dX4_joinsOn_95 : decode cX4_joinsOn 95 = .ok (.ifCond .ne 15, 3) := by decide +kernel
theorem dX4_joinsOn_98 : decode cX4_joinsOn 98 = .ok (.aload_n 0, 1) := by decide +kernel
theorem dX4_joinsOn_99 : decode cX4_joinsOn 99 = .ok (.getfield 9, 3) := by decide +kernel
theorem dX4_joinsOn_102 : decode cX4_joinsOn 102 = .ok (.bipush 45, 2) := by decide +kernel
theorem dX4_joinsOn_104 : decode cX4_joinsOn 104 = .ok (.invokevirtual 172, 3) := by decide +kernel
theorem dX4_joinsOn_107 : decode cX4_joinsOn 107 = .ok (.ifCond .eq 7, 3) := by decide +kernel
theorem dX4_joinsOn_110 : decode cX4_joinsOn 110 = .ok (.iconst 1, 1) := by decide +kernel
theorem dX4_joinsOn_111 : decode cX4_joinsOn 111 = .ok (.goto 4, 3) := by decide +kernel
theorem dX4_joinsOn_114 : decode cX4_joinsOn 114 = .ok (.iconst 0, 1) := by decide +kernel
theorem dX4_joinsOn_115 : decode cX4_joinsOn 115 = .ok (.ireturn, 1) := by decide +kernel
theorem dX4_joinsOn_116 : decode cX4_joinsOn 116 = .ok (.aload_n 0, 1) := by decide +kernel
theorem dX4_joinsOn_117 : decode cX4_joinsOn 117 = .ok (.getfield 9, 3) := by decide +kernel
theorem dX4_joinsOn_120 : decode cX4_joinsOn 120 = .ok (.bipush 42, 2) := by decide +kernel
theorem dX4_joinsOn_122 : decode cX4_joinsOn 122 = .ok (.invokevirtual 172, 3) := by decide +kernel
theorem dX4_joinsOn_125 : decode cX4_joinsOn 125 = .ok (.ireturn, 1) := by decide +kernel
theorem dX4_joinsOn_126 : decode cX4_joinsOn 126 = .ok (.iconst 0, 1) := by decide +kernel
theorem dX4_joinsOn_127 : decode cX4_joinsOn 127 = .ok (.ireturn, 1) := by decide +kernel
def fX4_joinsOn (a0 : Nat) (a1 : Int) (G : Hp) : RT := if (G ((rf a0 0)) 8) = 0 then (if a1 = 0 then (bp (fX7_isWord ((rf a0 0)) 20 21 G) fun v2 => rz v2 G) else (if a1 = 1 then (bp (fX7_isSign ((rf a0 0)) 60 G) fun v4 => jn (rz 1 G) fun (K5 : RT) => if v4 = 0 then (bp (fX7_isSign ((rf a0 0)) 61 G) fun v6 => if v6 = 0 then rz 0 G else K5) else K5) else (if a1 = 2 then (bp (fX7_isSign ((rf a0 0)) 43 G) fun v8 => jn (rz 1 G) fun (K9 : RT) => if v8 = 0 then (bp (fX7_isSign ((rf a0 0)) 45 G) fun v10 => if v10 = 0 then rz 0 G else K9) else K9) else (if a1 = 3 then (bp (fX7_isSign ((rf a0 0)) 42 G) fun v12 => rz v12 G) else rz 0 G)))) else rz 0 G
theorem pX4_joinsOn {G : Hp} {a0 : Nat} {a1 : Int} : PU G (fX4_joinsOn a0 a1 G) := by
  unfold fX4_joinsOn
  refine PU_ite ?_ ?_
  · refine PU_ite ?_ ?_
    · refine PU_bp (fun v2 => ?_)
      exact PU_rz
    · refine PU_ite ?_ ?_
      · refine PU_bp (fun v4 => ?_)
        refine PU_jn (fun (K5 : RT) => PU G (K5)) ?_ (fun K5 phK5 => ?_)
        · exact PU_rz
        · refine PU_ite ?_ ?_
          · refine PU_bp (fun v6 => ?_)
            refine PU_ite ?_ ?_
            · exact PU_rz
            · exact phK5
          · exact phK5
      · refine PU_ite ?_ ?_
        · refine PU_bp (fun v8 => ?_)
          refine PU_jn (fun (K9 : RT) => PU G (K9)) ?_ (fun K9 phK9 => ?_)
          · exact PU_rz
          · refine PU_ite ?_ ?_
            · refine PU_bp (fun v10 => ?_)
              refine PU_ite ?_ ?_
              · exact PU_rz
              · exact phK9
            · exact phK9
        · refine PU_ite ?_ ?_
          · refine PU_bp (fun v12 => ?_)
            exact PU_rz
          · exact PU_rz
  · exact PU_rz
set_option maxRecDepth 20000 in
set_option maxHeartbeats 4000000 in
theorem tX4_joinsOn (l : Launch) (x : WX) (hi : Inj x.2.2) (G : Hp) (a0 : Nat) (a1 : Int) (ha0 : kd a0 = 4) : Ct l x yX4_joinsOn cX4_joinsOn 2 (some .boolean) 1 129 129 [vR a0, vI a1] G (fX4_joinsOn a0 a1 G) := by
  refine ct_of (plainFor_of_name (by decide)) hi (Nat.le_refl _) (Nat.le_refl _) (Nat.le_of_ble_eq_true rfl) (fun cx F hd hn0 hnE hl hQ => ?_)
  subst hl
  have F : Fx cx x RX4 cX4_joinsOn 2 (some .boolean) := F
  show Y cx x 2 (some .boolean) 129 0 [(0, vR a0), (1, vI a1)] [] G _
  unfold fX4_joinsOn
  refine x_aload_n F dX4_joinsOn_0 rfl rfl rfl ?_
  refine x_getR F flX4_9 ha0 rfl dX4_joinsOn_1 rfl ?_
  refine s_getI F flX4_51 (tf4_0 ha0).1 rfl dX4_joinsOn_4 rfl ?_
  refine x_ifeq (pt := 12) F dX4_joinsOn_7 rfl rfl ?_ ?_
  · refine x_iload_n F dX4_joinsOn_12 rfl rfl rfl ?_
    refine x_ite (fun h1 => ?_) (fun h1 => ?_)
    · refine x_tabIn (off := 31) (pc' := 44) F dX4_joinsOn_13 (by omega) (by omega) (by rw [h1]; rfl) rfl ?_
      refine x_aload_n F dX4_joinsOn_44 rfl rfl rfl ?_
      refine x_getR F flX4_9 ha0 rfl dX4_joinsOn_45 rfl ?_
      refine x_bipush F dX4_joinsOn_48 ⟨by decide, by decide⟩ (by decide) rfl ?_
      refine x_bipush F dX4_joinsOn_50 ⟨by decide, by decide⟩ (by decide) rfl ?_
      refine s_callVP F [vI 20, vI 21] [] lkX4_54 mX7_isWord rfl (tf4_0 ha0).1 rfl hnE hn0 hd pX7_isWord (tX7_isWord cx.l x hi G ((rf a0 0)) 20 21 (tf4_0 ha0).1) rfl rfl dX4_joinsOn_52 rfl rfl (fun v2 => ?_)
      exact x_zret F hnE hQ dX4_joinsOn_55
    · refine x_ite (fun h3 => ?_) (fun h3 => ?_)
      · refine x_tabIn (off := 43) (pc' := 56) F dX4_joinsOn_13 (by omega) (by omega) (by rw [h3]; rfl) rfl ?_
        refine x_aload_n F dX4_joinsOn_56 rfl rfl rfl ?_
        refine x_getR F flX4_9 ha0 rfl dX4_joinsOn_57 rfl ?_
        refine x_bipush F dX4_joinsOn_60 ⟨by decide, by decide⟩ (by decide) rfl ?_
        refine s_callVP F [vI 60] [] lkX4_172 mX7_isSign rfl (tf4_0 ha0).1 rfl hnE hn0 hd pX7_isSign (tX7_isSign cx.l x hi G ((rf a0 0)) 60 (tf4_0 ha0).1) rfl rfl dX4_joinsOn_62 rfl rfl (fun v4 => ?_)
        refine x_jn (fun (K5 : RT) => Y cx x 2 (some .boolean) 129 80 [] [] G K5) ?_ (fun K5 hK5 => ?_)
        · refine x_iconst F dX4_joinsOn_80 ⟨by decide, by decide⟩ rfl ?_
          refine x_goto (pc' := 85) F dX4_joinsOn_81 rfl ?_
          exact x_zret F hnE hQ dX4_joinsOn_85
        · refine x_ifne (pt := 80) F dX4_joinsOn_65 rfl rfl ?_ ?_
          · refine x_aload_n F dX4_joinsOn_68 rfl rfl rfl ?_
            refine x_getR F flX4_9 ha0 rfl dX4_joinsOn_69 rfl ?_
            refine x_bipush F dX4_joinsOn_72 ⟨by decide, by decide⟩ (by decide) rfl ?_
            refine s_callVP F [vI 61] [] lkX4_172 mX7_isSign rfl (tf4_0 ha0).1 rfl hnE hn0 hd pX7_isSign (tX7_isSign cx.l x hi G ((rf a0 0)) 61 (tf4_0 ha0).1) rfl rfl dX4_joinsOn_74 rfl rfl (fun v6 => ?_)
            refine x_ifeq (pt := 84) F dX4_joinsOn_77 rfl rfl ?_ ?_
            · refine x_iconst F dX4_joinsOn_84 ⟨by decide, by decide⟩ rfl ?_
              exact x_zret F hnE hQ dX4_joinsOn_85
            · refine x_dp (L' := []) [] rfl ?_
              exact hK5
          · refine x_dp (L' := []) [] rfl ?_
            exact hK5
      · refine x_ite (fun h7 => ?_) (fun h7 => ?_)
        · refine x_tabIn (off := 73) (pc' := 86) F dX4_joinsOn_13 (by omega) (by omega) (by rw [h7]; rfl) rfl ?_
          refine x_aload_n F dX4_joinsOn_86 rfl rfl rfl ?_
          refine x_getR F flX4_9 ha0 rfl dX4_joinsOn_87 rfl ?_
          refine x_bipush F dX4_joinsOn_90 ⟨by decide, by decide⟩ (by decide) rfl ?_
          refine s_callVP F [vI 43] [] lkX4_172 mX7_isSign rfl (tf4_0 ha0).1 rfl hnE hn0 hd pX7_isSign (tX7_isSign cx.l x hi G ((rf a0 0)) 43 (tf4_0 ha0).1) rfl rfl dX4_joinsOn_92 rfl rfl (fun v8 => ?_)
          refine x_jn (fun (K9 : RT) => Y cx x 2 (some .boolean) 129 110 [] [] G K9) ?_ (fun K9 hK9 => ?_)
          · refine x_iconst F dX4_joinsOn_110 ⟨by decide, by decide⟩ rfl ?_
            refine x_goto (pc' := 115) F dX4_joinsOn_111 rfl ?_
            exact x_zret F hnE hQ dX4_joinsOn_115
          · refine x_ifne (pt := 110) F dX4_joinsOn_95 rfl rfl ?_ ?_
            · refine x_aload_n F dX4_joinsOn_98 rfl rfl rfl ?_
              refine x_getR F flX4_9 ha0 rfl dX4_joinsOn_99 rfl ?_
              refine x_bipush F dX4_joinsOn_102 ⟨by decide, by decide⟩ (by decide) rfl ?_
              refine s_callVP F [vI 45] [] lkX4_172 mX7_isSign rfl (tf4_0 ha0).1 rfl hnE hn0 hd pX7_isSign (tX7_isSign cx.l x hi G ((rf a0 0)) 45 (tf4_0 ha0).1) rfl rfl dX4_joinsOn_104 rfl rfl (fun v10 => ?_)
              refine x_ifeq (pt := 114) F dX4_joinsOn_107 rfl rfl ?_ ?_
              · refine x_iconst F dX4_joinsOn_114 ⟨by decide, by decide⟩ rfl ?_
                exact x_zret F hnE hQ dX4_joinsOn_115
              · refine x_dp (L' := []) [] rfl ?_
                exact hK9
            · refine x_dp (L' := []) [] rfl ?_
              exact hK9
        · refine x_ite (fun h11 => ?_) (fun h11 => ?_)
          · refine x_tabIn (off := 103) (pc' := 116) F dX4_joinsOn_13 (by omega) (by omega) (by rw [h11]; rfl) rfl ?_
            refine x_aload_n F dX4_joinsOn_116 rfl rfl rfl ?_
            refine x_getR F flX4_9 ha0 rfl dX4_joinsOn_117 rfl ?_
            refine x_bipush F dX4_joinsOn_120 ⟨by decide, by decide⟩ (by decide) rfl ?_
            refine s_callVP F [vI 42] [] lkX4_172 mX7_isSign rfl (tf4_0 ha0).1 rfl hnE hn0 hd pX7_isSign (tX7_isSign cx.l x hi G ((rf a0 0)) 42 (tf4_0 ha0).1) rfl rfl dX4_joinsOn_122 rfl rfl (fun v12 => ?_)
            exact x_zret F hnE hQ dX4_joinsOn_125
          · refine x_tabOut (pc' := 126) F dX4_joinsOn_13 (by omega) rfl ?_
            refine x_iconst F dX4_joinsOn_126 ⟨by decide, by decide⟩ rfl ?_
            exact x_zret F hnE hQ dX4_joinsOn_127
  · refine x_iconst F dX4_joinsOn_10 ⟨by decide, by decide⟩ rfl ?_
    exact x_zret F hnE hQ dX4_joinsOn_11
theorem dX4_beginsPart_0 : decode cX4_beginsPart 0 = .ok (.aload_n 0, 1) := by decide +kernel
theorem dX4_beginsPart_1 : decode cX4_beginsPart 1 = .ok (.getfield 9, 3) := by decide +kernel
theorem dX4_beginsPart_4 : decode cX4_beginsPart 4 = .ok (.getfield 41, 3) := by decide +kernel
theorem dX4_beginsPart_7 : decode cX4_beginsPart 7 = .ok (.iconst 3, 1) := by decide +kernel
theorem dX4_beginsPart_8 : decode cX4_beginsPart 8 = .ok (.if_icmp .eq 55, 3) := by decide +kernel
theorem dX4_beginsPart_11 : decode cX4_beginsPart 11 = .ok (.aload_n 0, 1) := by decide +kernel
theorem dX4_beginsPart_12 : decode cX4_beginsPart 12 = .ok (.getfield 9, 3) := by decide +kernel
theorem dX4_beginsPart_15 : decode cX4_beginsPart 15 = .ok (.bipush 40, 2) := by decide +kernel
theorem dX4_beginsPart_17 : decode cX4_beginsPart 17 = .ok (.invokevirtual 172, 3) := by decide +kernel
theorem dX4_beginsPart_20 : decode cX4_beginsPart 20 = .ok (.ifCond .ne 43, 3) := by decide +kernel
theorem dX4_beginsPart_23 : decode cX4_beginsPart 23 = .ok (.aload_n 0, 1) := by decide +kernel
theorem dX4_beginsPart_24 : decode cX4_beginsPart 24 = .ok (.getfield 9, 3) := by decide +kernel
theorem dX4_beginsPart_27 : decode cX4_beginsPart 27 = .ok (.bipush 19, 2) := by decide +kernel
theorem dX4_beginsPart_29 : decode cX4_beginsPart 29 = .ok (.bipush 19, 2) := by decide +kernel
theorem dX4_beginsPart_31 : decode cX4_beginsPart 31 = .ok (.invokevirtual 54, 3) := by decide +kernel
theorem dX4_beginsPart_34 : decode cX4_beginsPart 34 = .ok (.ifCond .ne 29, 3) := by decide +kernel
theorem dX4_beginsPart_37 : decode cX4_beginsPart 37 = .ok (.aload_n 0, 1) := by decide +kernel
theorem dX4_beginsPart_38 : decode cX4_beginsPart 38 = .ok (.getfield 9, 3) := by decide +kernel
theorem dX4_beginsPart_41 : decode cX4_beginsPart 41 = .ok (.iconst 0, 1) := by decide +kernel
theorem dX4_beginsPart_42 : decode cX4_beginsPart 42 = .ok (.iconst 0, 1) := by decide +kernel
theorem dX4_beginsPart_43 : decode cX4_beginsPart 43 = .ok (.invokevirtual 54, 3) := by decide +kernel
theorem dX4_beginsPart_46 : decode cX4_beginsPart 46 = .ok (.ifCond .ne 17, 3) := by decide +kernel
theorem dX4_beginsPart_49 : decode cX4_beginsPart 49 = .ok (.aload_n 0, 1) := by decide +kernel
theorem dX4_beginsPart_50 : decode cX4_beginsPart 50 = .ok (.getfield 9, 3) := by decide +kernel
theorem dX4_beginsPart_53 : decode cX4_beginsPart 53 = .ok (.bipush 22, 2) := by decide +kernel
theorem dX4_beginsPart_55 : decode cX4_beginsPart 55 = .ok (.bipush 24, 2) := by decide +kernel
theorem dX4_beginsPart_57 : decode cX4_beginsPart 57 = .ok (.invokevirtual 54, 3) := by decide +kernel
theorem dX4_beginsPart_60 : decode cX4_beginsPart 60 = .ok (.ifCond .eq 7, 3) := by decide +kernel
theorem dX4_beginsPart_63 : decode cX4_beginsPart 63 = .ok (.iconst 1, 1) := by decide +kernel
theorem dX4_beginsPart_64 : decode cX4_beginsPart 64 = .ok (.goto 4, 3) := by decide +kernel
theorem dX4_beginsPart_67 : decode cX4_beginsPart 67 = .ok (.iconst 0, 1) := by decide +kernel
theorem dX4_beginsPart_68 : decode cX4_beginsPart 68 = .ok (.ireturn, 1) := by decide +kernel
def fX4_beginsPart (a0 : Nat) (G : Hp) : RT := jn (rz 1 G) fun (K1 : RT) => if (G ((rf a0 0)) 4) = 3 then K1 else (bp (fX7_isSign ((rf a0 0)) 40 G) fun v2 => if v2 = 0 then (bp (fX7_isWord ((rf a0 0)) 19 19 G) fun v3 => if v3 = 0 then (bp (fX7_isWord ((rf a0 0)) 0 0 G) fun v4 => if v4 = 0 then (bp (fX7_isWord ((rf a0 0)) 22 24 G) fun v5 => if v5 = 0 then rz 0 G else K1) else K1) else K1) else K1)
theorem pX4_beginsPart {G : Hp} {a0 : Nat} : PU G (fX4_beginsPart a0 G) := by
  unfold fX4_beginsPart
  refine PU_jn (fun (K1 : RT) => PU G (K1)) ?_ (fun K1 phK1 => ?_)
  · exact PU_rz
  · refine PU_ite ?_ ?_
    · exact phK1
    · refine PU_bp (fun v2 => ?_)
      refine PU_ite ?_ ?_
      · refine PU_bp (fun v3 => ?_)
        refine PU_ite ?_ ?_
        · refine PU_bp (fun v4 => ?_)
          refine PU_ite ?_ ?_
          · refine PU_bp (fun v5 => ?_)
            refine PU_ite ?_ ?_
            · exact PU_rz
            · exact phK1
          · exact phK1
        · exact phK1
      · exact phK1
set_option maxRecDepth 20000 in
set_option maxHeartbeats 4000000 in
theorem tX4_beginsPart (l : Launch) (x : WX) (hi : Inj x.2.2) (G : Hp) (a0 : Nat) (ha0 : kd a0 = 4) : Ct l x yX4_beginsPart cX4_beginsPart 1 (some .boolean) 1 129 129 [vR a0] G (fX4_beginsPart a0 G) := by
  refine ct_of (plainFor_of_name (by decide)) hi (Nat.le_refl _) (Nat.le_refl _) (Nat.le_of_ble_eq_true rfl) (fun cx F hd hn0 hnE hl hQ => ?_)
  subst hl
  have F : Fx cx x RX4 cX4_beginsPart 1 (some .boolean) := F
  show Y cx x 1 (some .boolean) 129 0 [(0, vR a0)] [] G _
  unfold fX4_beginsPart
  refine x_aload_n F dX4_beginsPart_0 rfl rfl rfl ?_
  refine x_getR F flX4_9 ha0 rfl dX4_beginsPart_1 rfl ?_
  refine s_getI F flX4_41 (tf4_0 ha0).1 rfl dX4_beginsPart_4 rfl ?_
  refine x_iconst F dX4_beginsPart_7 ⟨by decide, by decide⟩ rfl ?_
  refine x_jn (fun (K1 : RT) => Y cx x 1 (some .boolean) 129 63 [] [] G K1) ?_ (fun K1 hK1 => ?_)
  · refine x_iconst F dX4_beginsPart_63 ⟨by decide, by decide⟩ rfl ?_
    refine x_goto (pc' := 68) F dX4_beginsPart_64 rfl ?_
    exact x_zret F hnE hQ dX4_beginsPart_68
  · refine x_icmpeq (pt := 63) F dX4_beginsPart_8 rfl rfl ?_ ?_
    · refine x_dp (L' := []) [] rfl ?_
      exact hK1
    · refine x_aload_n F dX4_beginsPart_11 rfl rfl rfl ?_
      refine x_getR F flX4_9 ha0 rfl dX4_beginsPart_12 rfl ?_
      refine x_bipush F dX4_beginsPart_15 ⟨by decide, by decide⟩ (by decide) rfl ?_
      refine s_callVP F [vI 40] [] lkX4_172 mX7_isSign rfl (tf4_0 ha0).1 rfl hnE hn0 hd pX7_isSign (tX7_isSign cx.l x hi G ((rf a0 0)) 40 (tf4_0 ha0).1) rfl rfl dX4_beginsPart_17 rfl rfl (fun v2 => ?_)
      refine x_ifne (pt := 63) F dX4_beginsPart_20 rfl rfl ?_ ?_
      · refine x_aload_n F dX4_beginsPart_23 rfl rfl rfl ?_
        refine x_getR F flX4_9 ha0 rfl dX4_beginsPart_24 rfl ?_
        refine x_bipush F dX4_beginsPart_27 ⟨by decide, by decide⟩ (by decide) rfl ?_
        refine x_bipush F dX4_beginsPart_29 ⟨by decide, by decide⟩ (by decide) rfl ?_
        refine s_callVP F [vI 19, vI 19] [] lkX4_54 mX7_isWord rfl (tf4_0 ha0).1 rfl hnE hn0 hd pX7_isWord (tX7_isWord cx.l x hi G ((rf a0 0)) 19 19 (tf4_0 ha0).1) rfl rfl dX4_beginsPart_31 rfl rfl (fun v3 => ?_)
        refine x_ifne (pt := 63) F dX4_beginsPart_34 rfl rfl ?_ ?_
        · refine x_aload_n F dX4_beginsPart_37 rfl rfl rfl ?_
          refine x_getR F flX4_9 ha0 rfl dX4_beginsPart_38 rfl ?_
          refine x_iconst F dX4_beginsPart_41 ⟨by decide, by decide⟩ rfl ?_
          refine x_iconst F dX4_beginsPart_42 ⟨by decide, by decide⟩ rfl ?_
          refine s_callVP F [vI 0, vI 0] [] lkX4_54 mX7_isWord rfl (tf4_0 ha0).1 rfl hnE hn0 hd pX7_isWord (tX7_isWord cx.l x hi G ((rf a0 0)) 0 0 (tf4_0 ha0).1) rfl rfl dX4_beginsPart_43 rfl rfl (fun v4 => ?_)
          refine x_ifne (pt := 63) F dX4_beginsPart_46 rfl rfl ?_ ?_
          · refine x_aload_n F dX4_beginsPart_49 rfl rfl rfl ?_
            refine x_getR F flX4_9 ha0 rfl dX4_beginsPart_50 rfl ?_
            refine x_bipush F dX4_beginsPart_53 ⟨by decide, by decide⟩ (by decide) rfl ?_
            refine x_bipush F dX4_beginsPart_55 ⟨by decide, by decide⟩ (by decide) rfl ?_
            refine s_callVP F [vI 22, vI 24] [] lkX4_54 mX7_isWord rfl (tf4_0 ha0).1 rfl hnE hn0 hd pX7_isWord (tX7_isWord cx.l x hi G ((rf a0 0)) 22 24 (tf4_0 ha0).1) rfl rfl dX4_beginsPart_57 rfl rfl (fun v5 => ?_)
            refine x_ifeq (pt := 67) F dX4_beginsPart_60 rfl rfl ?_ ?_
            · refine x_iconst F dX4_beginsPart_67 ⟨by decide, by decide⟩ rfl ?_
              exact x_zret F hnE hQ dX4_beginsPart_68
            · refine x_dp (L' := []) [] rfl ?_
              exact hK1
          · refine x_dp (L' := []) [] rfl ?_
            exact hK1
        · refine x_dp (L' := []) [] rfl ?_
          exact hK1
      · refine x_dp (L' := []) [] rfl ?_
        exact hK1
theorem dX4_readCircle_0 : decode cX4_readCircle 0 = .ok (.aload_n 0, 1) := by decide +kernel
theorem dX4_readCircle_1 : decode cX4_readCircle 1 = .ok (.getfield 18, 3) := by decide +kernel
theorem dX4_readCircle_4 : decode cX4_readCircle 4 = .ok (.getfield 84, 3) := by decide +kernel
theorem dX4_readCircle_7 : decode cX4_readCircle 7 = .ok (.ifCond .eq 12, 3) := by decide +kernel
theorem dX4_readCircle_10 : decode cX4_readCircle 10 = .ok (.aload_n 0, 1) := by decide +kernel
theorem dX4_readCircle_11 : decode cX4_readCircle 11 = .ok (.getfield 9, 3) := by decide +kernel
theorem dX4_readCircle_14 : decode cX4_readCircle 14 = .ok (.iconst 3, 1) := by decide +kernel
theorem dX4_readCircle_15 : decode cX4_readCircle 15 = .ok (.invokevirtual 58, 3) := by decide +kernel
theorem dX4_readCircle_18 : decode cX4_readCircle 18 = .ok (.ireturn, 1) := by decide +kernel
theorem dX4_readCircle_19 : decode cX4_readCircle 19 = .ok (.aload_n 0, 1) := by decide +kernel
theorem dX4_readCircle_20 : decode cX4_readCircle 20 = .ok (.getfield 9, 3) := by decide +kernel
theorem dX4_readCircle_23 : decode cX4_readCircle 23 = .ok (.invokevirtual 87, 3) := by decide +kernel
theorem dX4_readCircle_26 : decode cX4_readCircle 26 = .ok (.aload_n 0, 1) := by decide +kernel
theorem dX4_readCircle_27 : decode cX4_readCircle 27 = .ok (.getfield 9, 3) := by decide +kernel
theorem dX4_readCircle_30 : decode cX4_readCircle 30 = .ok (.bipush 8, 2) := by decide +kernel
theorem dX4_readCircle_32 : decode cX4_readCircle 32 = .ok (.sipush 256, 3) := by decide +kernel
theorem dX4_readCircle_35 : decode cX4_readCircle 35 = .ok (.invokevirtual 90, 3) := by decide +kernel
theorem dX4_readCircle_38 : decode cX4_readCircle 38 = .ok (.istore_n 1, 1) := by decide +kernel
theorem dX4_readCircle_39 : decode cX4_readCircle 39 = .ok (.iload_n 1, 1) := by decide +kernel
theorem dX4_readCircle_40 : decode cX4_readCircle 40 = .ok (.iconst (-1), 1) := by decide +kernel
theorem dX4_readCircle_41 : decode cX4_readCircle 41 = .ok (.if_icmp .ne 5, 3) := by decide +kernel
theorem dX4_readCircle_44 : decode cX4_readCircle 44 = .ok (.iconst 0, 1) := by decide +kernel
theorem dX4_readCircle_45 : decode cX4_readCircle 45 = .ok (.ireturn, 1) := by decide +kernel
theorem dX4_readCircle_46 : decode cX4_readCircle 46 = .ok (.aload_n 0, 1) := by decide +kernel
theorem dX4_readCircle_47 : decode cX4_readCircle 47 = .ok (.getfield 18, 3) := by decide +kernel
theorem dX4_readCircle_50 : decode cX4_readCircle 50 = .ok (.iload_n 1, 1) := by decide +kernel
theorem dX4_readCircle_51 : decode cX4_readCircle 51 = .ok (.putfield 84, 3) := by decide +kernel
theorem dX4_readCircle_54 : decode cX4_readCircle 54 = .ok (.aload_n 0, 1) := by decide +kernel
theorem dX4_readCircle_55 : decode cX4_readCircle 55 = .ok (.getfield 9, 3) := by decide +kernel
theorem dX4_readCircle_58 : decode cX4_readCircle 58 = .ok (.invokevirtual 87, 3) := by decide +kernel
theorem dX4_readCircle_61 : decode cX4_readCircle 61 = .ok (.iconst 1, 1) := by decide +kernel
theorem dX4_readCircle_62 : decode cX4_readCircle 62 = .ok (.ireturn, 1) := by decide +kernel
def fX4_readCircle (a0 : Nat) (G : Hp) : RT := if (G ((rf a0 1)) 0) = 0 then (bn (fX7_step ((rf a0 0)) G) fun _ G1 => bn (fX7_numberWithin ((rf a0 0)) 8 256 G1) fun v2 G3 => bd v2 fun v4 => if v4 = ((-1)) then rz 0 G3 else (bh (up G3 ((rf a0 1)) 0 v4) fun G5 => bn (fX7_step ((rf a0 0)) G5) fun _ G6 => rz 1 G6)) else (bn (fX7_wrong ((rf a0 0)) 3 G) fun v9 G10 => rz v9 G10)
set_option maxRecDepth 20000 in
set_option maxHeartbeats 4000000 in
theorem tX4_readCircle (l : Launch) (x : WX) (hi : Inj x.2.2) (G : Hp) (a0 : Nat) (ha0 : kd a0 = 4) : Ct l x yX4_readCircle cX4_readCircle 2 (some .boolean) 5 129 129 [vR a0] G (fX4_readCircle a0 G) := by
  refine ct_of (plainFor_of_name (by decide)) hi (Nat.le_refl _) (Nat.le_refl _) (Nat.le_of_ble_eq_true rfl) (fun cx F hd hn0 hnE hl hQ => ?_)
  subst hl
  have F : Fx cx x RX4 cX4_readCircle 2 (some .boolean) := F
  show Y cx x 2 (some .boolean) 129 0 [(0, vR a0)] [] G _
  unfold fX4_readCircle
  refine x_aload_n F dX4_readCircle_0 rfl rfl rfl ?_
  refine x_getR F flX4_18 ha0 rfl dX4_readCircle_1 rfl ?_
  refine s_getI F flX4_84 (tf4_1 ha0).1 rfl dX4_readCircle_4 rfl ?_
  refine x_ifeq (pt := 19) F dX4_readCircle_7 rfl rfl ?_ ?_
  · refine x_aload_n F dX4_readCircle_19 rfl rfl rfl ?_
    refine x_getR F flX4_9 ha0 rfl dX4_readCircle_20 rfl ?_
    refine s_callVv F [] [] lkX4_87 mX7_step rfl (tf4_0 ha0).1 rfl hnE hn0 hd (tX7_step cx.l x hi G ((rf a0 0)) (tf4_0 ha0).1) rfl rfl dX4_readCircle_23 rfl rfl (fun _ G1 => ?_)
    refine x_aload_n F dX4_readCircle_26 rfl rfl rfl ?_
    refine x_getR F flX4_9 ha0 rfl dX4_readCircle_27 rfl ?_
    refine x_bipush F dX4_readCircle_30 ⟨by decide, by decide⟩ (by decide) rfl ?_
    refine x_sipush F dX4_readCircle_32 ⟨by decide, by decide⟩ (by decide) rfl ?_
    refine s_callV F [vI 8, vI 256] [] lkX4_90 mX7_numberWithin rfl (tf4_0 ha0).1 rfl hnE hn0 hd (tX7_numberWithin cx.l x hi G1 ((rf a0 0)) 8 256 (tf4_0 ha0).1) rfl rfl dX4_readCircle_35 rfl rfl (fun v2 G3 => ?_)
    refine x_istore_n F dX4_readCircle_38 rfl (by decide) rfl rfl (fun v4 => ?_)
    show Y cx x _ _ _ _ [(0, vR a0), (1, vI v4)] _ _ _
    refine x_iload_n F dX4_readCircle_39 rfl rfl rfl ?_
    refine x_iconst F dX4_readCircle_40 ⟨by decide, by decide⟩ rfl ?_
    refine x_icmpne (pt := 46) F dX4_readCircle_41 rfl rfl ?_ ?_
    · refine x_iconst F dX4_readCircle_44 ⟨by decide, by decide⟩ rfl ?_
      exact x_zret F hnE hQ dX4_readCircle_45
    · refine x_aload_n F dX4_readCircle_46 rfl rfl rfl ?_
      refine x_getR F flX4_18 ha0 rfl dX4_readCircle_47 rfl ?_
      refine x_iload_n F dX4_readCircle_50 rfl rfl rfl ?_
      refine s_putI F fpX4_84 (tf4_1 ha0).1 rfl dX4_readCircle_51 rfl (fun G5 => ?_)
      refine x_aload_n F dX4_readCircle_54 rfl rfl rfl ?_
      refine x_getR F flX4_9 ha0 rfl dX4_readCircle_55 rfl ?_
      refine s_callVv F [] [] lkX4_87 mX7_step rfl (tf4_0 ha0).1 rfl hnE hn0 hd (tX7_step cx.l x hi G5 ((rf a0 0)) (tf4_0 ha0).1) rfl rfl dX4_readCircle_58 rfl rfl (fun _ G6 => ?_)
      refine x_iconst F dX4_readCircle_61 ⟨by decide, by decide⟩ rfl ?_
      exact x_zret F hnE hQ dX4_readCircle_62
  · refine x_aload_n F dX4_readCircle_10 rfl rfl rfl ?_
    refine x_getR F flX4_9 ha0 rfl dX4_readCircle_11 rfl ?_
    refine x_iconst F dX4_readCircle_14 ⟨by decide, by decide⟩ rfl ?_
    refine s_callV F [vI 3] [] lkX4_58 mX7_wrong rfl (tf4_0 ha0).1 rfl hnE hn0 hd (tX7_wrong cx.l x hi G ((rf a0 0)) 3 (tf4_0 ha0).1) rfl rfl dX4_readCircle_15 rfl rfl (fun v9 G10 => ?_)
    exact x_zret F hnE hQ dX4_readCircle_18
theorem dX4_readList_0 : decode cX4_readList 0 = .ok (.aload_n 0, 1) := by decide +kernel
theorem dX4_readList_1 : decode cX4_readList 1 = .ok (.getfield 25, 3) := by decide +kernel
theorem dX4_readList_4 : decode cX4_readList 4 = .ok (.ifCond .eq 12, 3) := by decide +kernel
theorem dX4_readList_7 : decode cX4_readList 7 = .ok (.aload_n 0, 1) := by decide +kernel
theorem dX4_readList_8 : decode cX4_readList 8 = .ok (.getfield 9, 3) := by decide +kernel
theorem dX4_readList_11 : decode cX4_readList 11 = .ok (.iconst 3, 1) := by decide +kernel
theorem dX4_readList_12 : decode cX4_readList 12 = .ok (.invokevirtual 58, 3) := by decide +kernel
theorem dX4_readList_15 : decode cX4_readList 15 = .ok (.ireturn, 1) := by decide +kernel
theorem dX4_readList_16 : decode cX4_readList 16 = .ok (.aload_n 0, 1) := by decide +kernel
theorem dX4_readList_17 : decode cX4_readList 17 = .ok (.getfield 9, 3) := by decide +kernel
theorem dX4_readList_20 : decode cX4_readList 20 = .ok (.invokevirtual 87, 3) := by decide +kernel
theorem dX4_readList_23 : decode cX4_readList 23 = .ok (.aload_n 0, 1) := by decide +kernel
theorem dX4_readList_24 : decode cX4_readList 24 = .ok (.getfield 9, 3) := by decide +kernel
theorem dX4_readList_27 : decode cX4_readList 27 = .ok (.iconst 1, 1) := by decide +kernel
theorem dX4_readList_28 : decode cX4_readList 28 = .ok (.iconst 4, 1) := by decide +kernel
theorem dX4_readList_29 : decode cX4_readList 29 = .ok (.invokevirtual 90, 3) := by decide +kernel
theorem dX4_readList_32 : decode cX4_readList 32 = .ok (.istore_n 1, 1) := by decide +kernel
theorem dX4_readList_33 : decode cX4_readList 33 = .ok (.iload_n 1, 1) := by decide +kernel
theorem dX4_readList_34 : decode cX4_readList 34 = .ok (.iconst (-1), 1) := by decide +kernel
theorem dX4_readList_35 : decode cX4_readList 35 = .ok (.if_icmp .ne 5, 3) := by decide +kernel
theorem dX4_readList_38 : decode cX4_readList 38 = .ok (.iconst 0, 1) := by decide +kernel
theorem dX4_readList_39 : decode cX4_readList 39 = .ok (.ireturn, 1) := by decide +kernel
theorem dX4_readList_40 : decode cX4_readList 40 = .ok (.aload_n 0, 1) := by decide +kernel
theorem dX4_readList_41 : decode cX4_readList 41 = .ok (.getfield 18, 3) := by decide +kernel
theorem dX4_readList_44 : decode cX4_readList 44 = .ok (.iload_n 1, 1) := by decide +kernel
theorem dX4_readList_45 : decode cX4_readList 45 = .ok (.putfield 94, 3) := by decide +kernel
theorem dX4_readList_48 : decode cX4_readList 48 = .ok (.aload_n 0, 1) := by decide +kernel
theorem dX4_readList_49 : decode cX4_readList 49 = .ok (.iconst 1, 1) := by decide +kernel
theorem dX4_readList_50 : decode cX4_readList 50 = .ok (.putfield 25, 3) := by decide +kernel
theorem dX4_readList_53 : decode cX4_readList 53 = .ok (.aload_n 0, 1) := by decide +kernel
theorem dX4_readList_54 : decode cX4_readList 54 = .ok (.getfield 9, 3) := by decide +kernel
theorem dX4_readList_57 : decode cX4_readList 57 = .ok (.invokevirtual 87, 3) := by decide +kernel
theorem dX4_readList_60 : decode cX4_readList 60 = .ok (.iconst 1, 1) := by decide +kernel
theorem dX4_readList_61 : decode cX4_readList 61 = .ok (.ireturn, 1) := by decide +kernel
def fX4_readList (a0 : Nat) (G : Hp) : RT := if (G a0 2) = 0 then (bn (fX7_step ((rf a0 0)) G) fun _ G1 => bn (fX7_numberWithin ((rf a0 0)) 1 4 G1) fun v2 G3 => bd v2 fun v4 => if v4 = ((-1)) then rz 0 G3 else (bh (up G3 ((rf a0 1)) 1 v4) fun G5 => pz 1 (bh (up G5 a0 2 1) fun G6 => bn (fX7_step ((rf a0 0)) G6) fun _ G7 => rz 1 G7))) else (bn (fX7_wrong ((rf a0 0)) 3 G) fun v10 G11 => rz v10 G11)
set_option maxRecDepth 20000 in
set_option maxHeartbeats 4000000 in
theorem tX4_readList (l : Launch) (x : WX) (hi : Inj x.2.2) (G : Hp) (a0 : Nat) (ha0 : kd a0 = 4) : Ct l x yX4_readList cX4_readList 2 (some .boolean) 5 129 129 [vR a0] G (fX4_readList a0 G) := by
  refine ct_of (plainFor_of_name (by decide)) hi (Nat.le_refl _) (Nat.le_refl _) (Nat.le_of_ble_eq_true rfl) (fun cx F hd hn0 hnE hl hQ => ?_)
  subst hl
  have F : Fx cx x RX4 cX4_readList 2 (some .boolean) := F
  show Y cx x 2 (some .boolean) 129 0 [(0, vR a0)] [] G _
  unfold fX4_readList
  refine x_aload_n F dX4_readList_0 rfl rfl rfl ?_
  refine s_getI F flX4_25 ha0 rfl dX4_readList_1 rfl ?_
  refine x_ifeq (pt := 16) F dX4_readList_4 rfl rfl ?_ ?_
  · refine x_aload_n F dX4_readList_16 rfl rfl rfl ?_
    refine x_getR F flX4_9 ha0 rfl dX4_readList_17 rfl ?_
    refine s_callVv F [] [] lkX4_87 mX7_step rfl (tf4_0 ha0).1 rfl hnE hn0 hd (tX7_step cx.l x hi G ((rf a0 0)) (tf4_0 ha0).1) rfl rfl dX4_readList_20 rfl rfl (fun _ G1 => ?_)
    refine x_aload_n F dX4_readList_23 rfl rfl rfl ?_
    refine x_getR F flX4_9 ha0 rfl dX4_readList_24 rfl ?_
    refine x_iconst F dX4_readList_27 ⟨by decide, by decide⟩ rfl ?_
    refine x_iconst F dX4_readList_28 ⟨by decide, by decide⟩ rfl ?_
    refine s_callV F [vI 1, vI 4] [] lkX4_90 mX7_numberWithin rfl (tf4_0 ha0).1 rfl hnE hn0 hd (tX7_numberWithin cx.l x hi G1 ((rf a0 0)) 1 4 (tf4_0 ha0).1) rfl rfl dX4_readList_29 rfl rfl (fun v2 G3 => ?_)
    refine x_istore_n F dX4_readList_32 rfl (by decide) rfl rfl (fun v4 => ?_)
    show Y cx x _ _ _ _ [(0, vR a0), (1, vI v4)] _ _ _
    refine x_iload_n F dX4_readList_33 rfl rfl rfl ?_
    refine x_iconst F dX4_readList_34 ⟨by decide, by decide⟩ rfl ?_
    refine x_icmpne (pt := 40) F dX4_readList_35 rfl rfl ?_ ?_
    · refine x_iconst F dX4_readList_38 ⟨by decide, by decide⟩ rfl ?_
      exact x_zret F hnE hQ dX4_readList_39
    · refine x_aload_n F dX4_readList_40 rfl rfl rfl ?_
      refine x_getR F flX4_18 ha0 rfl dX4_readList_41 rfl ?_
      refine x_iload_n F dX4_readList_44 rfl rfl rfl ?_
      refine s_putI F fpX4_94 (tf4_1 ha0).1 rfl dX4_readList_45 rfl (fun G5 => ?_)
      refine x_aload_n F dX4_readList_48 rfl rfl rfl ?_
      refine x_iconst F dX4_readList_49 ⟨by decide, by decide⟩ rfl ?_
      refine s_putZ F fpX4_25 ha0 rfl dX4_readList_50 rfl (fun G6 => ?_)
      refine x_aload_n F dX4_readList_53 rfl rfl rfl ?_
      refine x_getR F flX4_9 ha0 rfl dX4_readList_54 rfl ?_
      refine s_callVv F [] [] lkX4_87 mX7_step rfl (tf4_0 ha0).1 rfl hnE hn0 hd (tX7_step cx.l x hi G6 ((rf a0 0)) (tf4_0 ha0).1) rfl rfl dX4_readList_57 rfl rfl (fun _ G7 => ?_)
      refine x_iconst F dX4_readList_60 ⟨by decide, by decide⟩ rfl ?_
      exact x_zret F hnE hQ dX4_readList_61
  · refine x_aload_n F dX4_readList_7 rfl rfl rfl ?_
    refine x_getR F flX4_9 ha0 rfl dX4_readList_8 rfl ?_
    refine x_iconst F dX4_readList_11 ⟨by decide, by decide⟩ rfl ?_
    refine s_callV F [vI 3] [] lkX4_58 mX7_wrong rfl (tf4_0 ha0).1 rfl hnE hn0 hd (tX7_wrong cx.l x hi G ((rf a0 0)) 3 (tf4_0 ha0).1) rfl rfl dX4_readList_12 rfl rfl (fun v10 G11 => ?_)
    exact x_zret F hnE hQ dX4_readList_15
theorem dX4_readNode_0 : decode cX4_readNode 0 = .ok (.aload_n 0, 1) := by decide +kernel
theorem dX4_readNode_1 : decode cX4_readNode 1 = .ok (.getfield 18, 3) := by decide +kernel
theorem dX4_readNode_4 : decode cX4_readNode 4 = .ok (.getfield 97, 3) := by decide +kernel
theorem dX4_readNode_7 : decode cX4_readNode 7 = .ok (.istore_n 1, 1) := by decide +kernel
theorem dX4_readNode_8 : decode cX4_readNode 8 = .ok (.iload_n 1, 1) := by decide +kernel
theorem dX4_readNode_9 : decode cX4_readNode 9 = .ok (.bipush 8, 2) := by decide +kernel
theorem dX4_readNode_11 : decode cX4_readNode 11 = .ok (.if_icmp .lt 12, 3) := by decide +kernel
theorem dX4_readNode_14 : decode cX4_readNode 14 = .ok (.aload_n 0, 1) := by decide +kernel
theorem dX4_readNode_15 : decode cX4_readNode 15 = .ok (.getfield 9, 3) := by decide +kernel
theorem dX4_readNode_18 : decode cX4_readNode 18 = .ok (.iconst 5, 1) := by decide +kernel
theorem dX4_readNode_19 : decode cX4_readNode 19 = .ok (.invokevirtual 58, 3) := by decide +kernel
theorem dX4_readNode_22 : decode cX4_readNode 22 = .ok (.ireturn, 1) := by decide +kernel
theorem dX4_readNode_23 : decode cX4_readNode 23 = .ok (.aload_n 0, 1) := by decide +kernel
theorem dX4_readNode_24 : decode cX4_readNode 24 = .ok (.getfield 9, 3) := by decide +kernel
theorem dX4_readNode_27 : decode cX4_readNode 27 = .ok (.invokevirtual 87, 3) := by decide +kernel
theorem dX4_readNode_30 : decode cX4_readNode 30 = .ok (.aload_n 0, 1) := by decide +kernel
theorem dX4_readNode_31 : decode cX4_readNode 31 = .ok (.invokevirtual 100, 3) := by decide +kernel
theorem dX4_readNode_34 : decode cX4_readNode 34 = .ok (.ifCond .ne 5, 3) := by decide +kernel
theorem dX4_readNode_37 : decode cX4_readNode 37 = .ok (.iconst 0, 1) := by decide +kernel
theorem dX4_readNode_38 : decode cX4_readNode 38 = .ok (.ireturn, 1) := by decide +kernel
theorem dX4_readNode_39 : decode cX4_readNode 39 = .ok (.aload_n 0, 1) := by decide +kernel
theorem dX4_readNode_40 : decode cX4_readNode 40 = .ok (.getfield 18, 3) := by decide +kernel
theorem dX4_readNode_43 : decode cX4_readNode 43 = .ok (.getfield 103, 3) := by decide +kernel
theorem dX4_readNode_46 : decode cX4_readNode 46 = .ok (.iload_n 1, 1) := by decide +kernel
theorem dX4_readNode_47 : decode cX4_readNode 47 = .ok (.aload_n 0, 1) := by decide +kernel
theorem dX4_readNode_48 : decode cX4_readNode 48 = .ok (.getfield 9, 3) := by decide +kernel
theorem dX4_readNode_51 : decode cX4_readNode 51 = .ok (.getfield 107, 3) := by decide +kernel
theorem dX4_readNode_54 : decode cX4_readNode 54 = .ok (.lastore, 1) := by decide +kernel
theorem dX4_readNode_55 : decode cX4_readNode 55 = .ok (.aload_n 0, 1) := by decide +kernel
theorem dX4_readNode_56 : decode cX4_readNode 56 = .ok (.getfield 9, 3) := by decide +kernel
theorem dX4_readNode_59 : decode cX4_readNode 59 = .ok (.invokevirtual 87, 3) := by decide +kernel
theorem dX4_readNode_62 : decode cX4_readNode 62 = .ok (.aload_n 0, 1) := by decide +kernel
theorem dX4_readNode_63 : decode cX4_readNode 63 = .ok (.getfield 9, 3) := by decide +kernel
theorem dX4_readNode_66 : decode cX4_readNode 66 = .ok (.bipush 15, 2) := by decide +kernel
theorem dX4_readNode_68 : decode cX4_readNode 68 = .ok (.bipush 18, 2) := by decide +kernel
theorem dX4_readNode_70 : decode cX4_readNode 70 = .ok (.invokevirtual 54, 3) := by decide +kernel
theorem dX4_readNode_73 : decode cX4_readNode 73 = .ok (.ifCond .ne 12, 3) := by decide +kernel
theorem dX4_readNode_76 : decode cX4_readNode 76 = .ok (.aload_n 0, 1) := by decide +kernel
theorem dX4_readNode_77 : decode cX4_readNode 77 = .ok (.getfield 9, 3) := by decide +kernel
theorem dX4_readNode_80 : decode cX4_readNode 80 = .ok (.iconst 1, 1) := by decide +kernel
theorem dX4_readNode_81 : decode cX4_readNode 81 = .ok (.invokevirtual 58, 3) := by decide +kernel
theorem dX4_readNode_84 : decode cX4_readNode 84 = .ok (.ireturn, 1) := by decide +kernel
theorem dX4_readNode_85 : decode cX4_readNode 85 = .ok (.aload_n 0, 1) := by decide +kernel
theorem dX4_readNode_86 : decode cX4_readNode 86 = .ok (.getfield 18, 3) := by decide +kernel
theorem dX4_readNode_89 : decode cX4_readNode 89 = .ok (.getfield 111, 3) := by decide +kernel
theorem dX4_readNode_92 : decode cX4_readNode 92 = .ok (.iload_n 1, 1) := by decide +kernel
theorem dX4_readNode_93 : decode cX4_readNode 93 = .ok (.aload_n 0, 1) := by decide +kernel
theorem dX4_readNode_94 : decode cX4_readNode 94 = .ok (.getfield 9, 3) := by decide +kernel
theorem dX4_readNode_97 : decode cX4_readNode 97 = .ok (.getfield 62, 3) := by decide +kernel
theorem dX4_readNode_100 : decode cX4_readNode 100 = .ok (.bipush 15, 2) := by decide +kernel
theorem dX4_readNode_102 : decode cX4_readNode 102 = .ok (.isub, 1) := by decide +kernel
theorem dX4_readNode_103 : decode cX4_readNode 103 = .ok (.iastore, 1) := by decide +kernel
theorem dX4_readNode_104 : decode cX4_readNode 104 = .ok (.aload_n 0, 1) := by decide +kernel
theorem dX4_readNode_105 : decode cX4_readNode 105 = .ok (.getfield 9, 3) := by decide +kernel
theorem dX4_readNode_108 : decode cX4_readNode 108 = .ok (.invokevirtual 87, 3) := by decide +kernel
theorem dX4_readNode_111 : decode cX4_readNode 111 = .ok (.aload_n 0, 1) := by decide +kernel
theorem dX4_readNode_112 : decode cX4_readNode 112 = .ok (.getfield 9, 3) := by decide +kernel
theorem dX4_readNode_115 : decode cX4_readNode 115 = .ok (.iconst 4, 1) := by decide +kernel
theorem dX4_readNode_116 : decode cX4_readNode 116 = .ok (.invokevirtual 115, 3) := by decide +kernel
theorem dX4_readNode_119 : decode cX4_readNode 119 = .ok (.ifCond .ne 5, 3) := by decide +kernel
theorem dX4_readNode_122 : decode cX4_readNode 122 = .ok (.iconst 0, 1) := by decide +kernel
theorem dX4_readNode_123 : decode cX4_readNode 123 = .ok (.ireturn, 1) := by decide +kernel
theorem dX4_readNode_124 : decode cX4_readNode 124 = .ok (.aload_n 0, 1) := by decide +kernel
theorem dX4_readNode_125 : decode cX4_readNode 125 = .ok (.getfield 9, 3) := by decide +kernel
theorem dX4_readNode_128 : decode cX4_readNode 128 = .ok (.iconst 0, 1) := by decide +kernel
theorem dX4_readNode_129 : decode cX4_readNode 129 = .ok (.aload_n 0, 1) := by decide +kernel
theorem dX4_readNode_130 : decode cX4_readNode 130 = .ok (.getfield 18, 3) := by decide +kernel
theorem dX4_readNode_133 : decode cX4_readNode 133 = .ok (.getfield 84, 3) := by decide +kernel
theorem dX4_readNode_136 : decode cX4_readNode 136 = .ok (.iconst 1, 1) := by decide +kernel
theorem dX4_readNode_137 : decode cX4_readNode 137 = .ok (.isub, 1) := by decide +kernel
theorem dX4_readNode_138 : decode cX4_readNode 138 = .ok (.invokevirtual 90, 3) := by decide +kernel
theorem dX4_readNode_141 : decode cX4_readNode 141 = .ok (.istore_n 2, 1) := by decide +kernel
theorem dX4_readNode_142 : decode cX4_readNode 142 = .ok (.iload_n 2, 1) := by decide +kernel
theorem dX4_readNode_143 : decode cX4_readNode 143 = .ok (.iconst (-1), 1) := by decide +kernel
theorem dX4_readNode_144 : decode cX4_readNode 144 = .ok (.if_icmp .ne 5, 3) := by decide +kernel
theorem dX4_readNode_147 : decode cX4_readNode 147 = .ok (.iconst 0, 1) := by decide +kernel
theorem dX4_readNode_148 : decode cX4_readNode 148 = .ok (.ireturn, 1) := by decide +kernel
theorem dX4_readNode_149 : decode cX4_readNode 149 = .ok (.aload_n 0, 1) := by decide +kernel
theorem dX4_readNode_150 : decode cX4_readNode 150 = .ok (.getfield 18, 3) := by decide +kernel
theorem dX4_readNode_153 : decode cX4_readNode 153 = .ok (.iload_n 2, 1) := by decide +kernel
theorem dX4_readNode_154 : decode cX4_readNode 154 = .ok (.invokevirtual 118, 3) := by decide +kernel
theorem dX4_readNode_157 : decode cX4_readNode 157 = .ok (.iconst (-1), 1) := by decide +kernel
theorem dX4_readNode_158 : decode cX4_readNode 158 = .ok (.if_icmp .eq 12, 3) := by decide +kernel
theorem dX4_readNode_161 : decode cX4_readNode 161 = .ok (.aload_n 0, 1) := by decide +kernel
theorem dX4_readNode_162 : decode cX4_readNode 162 = .ok (.getfield 9, 3) := by decide +kernel
theorem dX4_readNode_165 : decode cX4_readNode 165 = .ok (.iconst 3, 1) := by decide +kernel
theorem dX4_readNode_166 : decode cX4_readNode 166 = .ok (.invokevirtual 58, 3) := by decide +kernel
theorem dX4_readNode_169 : decode cX4_readNode 169 = .ok (.ireturn, 1) := by decide +kernel
theorem dX4_readNode_170 : decode cX4_readNode 170 = .ok (.aload_n 0, 1) := by decide +kernel
theorem dX4_readNode_171 : decode cX4_readNode 171 = .ok (.getfield 18, 3) := by decide +kernel
theorem dX4_readNode_174 : decode cX4_readNode 174 = .ok (.getfield 122, 3) := by decide +kernel
theorem dX4_readNode_177 : decode cX4_readNode 177 = .ok (.iload_n 1, 1) := by decide +kernel
theorem dX4_readNode_178 : decode cX4_readNode 178 = .ok (.iload_n 2, 1) := by decide +kernel
theorem dX4_readNode_179 : decode cX4_readNode 179 = .ok (.iastore, 1) := by decide +kernel
theorem dX4_readNode_180 : decode cX4_readNode 180 = .ok (.aload_n 0, 1) := by decide +kernel
theorem dX4_readNode_181 : decode cX4_readNode 181 = .ok (.getfield 18, 3) := by decide +kernel
theorem dX4_readNode_184 : decode cX4_readNode 184 = .ok (.iload_n 1, 1) := by decide +kernel
theorem dX4_readNode_185 : decode cX4_readNode 185 = .ok (.iconst 1, 1) := by decide +kernel
theorem dX4_readNode_186 : decode cX4_readNode 186 = .ok (.iadd, 1) := by decide +kernel
theorem dX4_readNode_187 : decode cX4_readNode 187 = .ok (.putfield 97, 3) := by decide +kernel
theorem dX4_readNode_190 : decode cX4_readNode 190 = .ok (.aload_n 0, 1) := by decide +kernel
theorem dX4_readNode_191 : decode cX4_readNode 191 = .ok (.getfield 9, 3) := by decide +kernel
theorem dX4_readNode_194 : decode cX4_readNode 194 = .ok (.invokevirtual 87, 3) := by decide +kernel
theorem dX4_readNode_197 : decode cX4_readNode 197 = .ok (.iconst 1, 1) := by decide +kernel
theorem dX4_readNode_198 : decode cX4_readNode 198 = .ok (.ireturn, 1) := by decide +kernel
def fX4_readNode (a0 : Nat) (G : Hp) : RT := bd (G ((rf a0 1)) 2) fun v1 => if v1 < 8 then (bn (fX7_step ((rf a0 0)) G) fun _ G2 => bn (fX4_isNewName a0 G2) fun v3 G4 => if v3 = 0 then rz 0 G4 else (bs (wr G4 ((rf ((rf a0 1)) 6)) 8 v1 (G4 ((rf a0 0)) 7)) fun G5 => bn (fX7_step ((rf a0 0)) G5) fun _ G6 => bp (fX7_isWord ((rf a0 0)) 15 18 G6) fun v7 => if v7 = 0 then (bn (fX7_wrong ((rf a0 0)) 1 G6) fun v23 G24 => rz v23 G24) else (bs (wr G6 ((rf ((rf a0 1)) 4)) 8 v1 (isub (G6 ((rf a0 0)) 6) 15)) fun G8 => bn (fX7_step ((rf a0 0)) G8) fun _ G9 => bn (fX7_takeWord ((rf a0 0)) 4 G9) fun v10 G11 => if v10 = 0 then rz 0 G11 else (bn (fX7_numberWithin ((rf a0 0)) 0 (isub (G11 ((rf a0 1)) 0) 1) G11) fun v12 G13 => bd v12 fun v14 => if v14 = ((-1)) then rz 0 G13 else (bp (fX8_nodeAt ((rf a0 1)) v14 G13) fun v15 => if v15 = ((-1)) then (bs (wr G13 ((rf ((rf a0 1)) 5)) 8 v1 v14) fun G16 => bh (up G16 ((rf a0 1)) 2 (iadd v1 1)) fun G17 => bn (fX7_step ((rf a0 0)) G17) fun _ G18 => rz 1 G18) else (bn (fX7_wrong ((rf a0 0)) 3 G13) fun v20 G21 => rz v20 G21)))))) else (bn (fX7_wrong ((rf a0 0)) 5 G) fun v27 G28 => rz v27 G28)
set_option maxRecDepth 20000 in
set_option maxHeartbeats 4000000 in
theorem tX4_readNode (l : Launch) (x : WX) (hi : Inj x.2.2) (G : Hp) (a0 : Nat) (ha0 : kd a0 = 4) : Ct l x yX4_readNode cX4_readNode 3 (some .boolean) 6 129 129 [vR a0] G (fX4_readNode a0 G) := by
  refine ct_of (plainFor_of_name (by decide)) hi (Nat.le_refl _) (Nat.le_refl _) (Nat.le_of_ble_eq_true rfl) (fun cx F hd hn0 hnE hl hQ => ?_)
  subst hl
  have F : Fx cx x RX4 cX4_readNode 3 (some .boolean) := F
  show Y cx x 3 (some .boolean) 129 0 [(0, vR a0)] [] G _
  unfold fX4_readNode
  refine x_aload_n F dX4_readNode_0 rfl rfl rfl ?_
  refine x_getR F flX4_18 ha0 rfl dX4_readNode_1 rfl ?_
  refine s_getI F flX4_97 (tf4_1 ha0).1 rfl dX4_readNode_4 rfl ?_
  refine x_istore_n F dX4_readNode_7 rfl (by decide) rfl rfl (fun v1 => ?_)
  show Y cx x _ _ _ _ [(0, vR a0), (1, vI v1)] _ _ _
  refine x_iload_n F dX4_readNode_8 rfl rfl rfl ?_
  refine x_bipush F dX4_readNode_9 ⟨by decide, by decide⟩ (by decide) rfl ?_
  refine x_icmplt (pt := 23) F dX4_readNode_11 rfl rfl ?_ ?_
  · refine x_aload_n F dX4_readNode_23 rfl rfl rfl ?_
    refine x_getR F flX4_9 ha0 rfl dX4_readNode_24 rfl ?_
    refine s_callVv F [] [] lkX4_87 mX7_step rfl (tf4_0 ha0).1 rfl hnE hn0 hd (tX7_step cx.l x hi G ((rf a0 0)) (tf4_0 ha0).1) rfl rfl dX4_readNode_27 rfl rfl (fun _ G2 => ?_)
    refine x_aload_n F dX4_readNode_30 rfl rfl rfl ?_
    refine s_callV F [] [] lkX4_100 mX4_isNewName rfl ha0 rfl hnE hn0 hd (tX4_isNewName cx.l x hi G2 a0 ha0) rfl rfl dX4_readNode_31 rfl rfl (fun v3 G4 => ?_)
    refine x_ifne (pt := 39) F dX4_readNode_34 rfl rfl ?_ ?_
    · refine x_iconst F dX4_readNode_37 ⟨by decide, by decide⟩ rfl ?_
      exact x_zret F hnE hQ dX4_readNode_38
    · refine x_aload_n F dX4_readNode_39 rfl rfl rfl ?_
      refine x_getR F flX4_18 ha0 rfl dX4_readNode_40 rfl ?_
      refine x_getR F flX4_103 (tf4_1 ha0).1 rfl dX4_readNode_43 rfl ?_
      refine x_iload_n F dX4_readNode_46 rfl rfl rfl ?_
      refine x_aload_n F dX4_readNode_47 rfl rfl rfl ?_
      refine x_getR F flX4_9 ha0 rfl dX4_readNode_48 rfl ?_
      refine s_getJ F flX4_107 (tf4_0 ha0).1 rfl rfl dX4_readNode_51 rfl ?_
      refine s_last F (tf8_6 (tf4_1 ha0).1).1 (tf8_6 (tf4_1 ha0).1).2 dX4_readNode_54 rfl (fun G5 => ?_)
      refine x_aload_n F dX4_readNode_55 rfl rfl rfl ?_
      refine x_getR F flX4_9 ha0 rfl dX4_readNode_56 rfl ?_
      refine s_callVv F [] [] lkX4_87 mX7_step rfl (tf4_0 ha0).1 rfl hnE hn0 hd (tX7_step cx.l x hi G5 ((rf a0 0)) (tf4_0 ha0).1) rfl rfl dX4_readNode_59 rfl rfl (fun _ G6 => ?_)
      refine x_aload_n F dX4_readNode_62 rfl rfl rfl ?_
      refine x_getR F flX4_9 ha0 rfl dX4_readNode_63 rfl ?_
      refine x_bipush F dX4_readNode_66 ⟨by decide, by decide⟩ (by decide) rfl ?_
      refine x_bipush F dX4_readNode_68 ⟨by decide, by decide⟩ (by decide) rfl ?_
      refine s_callVP F [vI 15, vI 18] [] lkX4_54 mX7_isWord rfl (tf4_0 ha0).1 rfl hnE hn0 hd pX7_isWord (tX7_isWord cx.l x hi G6 ((rf a0 0)) 15 18 (tf4_0 ha0).1) rfl rfl dX4_readNode_70 rfl rfl (fun v7 => ?_)
      refine x_ifne (pt := 85) F dX4_readNode_73 rfl rfl ?_ ?_
      · refine x_aload_n F dX4_readNode_76 rfl rfl rfl ?_
        refine x_getR F flX4_9 ha0 rfl dX4_readNode_77 rfl ?_
        refine x_iconst F dX4_readNode_80 ⟨by decide, by decide⟩ rfl ?_
        refine s_callV F [vI 1] [] lkX4_58 mX7_wrong rfl (tf4_0 ha0).1 rfl hnE hn0 hd (tX7_wrong cx.l x hi G6 ((rf a0 0)) 1 (tf4_0 ha0).1) rfl rfl dX4_readNode_81 rfl rfl (fun v23 G24 => ?_)
        exact x_zret F hnE hQ dX4_readNode_84
      · refine x_aload_n F dX4_readNode_85 rfl rfl rfl ?_
        refine x_getR F flX4_18 ha0 rfl dX4_readNode_86 rfl ?_
        refine x_getR F flX4_111 (tf4_1 ha0).1 rfl dX4_readNode_89 rfl ?_
        refine x_iload_n F dX4_readNode_92 rfl rfl rfl ?_
        refine x_aload_n F dX4_readNode_93 rfl rfl rfl ?_
        refine x_getR F flX4_9 ha0 rfl dX4_readNode_94 rfl ?_
        refine s_getI F flX4_62 (tf4_0 ha0).1 rfl dX4_readNode_97 rfl ?_
        refine x_bipush F dX4_readNode_100 ⟨by decide, by decide⟩ (by decide) rfl ?_
        refine x_isub F dX4_readNode_102 rfl ?_
        refine s_iast F (tf8_4 (tf4_1 ha0).1).1 (tf8_4 (tf4_1 ha0).1).2 dX4_readNode_103 rfl (fun G8 => ?_)
        refine x_aload_n F dX4_readNode_104 rfl rfl rfl ?_
        refine x_getR F flX4_9 ha0 rfl dX4_readNode_105 rfl ?_
        refine s_callVv F [] [] lkX4_87 mX7_step rfl (tf4_0 ha0).1 rfl hnE hn0 hd (tX7_step cx.l x hi G8 ((rf a0 0)) (tf4_0 ha0).1) rfl rfl dX4_readNode_108 rfl rfl (fun _ G9 => ?_)
        refine x_aload_n F dX4_readNode_111 rfl rfl rfl ?_
        refine x_getR F flX4_9 ha0 rfl dX4_readNode_112 rfl ?_
        refine x_iconst F dX4_readNode_115 ⟨by decide, by decide⟩ rfl ?_
        refine s_callV F [vI 4] [] lkX4_115 mX7_takeWord rfl (tf4_0 ha0).1 rfl hnE hn0 hd (tX7_takeWord cx.l x hi G9 ((rf a0 0)) 4 (tf4_0 ha0).1) rfl rfl dX4_readNode_116 rfl rfl (fun v10 G11 => ?_)
        refine x_ifne (pt := 124) F dX4_readNode_119 rfl rfl ?_ ?_
        · refine x_iconst F dX4_readNode_122 ⟨by decide, by decide⟩ rfl ?_
          exact x_zret F hnE hQ dX4_readNode_123
        · refine x_aload_n F dX4_readNode_124 rfl rfl rfl ?_
          refine x_getR F flX4_9 ha0 rfl dX4_readNode_125 rfl ?_
          refine x_iconst F dX4_readNode_128 ⟨by decide, by decide⟩ rfl ?_
          refine x_aload_n F dX4_readNode_129 rfl rfl rfl ?_
          refine x_getR F flX4_18 ha0 rfl dX4_readNode_130 rfl ?_
          refine s_getI F flX4_84 (tf4_1 ha0).1 rfl dX4_readNode_133 rfl ?_
          refine x_iconst F dX4_readNode_136 ⟨by decide, by decide⟩ rfl ?_
          refine x_isub F dX4_readNode_137 rfl ?_
          refine s_callV F [vI 0, vI (isub (G11 ((rf a0 1)) 0) 1)] [] lkX4_90 mX7_numberWithin rfl (tf4_0 ha0).1 rfl hnE hn0 hd (tX7_numberWithin cx.l x hi G11 ((rf a0 0)) 0 (isub (G11 ((rf a0 1)) 0) 1) (tf4_0 ha0).1) rfl rfl dX4_readNode_138 rfl rfl (fun v12 G13 => ?_)
          refine x_istore_n F dX4_readNode_141 rfl (by decide) rfl rfl (fun v14 => ?_)
          show Y cx x _ _ _ _ [(0, vR a0), (1, vI v1), (2, vI v14)] _ _ _
          refine x_iload_n F dX4_readNode_142 rfl rfl rfl ?_
          refine x_iconst F dX4_readNode_143 ⟨by decide, by decide⟩ rfl ?_
          refine x_icmpne (pt := 149) F dX4_readNode_144 rfl rfl ?_ ?_
          · refine x_iconst F dX4_readNode_147 ⟨by decide, by decide⟩ rfl ?_
            exact x_zret F hnE hQ dX4_readNode_148
          · refine x_aload_n F dX4_readNode_149 rfl rfl rfl ?_
            refine x_getR F flX4_18 ha0 rfl dX4_readNode_150 rfl ?_
            refine x_iload_n F dX4_readNode_153 rfl rfl rfl ?_
            refine s_callVP F [vI v14] [] lkX4_118 mX8_nodeAt rfl (tf4_1 ha0).1 rfl hnE hn0 hd pX8_nodeAt (tX8_nodeAt cx.l x hi G13 ((rf a0 1)) v14 (tf4_1 ha0).1) rfl rfl dX4_readNode_154 rfl rfl (fun v15 => ?_)
            refine x_iconst F dX4_readNode_157 ⟨by decide, by decide⟩ rfl ?_
            refine x_icmpeq (pt := 170) F dX4_readNode_158 rfl rfl ?_ ?_
            · refine x_aload_n F dX4_readNode_170 rfl rfl rfl ?_
              refine x_getR F flX4_18 ha0 rfl dX4_readNode_171 rfl ?_
              refine x_getR F flX4_122 (tf4_1 ha0).1 rfl dX4_readNode_174 rfl ?_
              refine x_iload_n F dX4_readNode_177 rfl rfl rfl ?_
              refine x_iload_n F dX4_readNode_178 rfl rfl rfl ?_
              refine s_iast F (tf8_5 (tf4_1 ha0).1).1 (tf8_5 (tf4_1 ha0).1).2 dX4_readNode_179 rfl (fun G16 => ?_)
              refine x_aload_n F dX4_readNode_180 rfl rfl rfl ?_
              refine x_getR F flX4_18 ha0 rfl dX4_readNode_181 rfl ?_
              refine x_iload_n F dX4_readNode_184 rfl rfl rfl ?_
              refine x_iconst F dX4_readNode_185 ⟨by decide, by decide⟩ rfl ?_
              refine x_iadd F dX4_readNode_186 rfl ?_
              refine s_putI F fpX4_97 (tf4_1 ha0).1 rfl dX4_readNode_187 rfl (fun G17 => ?_)
              refine x_aload_n F dX4_readNode_190 rfl rfl rfl ?_
              refine x_getR F flX4_9 ha0 rfl dX4_readNode_191 rfl ?_
              refine s_callVv F [] [] lkX4_87 mX7_step rfl (tf4_0 ha0).1 rfl hnE hn0 hd (tX7_step cx.l x hi G17 ((rf a0 0)) (tf4_0 ha0).1) rfl rfl dX4_readNode_194 rfl rfl (fun _ G18 => ?_)
              refine x_iconst F dX4_readNode_197 ⟨by decide, by decide⟩ rfl ?_
              exact x_zret F hnE hQ dX4_readNode_198
            · refine x_aload_n F dX4_readNode_161 rfl rfl rfl ?_
              refine x_getR F flX4_9 ha0 rfl dX4_readNode_162 rfl ?_
              refine x_iconst F dX4_readNode_165 ⟨by decide, by decide⟩ rfl ?_
              refine s_callV F [vI 3] [] lkX4_58 mX7_wrong rfl (tf4_0 ha0).1 rfl hnE hn0 hd (tX7_wrong cx.l x hi G13 ((rf a0 0)) 3 (tf4_0 ha0).1) rfl rfl dX4_readNode_166 rfl rfl (fun v20 G21 => ?_)
              exact x_zret F hnE hQ dX4_readNode_169
  · refine x_aload_n F dX4_readNode_14 rfl rfl rfl ?_
    refine x_getR F flX4_9 ha0 rfl dX4_readNode_15 rfl ?_
    refine x_iconst F dX4_readNode_18 ⟨by decide, by decide⟩ rfl ?_
    refine s_callV F [vI 5] [] lkX4_58 mX7_wrong rfl (tf4_0 ha0).1 rfl hnE hn0 hd (tX7_wrong cx.l x hi G ((rf a0 0)) 5 (tf4_0 ha0).1) rfl rfl dX4_readNode_19 rfl rfl (fun v27 G28 => ?_)
    exact x_zret F hnE hQ dX4_readNode_22
theorem dX4_readKey_0 : decode cX4_readKey 0 = .ok (.aload_n 0, 1) := by decide +kernel
theorem dX4_readKey_1 : decode cX4_readKey 1 = .ok (.getfield 18, 3) := by decide +kernel
theorem dX4_readKey_4 : decode cX4_readKey 4 = .ok (.getfield 125, 3) := by decide +kernel
theorem dX4_readKey_7 : decode cX4_readKey 7 = .ok (.istore_n 1, 1) := by decide +kernel
theorem dX4_readKey_8 : decode cX4_readKey 8 = .ok (.iload_n 1, 1) := by decide +kernel
theorem dX4_readKey_9 : decode cX4_readKey 9 = .ok (.bipush 10, 2) := by decide +kernel
theorem dX4_readKey_11 : decode cX4_readKey 11 = .ok (.if_icmp .lt 12, 3) := by decide +kernel
theorem dX4_readKey_14 : decode cX4_readKey 14 = .ok (.aload_n 0, 1) := by decide +kernel
theorem dX4_readKey_15 : decode cX4_readKey 15 = .ok (.getfield 9, 3) := by decide +kernel
theorem dX4_readKey_18 : decode cX4_readKey 18 = .ok (.iconst 5, 1) := by decide +kernel
theorem dX4_readKey_19 : decode cX4_readKey 19 = .ok (.invokevirtual 58, 3) := by decide +kernel
theorem dX4_readKey_22 : decode cX4_readKey 22 = .ok (.ireturn, 1) := by decide +kernel
theorem dX4_readKey_23 : decode cX4_readKey 23 = .ok (.aload_n 0, 1) := by decide +kernel
theorem dX4_readKey_24 : decode cX4_readKey 24 = .ok (.getfield 9, 3) := by decide +kernel
theorem dX4_readKey_27 : decode cX4_readKey 27 = .ok (.invokevirtual 87, 3) := by decide +kernel
theorem dX4_readKey_30 : decode cX4_readKey 30 = .ok (.aload_n 0, 1) := by decide +kernel
theorem dX4_readKey_31 : decode cX4_readKey 31 = .ok (.invokevirtual 100, 3) := by decide +kernel
theorem dX4_readKey_34 : decode cX4_readKey 34 = .ok (.ifCond .ne 5, 3) := by decide +kernel
theorem dX4_readKey_37 : decode cX4_readKey 37 = .ok (.iconst 0, 1) := by decide +kernel
theorem dX4_readKey_38 : decode cX4_readKey 38 = .ok (.ireturn, 1) := by decide +kernel
theorem dX4_readKey_39 : decode cX4_readKey 39 = .ok (.aload_n 0, 1) := by decide +kernel
theorem dX4_readKey_40 : decode cX4_readKey 40 = .ok (.getfield 18, 3) := by decide +kernel
theorem dX4_readKey_43 : decode cX4_readKey 43 = .ok (.getfield 128, 3) := by decide +kernel
theorem dX4_readKey_46 : decode cX4_readKey 46 = .ok (.iload_n 1, 1) := by decide +kernel
theorem dX4_readKey_47 : decode cX4_readKey 47 = .ok (.aload_n 0, 1) := by decide +kernel
theorem dX4_readKey_48 : decode cX4_readKey 48 = .ok (.getfield 9, 3) := by decide +kernel
theorem dX4_readKey_51 : decode cX4_readKey 51 = .ok (.getfield 107, 3) := by decide +kernel
theorem dX4_readKey_54 : decode cX4_readKey 54 = .ok (.lastore, 1) := by decide +kernel
theorem dX4_readKey_55 : decode cX4_readKey 55 = .ok (.aload_n 0, 1) := by decide +kernel
theorem dX4_readKey_56 : decode cX4_readKey 56 = .ok (.getfield 9, 3) := by decide +kernel
theorem dX4_readKey_59 : decode cX4_readKey 59 = .ok (.invokevirtual 87, 3) := by decide +kernel
theorem dX4_readKey_62 : decode cX4_readKey 62 = .ok (.aload_n 0, 1) := by decide +kernel
theorem dX4_readKey_63 : decode cX4_readKey 63 = .ok (.getfield 9, 3) := by decide +kernel
theorem dX4_readKey_66 : decode cX4_readKey 66 = .ok (.iconst 4, 1) := by decide +kernel
theorem dX4_readKey_67 : decode cX4_readKey 67 = .ok (.invokevirtual 115, 3) := by decide +kernel
theorem dX4_readKey_70 : decode cX4_readKey 70 = .ok (.ifCond .ne 5, 3) := by decide +kernel
theorem dX4_readKey_73 : decode cX4_readKey 73 = .ok (.iconst 0, 1) := by decide +kernel
theorem dX4_readKey_74 : decode cX4_readKey 74 = .ok (.ireturn, 1) := by decide +kernel
theorem dX4_readKey_75 : decode cX4_readKey 75 = .ok (.aload_n 0, 1) := by decide +kernel
theorem dX4_readKey_76 : decode cX4_readKey 76 = .ok (.getfield 9, 3) := by decide +kernel
theorem dX4_readKey_79 : decode cX4_readKey 79 = .ok (.iconst 0, 1) := by decide +kernel
theorem dX4_readKey_80 : decode cX4_readKey 80 = .ok (.sipush 999, 3) := by decide +kernel
theorem dX4_readKey_83 : decode cX4_readKey 83 = .ok (.invokevirtual 90, 3) := by decide +kernel
theorem dX4_readKey_86 : decode cX4_readKey 86 = .ok (.istore_n 2, 1) := by decide +kernel
theorem dX4_readKey_87 : decode cX4_readKey 87 = .ok (.iload_n 2, 1) := by decide +kernel
theorem dX4_readKey_88 : decode cX4_readKey 88 = .ok (.iconst (-1), 1) := by decide +kernel
theorem dX4_readKey_89 : decode cX4_readKey 89 = .ok (.if_icmp .ne 5, 3) := by decide +kernel
theorem dX4_readKey_92 : decode cX4_readKey 92 = .ok (.iconst 0, 1) := by decide +kernel
theorem dX4_readKey_93 : decode cX4_readKey 93 = .ok (.ireturn, 1) := by decide +kernel
theorem dX4_readKey_94 : decode cX4_readKey 94 = .ok (.aload_n 0, 1) := by decide +kernel
theorem dX4_readKey_95 : decode cX4_readKey 95 = .ok (.getfield 18, 3) := by decide +kernel
theorem dX4_readKey_98 : decode cX4_readKey 98 = .ok (.getfield 131, 3) := by decide +kernel
theorem dX4_readKey_101 : decode cX4_readKey 101 = .ok (.iload_n 1, 1) := by decide +kernel
theorem dX4_readKey_102 : decode cX4_readKey 102 = .ok (.iload_n 2, 1) := by decide +kernel
theorem dX4_readKey_103 : decode cX4_readKey 103 = .ok (.iastore, 1) := by decide +kernel
theorem dX4_readKey_104 : decode cX4_readKey 104 = .ok (.aload_n 0, 1) := by decide +kernel
theorem dX4_readKey_105 : decode cX4_readKey 105 = .ok (.getfield 18, 3) := by decide +kernel
theorem dX4_readKey_108 : decode cX4_readKey 108 = .ok (.iload_n 1, 1) := by decide +kernel
theorem dX4_readKey_109 : decode cX4_readKey 109 = .ok (.iconst 1, 1) := by decide +kernel
theorem dX4_readKey_110 : decode cX4_readKey 110 = .ok (.iadd, 1) := by decide +kernel
theorem dX4_readKey_111 : decode cX4_readKey 111 = .ok (.putfield 125, 3) := by decide +kernel
theorem dX4_readKey_114 : decode cX4_readKey 114 = .ok (.aload_n 0, 1) := by decide +kernel
theorem dX4_readKey_115 : decode cX4_readKey 115 = .ok (.getfield 9, 3) := by decide +kernel
theorem dX4_readKey_118 : decode cX4_readKey 118 = .ok (.invokevirtual 87, 3) := by decide +kernel
theorem dX4_readKey_121 : decode cX4_readKey 121 = .ok (.iconst 1, 1) := by decide +kernel
theorem dX4_readKey_122 : decode cX4_readKey 122 = .ok (.ireturn, 1) := by decide +kernel
def fX4_readKey (a0 : Nat) (G : Hp) : RT := bd (G ((rf a0 1)) 3) fun v1 => if v1 < 10 then (bn (fX7_step ((rf a0 0)) G) fun _ G2 => bn (fX4_isNewName a0 G2) fun v3 G4 => if v3 = 0 then rz 0 G4 else (bs (wr G4 ((rf ((rf a0 1)) 9)) 10 v1 (G4 ((rf a0 0)) 7)) fun G5 => bn (fX7_step ((rf a0 0)) G5) fun _ G6 => bn (fX7_takeWord ((rf a0 0)) 4 G6) fun v7 G8 => if v7 = 0 then rz 0 G8 else (bn (fX7_numberWithin ((rf a0 0)) 0 999 G8) fun v9 G10 => bd v9 fun v11 => if v11 = ((-1)) then rz 0 G10 else (bs (wr G10 ((rf ((rf a0 1)) 7)) 10 v1 v11) fun G12 => bh (up G12 ((rf a0 1)) 3 (iadd v1 1)) fun G13 => bn (fX7_step ((rf a0 0)) G13) fun _ G14 => rz 1 G14)))) else (bn (fX7_wrong ((rf a0 0)) 5 G) fun v18 G19 => rz v18 G19)
set_option maxRecDepth 20000 in
set_option maxHeartbeats 4000000 in
theorem tX4_readKey (l : Launch) (x : WX) (hi : Inj x.2.2) (G : Hp) (a0 : Nat) (ha0 : kd a0 = 4) : Ct l x yX4_readKey cX4_readKey 3 (some .boolean) 6 129 129 [vR a0] G (fX4_readKey a0 G) := by
  refine ct_of (plainFor_of_name (by decide)) hi (Nat.le_refl _) (Nat.le_refl _) (Nat.le_of_ble_eq_true rfl) (fun cx F hd hn0 hnE hl hQ => ?_)
  subst hl
  have F : Fx cx x RX4 cX4_readKey 3 (some .boolean) := F
  show Y cx x 3 (some .boolean) 129 0 [(0, vR a0)] [] G _
  unfold fX4_readKey
  refine x_aload_n F dX4_readKey_0 rfl rfl rfl ?_
  refine x_getR F flX4_18 ha0 rfl dX4_readKey_1 rfl ?_
  refine s_getI F flX4_125 (tf4_1 ha0).1 rfl dX4_readKey_4 rfl ?_
  refine x_istore_n F dX4_readKey_7 rfl (by decide) rfl rfl (fun v1 => ?_)
  show Y cx x _ _ _ _ [(0, vR a0), (1, vI v1)] _ _ _
  refine x_iload_n F dX4_readKey_8 rfl rfl rfl ?_
  refine x_bipush F dX4_readKey_9 ⟨by decide, by decide⟩ (by decide) rfl ?_
  refine x_icmplt (pt := 23) F dX4_readKey_11 rfl rfl ?_ ?_
  · refine x_aload_n F dX4_readKey_23 rfl rfl rfl ?_
    refine x_getR F flX4_9 ha0 rfl dX4_readKey_24 rfl ?_
    refine s_callVv F [] [] lkX4_87 mX7_step rfl (tf4_0 ha0).1 rfl hnE hn0 hd (tX7_step cx.l x hi G ((rf a0 0)) (tf4_0 ha0).1) rfl rfl dX4_readKey_27 rfl rfl (fun _ G2 => ?_)
    refine x_aload_n F dX4_readKey_30 rfl rfl rfl ?_
    refine s_callV F [] [] lkX4_100 mX4_isNewName rfl ha0 rfl hnE hn0 hd (tX4_isNewName cx.l x hi G2 a0 ha0) rfl rfl dX4_readKey_31 rfl rfl (fun v3 G4 => ?_)
    refine x_ifne (pt := 39) F dX4_readKey_34 rfl rfl ?_ ?_
    · refine x_iconst F dX4_readKey_37 ⟨by decide, by decide⟩ rfl ?_
      exact x_zret F hnE hQ dX4_readKey_38
    · refine x_aload_n F dX4_readKey_39 rfl rfl rfl ?_
      refine x_getR F flX4_18 ha0 rfl dX4_readKey_40 rfl ?_
      refine x_getR F flX4_128 (tf4_1 ha0).1 rfl dX4_readKey_43 rfl ?_
      refine x_iload_n F dX4_readKey_46 rfl rfl rfl ?_
      refine x_aload_n F dX4_readKey_47 rfl rfl rfl ?_
      refine x_getR F flX4_9 ha0 rfl dX4_readKey_48 rfl ?_
      refine s_getJ F flX4_107 (tf4_0 ha0).1 rfl rfl dX4_readKey_51 rfl ?_
      refine s_last F (tf8_9 (tf4_1 ha0).1).1 (tf8_9 (tf4_1 ha0).1).2 dX4_readKey_54 rfl (fun G5 => ?_)
      refine x_aload_n F dX4_readKey_55 rfl rfl rfl ?_
      refine x_getR F flX4_9 ha0 rfl dX4_readKey_56 rfl ?_
      refine s_callVv F [] [] lkX4_87 mX7_step rfl (tf4_0 ha0).1 rfl hnE hn0 hd (tX7_step cx.l x hi G5 ((rf a0 0)) (tf4_0 ha0).1) rfl rfl dX4_readKey_59 rfl rfl (fun _ G6 => ?_)
      refine x_aload_n F dX4_readKey_62 rfl rfl rfl ?_
      refine x_getR F flX4_9 ha0 rfl dX4_readKey_63 rfl ?_
      refine x_iconst F dX4_readKey_66 ⟨by decide, by decide⟩ rfl ?_
      refine s_callV F [vI 4] [] lkX4_115 mX7_takeWord rfl (tf4_0 ha0).1 rfl hnE hn0 hd (tX7_takeWord cx.l x hi G6 ((rf a0 0)) 4 (tf4_0 ha0).1) rfl rfl dX4_readKey_67 rfl rfl (fun v7 G8 => ?_)
      refine x_ifne (pt := 75) F dX4_readKey_70 rfl rfl ?_ ?_
      · refine x_iconst F dX4_readKey_73 ⟨by decide, by decide⟩ rfl ?_
        exact x_zret F hnE hQ dX4_readKey_74
      · refine x_aload_n F dX4_readKey_75 rfl rfl rfl ?_
        refine x_getR F flX4_9 ha0 rfl dX4_readKey_76 rfl ?_
        refine x_iconst F dX4_readKey_79 ⟨by decide, by decide⟩ rfl ?_
        refine x_sipush F dX4_readKey_80 ⟨by decide, by decide⟩ (by decide) rfl ?_
        refine s_callV F [vI 0, vI 999] [] lkX4_90 mX7_numberWithin rfl (tf4_0 ha0).1 rfl hnE hn0 hd (tX7_numberWithin cx.l x hi G8 ((rf a0 0)) 0 999 (tf4_0 ha0).1) rfl rfl dX4_readKey_83 rfl rfl (fun v9 G10 => ?_)
        refine x_istore_n F dX4_readKey_86 rfl (by decide) rfl rfl (fun v11 => ?_)
        show Y cx x _ _ _ _ [(0, vR a0), (1, vI v1), (2, vI v11)] _ _ _
        refine x_iload_n F dX4_readKey_87 rfl rfl rfl ?_
        refine x_iconst F dX4_readKey_88 ⟨by decide, by decide⟩ rfl ?_
        refine x_icmpne (pt := 94) F dX4_readKey_89 rfl rfl ?_ ?_
        · refine x_iconst F dX4_readKey_92 ⟨by decide, by decide⟩ rfl ?_
          exact x_zret F hnE hQ dX4_readKey_93
        · refine x_aload_n F dX4_readKey_94 rfl rfl rfl ?_
          refine x_getR F flX4_18 ha0 rfl dX4_readKey_95 rfl ?_
          refine x_getR F flX4_131 (tf4_1 ha0).1 rfl dX4_readKey_98 rfl ?_
          refine x_iload_n F dX4_readKey_101 rfl rfl rfl ?_
          refine x_iload_n F dX4_readKey_102 rfl rfl rfl ?_
          refine s_iast F (tf8_7 (tf4_1 ha0).1).1 (tf8_7 (tf4_1 ha0).1).2 dX4_readKey_103 rfl (fun G12 => ?_)
          refine x_aload_n F dX4_readKey_104 rfl rfl rfl ?_
          refine x_getR F flX4_18 ha0 rfl dX4_readKey_105 rfl ?_
          refine x_iload_n F dX4_readKey_108 rfl rfl rfl ?_
          refine x_iconst F dX4_readKey_109 ⟨by decide, by decide⟩ rfl ?_
          refine x_iadd F dX4_readKey_110 rfl ?_
          refine s_putI F fpX4_125 (tf4_1 ha0).1 rfl dX4_readKey_111 rfl (fun G13 => ?_)
          refine x_aload_n F dX4_readKey_114 rfl rfl rfl ?_
          refine x_getR F flX4_9 ha0 rfl dX4_readKey_115 rfl ?_
          refine s_callVv F [] [] lkX4_87 mX7_step rfl (tf4_0 ha0).1 rfl hnE hn0 hd (tX7_step cx.l x hi G13 ((rf a0 0)) (tf4_0 ha0).1) rfl rfl dX4_readKey_118 rfl rfl (fun _ G14 => ?_)
          refine x_iconst F dX4_readKey_121 ⟨by decide, by decide⟩ rfl ?_
          exact x_zret F hnE hQ dX4_readKey_122
  · refine x_aload_n F dX4_readKey_14 rfl rfl rfl ?_
    refine x_getR F flX4_9 ha0 rfl dX4_readKey_15 rfl ?_
    refine x_iconst F dX4_readKey_18 ⟨by decide, by decide⟩ rfl ?_
    refine s_callV F [vI 5] [] lkX4_58 mX7_wrong rfl (tf4_0 ha0).1 rfl hnE hn0 hd (tX7_wrong cx.l x hi G ((rf a0 0)) 5 (tf4_0 ha0).1) rfl rfl dX4_readKey_19 rfl rfl (fun v18 G19 => ?_)
    exact x_zret F hnE hQ dX4_readKey_22
