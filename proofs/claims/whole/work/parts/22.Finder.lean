theorem dX1_farthestBelow_0 : decode cX1_farthestBelow 0 = .ok (.iconst (-1), 1) := by decide +kernel
theorem dX1_farthestBelow_1 : decode cX1_farthestBelow 1 = .ok (.istore_n 3, 1) := by decide +kernel
theorem dX1_farthestBelow_2 : decode cX1_farthestBelow 2 = .ok (.iconst 0, 1) := by decide +kernel
theorem dX1_farthestBelow_3 : decode cX1_farthestBelow 3 = .ok (.istore 4, 2) := by decide +kernel
theorem dX1_farthestBelow_5 : decode cX1_farthestBelow 5 = .ok (.iconst 0, 1) := by decide +kernel
theorem dX1_farthestBelow_6 : decode cX1_farthestBelow 6 = .ok (.istore 5, 2) := by decide +kernel
theorem dX1_farthestBelow_8 : decode cX1_farthestBelow 8 = .ok (.iload 5, 2) := by decide +kernel
theorem dX1_farthestBelow_10 : decode cX1_farthestBelow 10 = .ok (.bipush 12, 2) := by decide +kernel
theorem dX1_farthestBelow_12 : decode cX1_farthestBelow 12 = .ok (.if_icmp .ge 102, 3) := by decide +kernel
theorem dX1_farthestBelow_15 : decode cX1_farthestBelow 15 = .ok (.iload 5, 2) := by decide +kernel
theorem dX1_farthestBelow_17 : decode cX1_farthestBelow 17 = .ok (.iconst 4, 1) := by decide +kernel
theorem dX1_farthestBelow_18 : decode cX1_farthestBelow 18 = .ok (.if_icmp .ge 16, 3) := by decide +kernel
theorem dX1_farthestBelow_21 : decode cX1_farthestBelow 21 = .ok (.aload_n 0, 1) := by decide +kernel
theorem dX1_farthestBelow_22 : decode cX1_farthestBelow 22 = .ok (.getfield 15, 3) := by decide +kernel
theorem dX1_farthestBelow_25 : decode cX1_farthestBelow 25 = .ok (.iload_n 1, 1) := by decide +kernel
theorem dX1_farthestBelow_26 : decode cX1_farthestBelow 26 = .ok (.iload 5, 2) := by decide +kernel
theorem dX1_farthestBelow_28 : decode cX1_farthestBelow 28 = .ok (.invokevirtual 57, 3) := by decide +kernel
theorem dX1_farthestBelow_31 : decode cX1_farthestBelow 31 = .ok (.goto 15, 3) := by decide +kernel
theorem dX1_farthestBelow_34 : decode cX1_farthestBelow 34 = .ok (.aload_n 0, 1) := by decide +kernel
theorem dX1_farthestBelow_35 : decode cX1_farthestBelow 35 = .ok (.getfield 15, 3) := by decide +kernel
theorem dX1_farthestBelow_38 : decode cX1_farthestBelow 38 = .ok (.iload_n 1, 1) := by decide +kernel
theorem dX1_farthestBelow_39 : decode cX1_farthestBelow 39 = .ok (.iload 5, 2) := by decide +kernel
theorem dX1_farthestBelow_41 : decode cX1_farthestBelow 41 = .ok (.iconst 4, 1) := by decide +kernel
theorem dX1_farthestBelow_42 : decode cX1_farthestBelow 42 = .ok (.isub, 1) := by decide +kernel
theorem dX1_farthestBelow_43 : decode cX1_farthestBelow 43 = .ok (.invokevirtual 60, 3) := by decide +kernel
theorem dX1_farthestBelow_46 : decode cX1_farthestBelow 46 = .ok (.istore 6, 2) := by decide +kernel
theorem dX1_farthestBelow_48 : decode cX1_farthestBelow 48 = .ok (.aload_n 0, 1) := by decide +kernel
theorem dX1_farthestBelow_49 : decode cX1_farthestBelow 49 = .ok (.getfield 15, 3) := by decide +kernel
theorem dX1_farthestBelow_52 : decode cX1_farthestBelow 52 = .ok (.iload 6, 2) := by decide +kernel
theorem dX1_farthestBelow_54 : decode cX1_farthestBelow 54 = .ok (.invokevirtual 30, 3) := by decide +kernel
theorem dX1_farthestBelow_57 : decode cX1_farthestBelow 57 = .ok (.ifCond .eq 51, 3) := by decide +kernel
theorem dX1_farthestBelow_60 : decode cX1_farthestBelow 60 = .ok (.aload_n 0, 1) := by decide +kernel
theorem dX1_farthestBelow_61 : decode cX1_farthestBelow 61 = .ok (.getfield 9, 3) := by decide +kernel
theorem dX1_farthestBelow_64 : decode cX1_farthestBelow 64 = .ok (.aload_n 0, 1) := by decide +kernel
theorem dX1_farthestBelow_65 : decode cX1_farthestBelow 65 = .ok (.getfield 9, 3) := by decide +kernel
theorem dX1_farthestBelow_68 : decode cX1_farthestBelow 68 = .ok (.getfield 48, 3) := by decide +kernel
theorem dX1_farthestBelow_71 : decode cX1_farthestBelow 71 = .ok (.iload_n 1, 1) := by decide +kernel
theorem dX1_farthestBelow_72 : decode cX1_farthestBelow 72 = .ok (.iaload, 1) := by decide +kernel
theorem dX1_farthestBelow_73 : decode cX1_farthestBelow 73 = .ok (.aload_n 0, 1) := by decide +kernel
theorem dX1_farthestBelow_74 : decode cX1_farthestBelow 74 = .ok (.getfield 9, 3) := by decide +kernel
theorem dX1_farthestBelow_77 : decode cX1_farthestBelow 77 = .ok (.getfield 48, 3) := by decide +kernel
theorem dX1_farthestBelow_80 : decode cX1_farthestBelow 80 = .ok (.iload 6, 2) := by decide +kernel
theorem dX1_farthestBelow_82 : decode cX1_farthestBelow 82 = .ok (.iaload, 1) := by decide +kernel
theorem dX1_farthestBelow_83 : decode cX1_farthestBelow 83 = .ok (.invokevirtual 51, 3) := by decide +kernel
theorem dX1_farthestBelow_86 : decode cX1_farthestBelow 86 = .ok (.istore 7, 2) := by decide +kernel
theorem dX1_farthestBelow_88 : decode cX1_farthestBelow 88 = .ok (.iload 7, 2) := by decide +kernel
theorem dX1_farthestBelow_90 : decode cX1_farthestBelow 90 = .ok (.iload_n 2, 1) := by decide +kernel
theorem dX1_farthestBelow_91 : decode cX1_farthestBelow 91 = .ok (.if_icmp .ge 17, 3) := by decide +kernel
theorem dX1_farthestBelow_94 : decode cX1_farthestBelow 94 = .ok (.iload 7, 2) := by decide +kernel
theorem dX1_farthestBelow_96 : decode cX1_farthestBelow 96 = .ok (.iload 4, 2) := by decide +kernel
theorem dX1_farthestBelow_98 : decode cX1_farthestBelow 98 = .ok (.if_icmp .le 10, 3) := by decide +kernel
theorem dX1_farthestBelow_101 : decode cX1_farthestBelow 101 = .ok (.iload 6, 2) := by decide +kernel
theorem dX1_farthestBelow_103 : decode cX1_farthestBelow 103 = .ok (.istore_n 3, 1) := by decide +kernel
theorem dX1_farthestBelow_104 : decode cX1_farthestBelow 104 = .ok (.iload 7, 2) := by decide +kernel
theorem dX1_farthestBelow_106 : decode cX1_farthestBelow 106 = .ok (.istore 4, 2) := by decide +kernel
theorem dX1_farthestBelow_108 : decode cX1_farthestBelow 108 = .ok (.iinc 5 1, 3) := by decide +kernel
theorem dX1_farthestBelow_111 : decode cX1_farthestBelow 111 = .ok (.goto (-103), 3) := by decide +kernel
theorem dX1_farthestBelow_114 : decode cX1_farthestBelow 114 = .ok (.iload_n 3, 1) := by decide +kernel
theorem dX1_farthestBelow_115 : decode cX1_farthestBelow 115 = .ok (.ireturn, 1) := by decide +kernel
def fX1_farthestBelow (a0 : Nat) (a1 : Int) (a2 : Int) (G : Hp) : RT := bd ((-1)) fun v1 => bd 0 fun v2 => bd 0 fun v3 => (lp (fun (_ : Int) (_ : Int) (_ : Int) => (none : RT)) 5000 (fun (rc7 : Int → Int → Int → RT) (v4 : Int) (v5 : Int) (v6 : Int) => if v6 < 12 then (jn (fun (v8 : Int) => bd v8 fun v10 => bp (fX6_isIn ((rf a0 1)) v10 G) fun v11 => jn (fun (v12 : Int) (v13 : Int) => bd (iadd v6 1) fun v15 => rc7 v12 v13 v15) fun (K14 : Int → Int → RT) => if v11 = 0 then K14 v4 v5 else (br (rd G ((rf ((rf a0 0)) 5)) 8 a1) fun v16 => br (rd G ((rf ((rf a0 0)) 5)) 8 v10) fun v17 => bp (fX8_way ((rf a0 0)) v16 v17 G) fun v18 => bd v18 fun v19 => if v19 < a2 then (if v5 < v19 then (bd v10 fun v20 => bd v19 fun v21 => K14 v20 v21) else K14 v4 v5) else K14 v4 v5)) fun (K9 : Int → RT) => if v6 < 4 then (bp (fX6_listAt ((rf a0 1)) a1 v6 G) fun v23 => K9 v23) else (bp (fX6_fingerAt ((rf a0 1)) a1 (isub v6 4) G) fun v22 => K9 v22)) else rt v4 G)) v1 v2 v3
theorem pX1_farthestBelow {G : Hp} {a0 : Nat} {a1 : Int} {a2 : Int} : PU G (fX1_farthestBelow a0 a1 a2 G) := by
  unfold fX1_farthestBelow
  refine PU_bd (fun v1 => ?_)
  refine PU_bd (fun v2 => ?_)
  refine PU_bd (fun v3 => ?_)
  refine x_lp (fun (rc7 : Int → Int → Int → RT) => ∀ (v4 : Int) (v5 : Int) (v6 : Int), PU G (rc7 v4 v5 v6)) (fun _ _ _ => PU_none) (fun rc7 phrc7 v4 v5 v6 => ?_) 5000 v1 v2 v3
  refine PU_ite ?_ ?_
  · refine PU_jn (fun (K9 : Int → RT) => ∀ (v8 : Int), PU G (K9 v8)) ?_ (fun K9 phK9 => ?_)
    · intro v8
      refine PU_bd (fun v10 => ?_)
      refine PU_bp (fun v11 => ?_)
      refine PU_jn (fun (K14 : Int → Int → RT) => ∀ (v12 : Int) (v13 : Int), PU G (K14 v12 v13)) ?_ (fun K14 phK14 => ?_)
      · intro v12 v13
        refine PU_bd (fun v15 => ?_)
        exact phrc7 v12 v13 v15
      · refine PU_ite ?_ ?_
        · exact phK14 v4 v5
        · refine PU_br (fun v16 => ?_)
          refine PU_br (fun v17 => ?_)
          refine PU_bp (fun v18 => ?_)
          refine PU_bd (fun v19 => ?_)
          refine PU_ite ?_ ?_
          · refine PU_ite ?_ ?_
            · refine PU_bd (fun v20 => ?_)
              refine PU_bd (fun v21 => ?_)
              exact phK14 v20 v21
            · exact phK14 v4 v5
          · exact phK14 v4 v5
    · refine PU_ite ?_ ?_
      · refine PU_bp (fun v23 => ?_)
        exact phK9 v23
      · refine PU_bp (fun v22 => ?_)
        exact phK9 v22
  · exact PU_rt
set_option maxRecDepth 20000 in
set_option maxHeartbeats 4000000 in
theorem tX1_farthestBelow (l : Launch) (x : WX) (hi : Inj x.2.2) (G : Hp) (a0 : Nat) (a1 : Int) (a2 : Int) (ha0 : kd a0 = 1) : Ct l x yX1_farthestBelow cX1_farthestBelow 8 (some .int) 1 129 129 [vR a0, vI a1, vI a2] G (fX1_farthestBelow a0 a1 a2 G) := by
  refine ct_of (plainFor_of_name (by decide)) hi (Nat.le_refl _) (Nat.le_refl _) (Nat.le_of_ble_eq_true rfl) (fun cx F hd hn0 hnE hl hQ => ?_)
  subst hl
  have F : Fx cx x RX1 cX1_farthestBelow 8 (some .int) := F
  show Y cx x 8 (some .int) 129 0 [(0, vR a0), (1, vI a1), (2, vI a2)] [] G _
  unfold fX1_farthestBelow
  refine x_iconst F dX1_farthestBelow_0 ⟨by decide, by decide⟩ rfl ?_
  refine x_istore_n F dX1_farthestBelow_1 rfl (by decide) rfl rfl (fun v1 => ?_)
  show Y cx x _ _ _ _ [(0, vR a0), (1, vI a1), (2, vI a2), (3, vI v1)] _ _ _
  refine x_iconst F dX1_farthestBelow_2 ⟨by decide, by decide⟩ rfl ?_
  refine x_istore F dX1_farthestBelow_3 (by decide) rfl rfl (fun v2 => ?_)
  show Y cx x _ _ _ _ [(0, vR a0), (1, vI a1), (2, vI a2), (3, vI v1), (4, vI v2)] _ _ _
  refine x_iconst F dX1_farthestBelow_5 ⟨by decide, by decide⟩ rfl ?_
  refine x_istore F dX1_farthestBelow_6 (by decide) rfl rfl (fun v3 => ?_)
  show Y cx x _ _ _ _ [(0, vR a0), (1, vI a1), (2, vI a2), (3, vI v1), (4, vI v2), (5, vI v3)] _ _ _
  refine x_lp (fun (rc7 : Int → Int → Int → RT) => ∀ (v4 : Int) (v5 : Int) (v6 : Int), Y cx x 8 (some .int) 129 8 [(0, vR a0), (1, vI a1), (2, vI a2), (3, vI v4), (4, vI v5), (5, vI v6)] [] G (rc7 v4 v5 v6)) (fun _ _ _ => Y_none) (fun rc7 hrc7 v4 v5 v6 => ?_) 5000 v1 v2 v3
  refine x_iload F dX1_farthestBelow_8 rfl rfl ?_
  refine x_bipush F dX1_farthestBelow_10 ⟨by decide, by decide⟩ (by decide) rfl ?_
  refine x_icmpge (pt := 114) F dX1_farthestBelow_12 rfl rfl ?_ ?_
  · refine x_iload F dX1_farthestBelow_15 rfl rfl ?_
    refine x_iconst F dX1_farthestBelow_17 ⟨by decide, by decide⟩ rfl ?_
    refine x_jn (fun (K9 : Int → RT) => ∀ (v8 : Int), Y cx x 8 (some .int) 129 46 [(0, vR a0), (1, vI a1), (2, vI a2), (3, vI v4), (4, vI v5), (5, vI v6)] [vI v8] G (K9 v8)) ?_ (fun K9 hK9 => ?_)
    · intro v8
      refine x_istore F dX1_farthestBelow_46 (by decide) rfl rfl (fun v10 => ?_)
      show Y cx x _ _ _ _ [(0, vR a0), (1, vI a1), (2, vI a2), (3, vI v4), (4, vI v5), (5, vI v6), (6, vI v10)] _ _ _
      refine x_aload_n F dX1_farthestBelow_48 rfl rfl rfl ?_
      refine x_getR F flX1_15 ha0 rfl dX1_farthestBelow_49 rfl ?_
      refine x_iload F dX1_farthestBelow_52 rfl rfl ?_
      refine s_callVP F [vI v10] [] lkX1_30 mX6_isIn rfl (tf1_1 ha0).1 rfl hnE hn0 hd pX6_isIn (tX6_isIn cx.l x hi G ((rf a0 1)) v10 (tf1_1 ha0).1) rfl rfl dX1_farthestBelow_54 rfl rfl (fun v11 => ?_)
      refine x_jn (fun (K14 : Int → Int → RT) => ∀ (v12 : Int) (v13 : Int), Y cx x 8 (some .int) 129 108 [(0, vR a0), (1, vI a1), (2, vI a2), (3, vI v12), (4, vI v13), (5, vI v6)] [] G (K14 v12 v13)) ?_ (fun K14 hK14 => ?_)
      · intro v12 v13
        refine x_iinc F dX1_farthestBelow_108 rfl (by decide) rfl rfl (fun v15 => ?_)
        show Y cx x _ _ _ _ [(0, vR a0), (1, vI a1), (2, vI a2), (3, vI v12), (4, vI v13), (5, vI v15)] _ _ _
        refine x_goto (pc' := 8) F dX1_farthestBelow_111 rfl ?_
        exact hrc7 v12 v13 v15
      · refine x_ifeq (pt := 108) F dX1_farthestBelow_57 rfl rfl ?_ ?_
        · refine x_dp (L' := [(0, vR a0), (1, vI a1), (2, vI a2), (3, vI v4), (4, vI v5), (5, vI v6)]) [0, 1, 2, 3, 4, 5] rfl ?_
          exact hK14 v4 v5
        · refine x_aload_n F dX1_farthestBelow_60 rfl rfl rfl ?_
          refine x_getR F flX1_9 ha0 rfl dX1_farthestBelow_61 rfl ?_
          refine x_aload_n F dX1_farthestBelow_64 rfl rfl rfl ?_
          refine x_getR F flX1_9 ha0 rfl dX1_farthestBelow_65 rfl ?_
          refine x_getR F flX1_48 (tf1_0 ha0).1 rfl dX1_farthestBelow_68 rfl ?_
          refine x_iload_n F dX1_farthestBelow_71 rfl rfl rfl ?_
          refine s_iald F (tf8_5 (tf1_0 ha0).1).1 (tf8_5 (tf1_0 ha0).1).2 dX1_farthestBelow_72 rfl (fun v16 => ?_)
          refine x_aload_n F dX1_farthestBelow_73 rfl rfl rfl ?_
          refine x_getR F flX1_9 ha0 rfl dX1_farthestBelow_74 rfl ?_
          refine x_getR F flX1_48 (tf1_0 ha0).1 rfl dX1_farthestBelow_77 rfl ?_
          refine x_iload F dX1_farthestBelow_80 rfl rfl ?_
          refine s_iald F (tf8_5 (tf1_0 ha0).1).1 (tf8_5 (tf1_0 ha0).1).2 dX1_farthestBelow_82 rfl (fun v17 => ?_)
          refine s_callVP F [vI v16, vI v17] [] lkX1_51 mX8_way rfl (tf1_0 ha0).1 rfl hnE hn0 hd pX8_way (tX8_way cx.l x hi G ((rf a0 0)) v16 v17 (tf1_0 ha0).1) rfl rfl dX1_farthestBelow_83 rfl rfl (fun v18 => ?_)
          refine x_istore F dX1_farthestBelow_86 (by decide) rfl rfl (fun v19 => ?_)
          show Y cx x _ _ _ _ [(0, vR a0), (1, vI a1), (2, vI a2), (3, vI v4), (4, vI v5), (5, vI v6), (6, vI v10), (7, vI v19)] _ _ _
          refine x_iload F dX1_farthestBelow_88 rfl rfl ?_
          refine x_iload_n F dX1_farthestBelow_90 rfl rfl rfl ?_
          refine x_icmpge (pt := 108) F dX1_farthestBelow_91 rfl rfl ?_ ?_
          · refine x_iload F dX1_farthestBelow_94 rfl rfl ?_
            refine x_iload F dX1_farthestBelow_96 rfl rfl ?_
            refine x_icmple (pt := 108) F dX1_farthestBelow_98 rfl rfl ?_ ?_
            · refine x_iload F dX1_farthestBelow_101 rfl rfl ?_
              refine x_dp (L' := [(0, vR a0), (1, vI a1), (2, vI a2), (3, vI v4), (5, vI v6), (7, vI v19)]) [0, 1, 2, 3, 5, 7] rfl ?_
              refine x_istore_n F dX1_farthestBelow_103 rfl (by decide) rfl rfl (fun v20 => ?_)
              show Y cx x _ _ _ _ [(0, vR a0), (1, vI a1), (2, vI a2), (3, vI v20), (5, vI v6), (7, vI v19)] _ _ _
              refine x_iload F dX1_farthestBelow_104 rfl rfl ?_
              refine x_dp (L' := [(0, vR a0), (1, vI a1), (2, vI a2), (3, vI v20), (5, vI v6)]) [0, 1, 2, 3, 4] rfl ?_
              refine x_istore F dX1_farthestBelow_106 (by decide) rfl rfl (fun v21 => ?_)
              show Y cx x _ _ _ _ [(0, vR a0), (1, vI a1), (2, vI a2), (3, vI v20), (5, vI v6), (4, vI v21)] _ _ _
              refine x_dp (L' := [(0, vR a0), (1, vI a1), (2, vI a2), (3, vI v20), (4, vI v21), (5, vI v6)]) [0, 1, 2, 3, 5, 4] rfl ?_
              exact hK14 v20 v21
            · refine x_dp (L' := [(0, vR a0), (1, vI a1), (2, vI a2), (3, vI v4), (4, vI v5), (5, vI v6)]) [0, 1, 2, 3, 4, 5] rfl ?_
              exact hK14 v4 v5
          · refine x_dp (L' := [(0, vR a0), (1, vI a1), (2, vI a2), (3, vI v4), (4, vI v5), (5, vI v6)]) [0, 1, 2, 3, 4, 5] rfl ?_
            exact hK14 v4 v5
    · refine x_icmpge (pt := 34) F dX1_farthestBelow_18 rfl rfl ?_ ?_
      · refine x_aload_n F dX1_farthestBelow_21 rfl rfl rfl ?_
        refine x_getR F flX1_15 ha0 rfl dX1_farthestBelow_22 rfl ?_
        refine x_iload_n F dX1_farthestBelow_25 rfl rfl rfl ?_
        refine x_iload F dX1_farthestBelow_26 rfl rfl ?_
        refine s_callVP F [vI a1, vI v6] [] lkX1_57 mX6_listAt rfl (tf1_1 ha0).1 rfl hnE hn0 hd pX6_listAt (tX6_listAt cx.l x hi G ((rf a0 1)) a1 v6 (tf1_1 ha0).1) rfl rfl dX1_farthestBelow_28 rfl rfl (fun v23 => ?_)
        refine x_goto (pc' := 46) F dX1_farthestBelow_31 rfl ?_
        exact hK9 v23
      · refine x_aload_n F dX1_farthestBelow_34 rfl rfl rfl ?_
        refine x_getR F flX1_15 ha0 rfl dX1_farthestBelow_35 rfl ?_
        refine x_iload_n F dX1_farthestBelow_38 rfl rfl rfl ?_
        refine x_iload F dX1_farthestBelow_39 rfl rfl ?_
        refine x_iconst F dX1_farthestBelow_41 ⟨by decide, by decide⟩ rfl ?_
        refine x_isub F dX1_farthestBelow_42 rfl ?_
        refine s_callVP F [vI a1, vI (isub v6 4)] [] lkX1_60 mX6_fingerAt rfl (tf1_1 ha0).1 rfl hnE hn0 hd pX6_fingerAt (tX6_fingerAt cx.l x hi G ((rf a0 1)) a1 (isub v6 4) (tf1_1 ha0).1) rfl rfl dX1_farthestBelow_43 rfl rfl (fun v22 => ?_)
        exact hK9 v22
  · refine x_iload_n F dX1_farthestBelow_114 rfl rfl rfl ?_
    exact x_iret F hnE hQ dX1_farthestBelow_115
theorem dX1_seek_0 : decode cX1_seek 0 = .ok (.aload_n 0, 1) := by decide +kernel
theorem dX1_seek_1 : decode cX1_seek 1 = .ok (.iconst (-1), 1) := by decide +kernel
theorem dX1_seek_2 : decode cX1_seek 2 = .ok (.putfield 23, 3) := by decide +kernel
theorem dX1_seek_5 : decode cX1_seek 5 = .ok (.aload_n 0, 1) := by decide +kernel
theorem dX1_seek_6 : decode cX1_seek 6 = .ok (.iconst 0, 1) := by decide +kernel
theorem dX1_seek_7 : decode cX1_seek 7 = .ok (.putfield 27, 3) := by decide +kernel
theorem dX1_seek_10 : decode cX1_seek 10 = .ok (.aload_n 0, 1) := by decide +kernel
theorem dX1_seek_11 : decode cX1_seek 11 = .ok (.getfield 15, 3) := by decide +kernel
theorem dX1_seek_14 : decode cX1_seek 14 = .ok (.iload_n 1, 1) := by decide +kernel
theorem dX1_seek_15 : decode cX1_seek 15 = .ok (.invokevirtual 30, 3) := by decide +kernel
theorem dX1_seek_18 : decode cX1_seek 18 = .ok (.ifCond .eq 14, 3) := by decide +kernel
theorem dX1_seek_21 : decode cX1_seek 21 = .ok (.aload_n 0, 1) := by decide +kernel
theorem dX1_seek_22 : decode cX1_seek 22 = .ok (.getfield 9, 3) := by decide +kernel
theorem dX1_seek_25 : decode cX1_seek 25 = .ok (.iload_n 2, 1) := by decide +kernel
theorem dX1_seek_26 : decode cX1_seek 26 = .ok (.invokevirtual 36, 3) := by decide +kernel
theorem dX1_seek_29 : decode cX1_seek 29 = .ok (.ifCond .ne 5, 3) := by decide +kernel
theorem dX1_seek_32 : decode cX1_seek 32 = .ok (.iconst 0, 1) := by decide +kernel
theorem dX1_seek_33 : decode cX1_seek 33 = .ok (.ireturn, 1) := by decide +kernel
theorem dX1_seek_34 : decode cX1_seek 34 = .ok (.iload_n 1, 1) := by decide +kernel
theorem dX1_seek_35 : decode cX1_seek 35 = .ok (.istore_n 3, 1) := by decide +kernel
theorem dX1_seek_36 : decode cX1_seek 36 = .ok (.iconst 0, 1) := by decide +kernel
theorem dX1_seek_37 : decode cX1_seek 37 = .ok (.istore 4, 2) := by decide +kernel
theorem dX1_seek_39 : decode cX1_seek 39 = .ok (.iload 4, 2) := by decide +kernel
theorem dX1_seek_41 : decode cX1_seek 41 = .ok (.bipush 20, 2) := by decide +kernel
theorem dX1_seek_43 : decode cX1_seek 43 = .ok (.if_icmp .gt 128, 3) := by decide +kernel
theorem dX1_seek_46 : decode cX1_seek 46 = .ok (.iload_n 3, 1) := by decide +kernel
theorem dX1_seek_47 : decode cX1_seek 47 = .ok (.iconst (-1), 1) := by decide +kernel
theorem dX1_seek_48 : decode cX1_seek 48 = .ok (.if_icmp .eq 123, 3) := by decide +kernel
theorem dX1_seek_51 : decode cX1_seek 51 = .ok (.aload_n 0, 1) := by decide +kernel
theorem dX1_seek_52 : decode cX1_seek 52 = .ok (.getfield 15, 3) := by decide +kernel
theorem dX1_seek_55 : decode cX1_seek 55 = .ok (.iload_n 3, 1) := by decide +kernel
theorem dX1_seek_56 : decode cX1_seek 56 = .ok (.aload_n 0, 1) := by decide +kernel
theorem dX1_seek_57 : decode cX1_seek 57 = .ok (.getfield 15, 3) := by decide +kernel
theorem dX1_seek_60 : decode cX1_seek 60 = .ok (.getfield 41, 3) := by decide +kernel
theorem dX1_seek_63 : decode cX1_seek 63 = .ok (.invokevirtual 44, 3) := by decide +kernel
theorem dX1_seek_66 : decode cX1_seek 66 = .ok (.istore 5, 2) := by decide +kernel
theorem dX1_seek_68 : decode cX1_seek 68 = .ok (.iload 5, 2) := by decide +kernel
theorem dX1_seek_70 : decode cX1_seek 70 = .ok (.iconst (-1), 1) := by decide +kernel
theorem dX1_seek_71 : decode cX1_seek 71 = .ok (.if_icmp .ne 5, 3) := by decide +kernel
theorem dX1_seek_74 : decode cX1_seek 74 = .ok (.iconst 0, 1) := by decide +kernel
theorem dX1_seek_75 : decode cX1_seek 75 = .ok (.ireturn, 1) := by decide +kernel
theorem dX1_seek_76 : decode cX1_seek 76 = .ok (.aload_n 0, 1) := by decide +kernel
theorem dX1_seek_77 : decode cX1_seek 77 = .ok (.getfield 9, 3) := by decide +kernel
theorem dX1_seek_80 : decode cX1_seek 80 = .ok (.aload_n 0, 1) := by decide +kernel
theorem dX1_seek_81 : decode cX1_seek 81 = .ok (.getfield 9, 3) := by decide +kernel
theorem dX1_seek_84 : decode cX1_seek 84 = .ok (.getfield 48, 3) := by decide +kernel
theorem dX1_seek_87 : decode cX1_seek 87 = .ok (.iload_n 3, 1) := by decide +kernel
theorem dX1_seek_88 : decode cX1_seek 88 = .ok (.iaload, 1) := by decide +kernel
theorem dX1_seek_89 : decode cX1_seek 89 = .ok (.iload_n 2, 1) := by decide +kernel
theorem dX1_seek_90 : decode cX1_seek 90 = .ok (.invokevirtual 51, 3) := by decide +kernel
theorem dX1_seek_93 : decode cX1_seek 93 = .ok (.istore 6, 2) := by decide +kernel
theorem dX1_seek_95 : decode cX1_seek 95 = .ok (.iload 6, 2) := by decide +kernel
theorem dX1_seek_97 : decode cX1_seek 97 = .ok (.aload_n 0, 1) := by decide +kernel
theorem dX1_seek_98 : decode cX1_seek 98 = .ok (.getfield 9, 3) := by decide +kernel
theorem dX1_seek_101 : decode cX1_seek 101 = .ok (.aload_n 0, 1) := by decide +kernel
theorem dX1_seek_102 : decode cX1_seek 102 = .ok (.getfield 9, 3) := by decide +kernel
theorem dX1_seek_105 : decode cX1_seek 105 = .ok (.getfield 48, 3) := by decide +kernel
theorem dX1_seek_108 : decode cX1_seek 108 = .ok (.iload_n 3, 1) := by decide +kernel
theorem dX1_seek_109 : decode cX1_seek 109 = .ok (.iaload, 1) := by decide +kernel
theorem dX1_seek_110 : decode cX1_seek 110 = .ok (.aload_n 0, 1) := by decide +kernel
theorem dX1_seek_111 : decode cX1_seek 111 = .ok (.getfield 9, 3) := by decide +kernel
theorem dX1_seek_114 : decode cX1_seek 114 = .ok (.getfield 48, 3) := by decide +kernel
theorem dX1_seek_117 : decode cX1_seek 117 = .ok (.iload 5, 2) := by decide +kernel
theorem dX1_seek_119 : decode cX1_seek 119 = .ok (.iaload, 1) := by decide +kernel
theorem dX1_seek_120 : decode cX1_seek 120 = .ok (.invokevirtual 51, 3) := by decide +kernel
theorem dX1_seek_123 : decode cX1_seek 123 = .ok (.if_icmp .gt 11, 3) := by decide +kernel
theorem dX1_seek_126 : decode cX1_seek 126 = .ok (.aload_n 0, 1) := by decide +kernel
theorem dX1_seek_127 : decode cX1_seek 127 = .ok (.iload 5, 2) := by decide +kernel
theorem dX1_seek_129 : decode cX1_seek 129 = .ok (.putfield 23, 3) := by decide +kernel
theorem dX1_seek_132 : decode cX1_seek 132 = .ok (.iconst 1, 1) := by decide +kernel
theorem dX1_seek_133 : decode cX1_seek 133 = .ok (.ireturn, 1) := by decide +kernel
theorem dX1_seek_134 : decode cX1_seek 134 = .ok (.iload 4, 2) := by decide +kernel
theorem dX1_seek_136 : decode cX1_seek 136 = .ok (.bipush 20, 2) := by decide +kernel
theorem dX1_seek_138 : decode cX1_seek 138 = .ok (.if_icmp .ge 27, 3) := by decide +kernel
theorem dX1_seek_141 : decode cX1_seek 141 = .ok (.aload_n 0, 1) := by decide +kernel
theorem dX1_seek_142 : decode cX1_seek 142 = .ok (.iload_n 3, 1) := by decide +kernel
theorem dX1_seek_143 : decode cX1_seek 143 = .ok (.iload 6, 2) := by decide +kernel
theorem dX1_seek_145 : decode cX1_seek 145 = .ok (.invokevirtual 54, 3) := by decide +kernel
theorem dX1_seek_148 : decode cX1_seek 148 = .ok (.istore_n 3, 1) := by decide +kernel
theorem dX1_seek_149 : decode cX1_seek 149 = .ok (.aload_n 0, 1) := by decide +kernel
theorem dX1_seek_150 : decode cX1_seek 150 = .ok (.getfield 19, 3) := by decide +kernel
theorem dX1_seek_153 : decode cX1_seek 153 = .ok (.iload 4, 2) := by decide +kernel
theorem dX1_seek_155 : decode cX1_seek 155 = .ok (.iload_n 3, 1) := by decide +kernel
theorem dX1_seek_156 : decode cX1_seek 156 = .ok (.iastore, 1) := by decide +kernel
theorem dX1_seek_157 : decode cX1_seek 157 = .ok (.aload_n 0, 1) := by decide +kernel
theorem dX1_seek_158 : decode cX1_seek 158 = .ok (.iload 4, 2) := by decide +kernel
theorem dX1_seek_160 : decode cX1_seek 160 = .ok (.iconst 1, 1) := by decide +kernel
theorem dX1_seek_161 : decode cX1_seek 161 = .ok (.iadd, 1) := by decide +kernel
theorem dX1_seek_162 : decode cX1_seek 162 = .ok (.putfield 27, 3) := by decide +kernel
theorem dX1_seek_165 : decode cX1_seek 165 = .ok (.iinc 4 1, 3) := by decide +kernel
theorem dX1_seek_168 : decode cX1_seek 168 = .ok (.goto (-129), 3) := by decide +kernel
theorem dX1_seek_171 : decode cX1_seek 171 = .ok (.iconst 0, 1) := by decide +kernel
theorem dX1_seek_172 : decode cX1_seek 172 = .ok (.ireturn, 1) := by decide +kernel
def fX1_seek (a0 : Nat) (a1 : Int) (a2 : Int) (G : Hp) : RT := bh (up G a0 3 ((-1))) fun G1 => bh (up G1 a0 4 0) fun G2 => bp (fX6_isIn ((rf a0 1)) a1 G2) fun v3 => if v3 = 0 then rz 0 G2 else (bp (fX8_isPlace ((rf a0 0)) a2 G2) fun v4 => if v4 = 0 then rz 0 G2 else (bd a1 fun v5 => bd 0 fun v6 => (lp (fun (_ : Int) (_ : Int) (_ : Hp) => (none : RT)) 5000 (fun (rc10 : Int → Int → Hp → RT) (v7 : Int) (v8 : Int) (G9 : Hp) => if 20 < v8 then rz 0 G9 else (if v7 = ((-1)) then rz 0 G9 else (bp (fX6_firstOf ((rf a0 1)) v7 (G9 ((rf a0 1)) 1) G9) fun v11 => bd v11 fun v12 => if v12 = ((-1)) then rz 0 G9 else (br (rd G9 ((rf ((rf a0 0)) 5)) 8 v7) fun v13 => bp (fX8_way ((rf a0 0)) v13 a2 G9) fun v14 => bd v14 fun v15 => br (rd G9 ((rf ((rf a0 0)) 5)) 8 v7) fun v16 => br (rd G9 ((rf ((rf a0 0)) 5)) 8 v12) fun v17 => bp (fX8_way ((rf a0 0)) v16 v17 G9) fun v18 => if v18 < v15 then (jn (fun (v19 : Int) (G20 : Hp) => bd (iadd v8 1) fun v22 => rc10 v19 v22 G20) fun (K21 : Int → Hp → RT) => if v8 < 20 then (bp (fX1_farthestBelow a0 v7 v15 G9) fun v23 => bd v23 fun v24 => bs (wr G9 ((rf a0 2)) 20 v8 v24) fun G25 => bh (up G25 a0 4 (iadd v8 1)) fun G26 => K21 v24 G26) else K21 v7 G9) else (bh (up G9 a0 3 v12) fun G27 => rz 1 G27)))))) v5 v6 G2))
set_option maxRecDepth 20000 in
set_option maxHeartbeats 4000000 in
theorem tX1_seek (l : Launch) (x : WX) (hi : Inj x.2.2) (G : Hp) (a0 : Nat) (a1 : Int) (a2 : Int) (ha0 : kd a0 = 1) : Ct l x yX1_seek cX1_seek 7 (some .boolean) 2 129 129 [vR a0, vI a1, vI a2] G (fX1_seek a0 a1 a2 G) := by
  refine ct_of (plainFor_of_name (by decide)) hi (Nat.le_refl _) (Nat.le_refl _) (Nat.le_of_ble_eq_true rfl) (fun cx F hd hn0 hnE hl hQ => ?_)
  subst hl
  have F : Fx cx x RX1 cX1_seek 7 (some .boolean) := F
  show Y cx x 7 (some .boolean) 129 0 [(0, vR a0), (1, vI a1), (2, vI a2)] [] G _
  unfold fX1_seek
  refine x_aload_n F dX1_seek_0 rfl rfl rfl ?_
  refine x_iconst F dX1_seek_1 ⟨by decide, by decide⟩ rfl ?_
  refine s_putI F fpX1_23 ha0 rfl dX1_seek_2 rfl (fun G1 => ?_)
  refine x_aload_n F dX1_seek_5 rfl rfl rfl ?_
  refine x_iconst F dX1_seek_6 ⟨by decide, by decide⟩ rfl ?_
  refine s_putI F fpX1_27 ha0 rfl dX1_seek_7 rfl (fun G2 => ?_)
  refine x_aload_n F dX1_seek_10 rfl rfl rfl ?_
  refine x_getR F flX1_15 ha0 rfl dX1_seek_11 rfl ?_
  refine x_iload_n F dX1_seek_14 rfl rfl rfl ?_
  refine s_callVP F [vI a1] [] lkX1_30 mX6_isIn rfl (tf1_1 ha0).1 rfl hnE hn0 hd pX6_isIn (tX6_isIn cx.l x hi G2 ((rf a0 1)) a1 (tf1_1 ha0).1) rfl rfl dX1_seek_15 rfl rfl (fun v3 => ?_)
  refine x_ifeq (pt := 32) F dX1_seek_18 rfl rfl ?_ ?_
  · refine x_iconst F dX1_seek_32 ⟨by decide, by decide⟩ rfl ?_
    exact x_zret F hnE hQ dX1_seek_33
  · refine x_aload_n F dX1_seek_21 rfl rfl rfl ?_
    refine x_getR F flX1_9 ha0 rfl dX1_seek_22 rfl ?_
    refine x_iload_n F dX1_seek_25 rfl rfl rfl ?_
    refine s_callVP F [vI a2] [] lkX1_36 mX8_isPlace rfl (tf1_0 ha0).1 rfl hnE hn0 hd pX8_isPlace (tX8_isPlace cx.l x hi G2 ((rf a0 0)) a2 (tf1_0 ha0).1) rfl rfl dX1_seek_26 rfl rfl (fun v4 => ?_)
    refine x_ifne (pt := 34) F dX1_seek_29 rfl rfl ?_ ?_
    · refine x_iconst F dX1_seek_32 ⟨by decide, by decide⟩ rfl ?_
      exact x_zret F hnE hQ dX1_seek_33
    · refine x_iload_n F dX1_seek_34 rfl rfl rfl ?_
      refine x_dp (L' := [(0, vR a0), (2, vI a2)]) [0, 2] rfl ?_
      refine x_istore_n F dX1_seek_35 rfl (by decide) rfl rfl (fun v5 => ?_)
      show Y cx x _ _ _ _ [(0, vR a0), (2, vI a2), (3, vI v5)] _ _ _
      refine x_iconst F dX1_seek_36 ⟨by decide, by decide⟩ rfl ?_
      refine x_istore F dX1_seek_37 (by decide) rfl rfl (fun v6 => ?_)
      show Y cx x _ _ _ _ [(0, vR a0), (2, vI a2), (3, vI v5), (4, vI v6)] _ _ _
      refine x_lp (fun (rc10 : Int → Int → Hp → RT) => ∀ (v7 : Int) (v8 : Int) (G9 : Hp), Y cx x 7 (some .boolean) 129 39 [(0, vR a0), (2, vI a2), (3, vI v7), (4, vI v8)] [] G9 (rc10 v7 v8 G9)) (fun _ _ _ => Y_none) (fun rc10 hrc10 v7 v8 G9 => ?_) 5000 v5 v6 G2
      refine x_iload F dX1_seek_39 rfl rfl ?_
      refine x_bipush F dX1_seek_41 ⟨by decide, by decide⟩ (by decide) rfl ?_
      refine x_icmpgt (pt := 171) F dX1_seek_43 rfl rfl ?_ ?_
      · refine x_iconst F dX1_seek_171 ⟨by decide, by decide⟩ rfl ?_
        exact x_zret F hnE hQ dX1_seek_172
      · refine x_iload_n F dX1_seek_46 rfl rfl rfl ?_
        refine x_iconst F dX1_seek_47 ⟨by decide, by decide⟩ rfl ?_
        refine x_icmpeq (pt := 171) F dX1_seek_48 rfl rfl ?_ ?_
        · refine x_iconst F dX1_seek_171 ⟨by decide, by decide⟩ rfl ?_
          exact x_zret F hnE hQ dX1_seek_172
        · refine x_aload_n F dX1_seek_51 rfl rfl rfl ?_
          refine x_getR F flX1_15 ha0 rfl dX1_seek_52 rfl ?_
          refine x_iload_n F dX1_seek_55 rfl rfl rfl ?_
          refine x_aload_n F dX1_seek_56 rfl rfl rfl ?_
          refine x_getR F flX1_15 ha0 rfl dX1_seek_57 rfl ?_
          refine s_getI F flX1_41 (tf1_1 ha0).1 rfl dX1_seek_60 rfl ?_
          refine s_callVP F [vI v7, vI (G9 ((rf a0 1)) 1)] [] lkX1_44 mX6_firstOf rfl (tf1_1 ha0).1 rfl hnE hn0 hd pX6_firstOf (tX6_firstOf cx.l x hi G9 ((rf a0 1)) v7 (G9 ((rf a0 1)) 1) (tf1_1 ha0).1) rfl rfl dX1_seek_63 rfl rfl (fun v11 => ?_)
          refine x_istore F dX1_seek_66 (by decide) rfl rfl (fun v12 => ?_)
          show Y cx x _ _ _ _ [(0, vR a0), (2, vI a2), (3, vI v7), (4, vI v8), (5, vI v12)] _ _ _
          refine x_iload F dX1_seek_68 rfl rfl ?_
          refine x_iconst F dX1_seek_70 ⟨by decide, by decide⟩ rfl ?_
          refine x_icmpne (pt := 76) F dX1_seek_71 rfl rfl ?_ ?_
          · refine x_iconst F dX1_seek_74 ⟨by decide, by decide⟩ rfl ?_
            exact x_zret F hnE hQ dX1_seek_75
          · refine x_aload_n F dX1_seek_76 rfl rfl rfl ?_
            refine x_getR F flX1_9 ha0 rfl dX1_seek_77 rfl ?_
            refine x_aload_n F dX1_seek_80 rfl rfl rfl ?_
            refine x_getR F flX1_9 ha0 rfl dX1_seek_81 rfl ?_
            refine x_getR F flX1_48 (tf1_0 ha0).1 rfl dX1_seek_84 rfl ?_
            refine x_iload_n F dX1_seek_87 rfl rfl rfl ?_
            refine s_iald F (tf8_5 (tf1_0 ha0).1).1 (tf8_5 (tf1_0 ha0).1).2 dX1_seek_88 rfl (fun v13 => ?_)
            refine x_iload_n F dX1_seek_89 rfl rfl rfl ?_
            refine s_callVP F [vI v13, vI a2] [] lkX1_51 mX8_way rfl (tf1_0 ha0).1 rfl hnE hn0 hd pX8_way (tX8_way cx.l x hi G9 ((rf a0 0)) v13 a2 (tf1_0 ha0).1) rfl rfl dX1_seek_90 rfl rfl (fun v14 => ?_)
            refine x_istore F dX1_seek_93 (by decide) rfl rfl (fun v15 => ?_)
            show Y cx x _ _ _ _ [(0, vR a0), (2, vI a2), (3, vI v7), (4, vI v8), (5, vI v12), (6, vI v15)] _ _ _
            refine x_iload F dX1_seek_95 rfl rfl ?_
            refine x_aload_n F dX1_seek_97 rfl rfl rfl ?_
            refine x_getR F flX1_9 ha0 rfl dX1_seek_98 rfl ?_
            refine x_aload_n F dX1_seek_101 rfl rfl rfl ?_
            refine x_getR F flX1_9 ha0 rfl dX1_seek_102 rfl ?_
            refine x_getR F flX1_48 (tf1_0 ha0).1 rfl dX1_seek_105 rfl ?_
            refine x_iload_n F dX1_seek_108 rfl rfl rfl ?_
            refine s_iald F (tf8_5 (tf1_0 ha0).1).1 (tf8_5 (tf1_0 ha0).1).2 dX1_seek_109 rfl (fun v16 => ?_)
            refine x_aload_n F dX1_seek_110 rfl rfl rfl ?_
            refine x_getR F flX1_9 ha0 rfl dX1_seek_111 rfl ?_
            refine x_getR F flX1_48 (tf1_0 ha0).1 rfl dX1_seek_114 rfl ?_
            refine x_iload F dX1_seek_117 rfl rfl ?_
            refine s_iald F (tf8_5 (tf1_0 ha0).1).1 (tf8_5 (tf1_0 ha0).1).2 dX1_seek_119 rfl (fun v17 => ?_)
            refine s_callVP F [vI v16, vI v17] [vI v15] lkX1_51 mX8_way rfl (tf1_0 ha0).1 rfl hnE hn0 hd pX8_way (tX8_way cx.l x hi G9 ((rf a0 0)) v16 v17 (tf1_0 ha0).1) rfl rfl dX1_seek_120 rfl rfl (fun v18 => ?_)
            refine x_icmpgt (pt := 134) F dX1_seek_123 rfl rfl ?_ ?_
            · refine x_iload F dX1_seek_134 rfl rfl ?_
              refine x_bipush F dX1_seek_136 ⟨by decide, by decide⟩ (by decide) rfl ?_
              refine x_jn (fun (K21 : Int → Hp → RT) => ∀ (v19 : Int) (G20 : Hp), Y cx x 7 (some .boolean) 129 165 [(0, vR a0), (2, vI a2), (3, vI v19), (4, vI v8)] [] G20 (K21 v19 G20)) ?_ (fun K21 hK21 => ?_)
              · intro v19 G20
                refine x_iinc F dX1_seek_165 rfl (by decide) rfl rfl (fun v22 => ?_)
                show Y cx x _ _ _ _ [(0, vR a0), (2, vI a2), (3, vI v19), (4, vI v22)] _ _ _
                refine x_goto (pc' := 39) F dX1_seek_168 rfl ?_
                exact hrc10 v19 v22 G20
              · refine x_icmpge (pt := 165) F dX1_seek_138 rfl rfl ?_ ?_
                · refine x_aload_n F dX1_seek_141 rfl rfl rfl ?_
                  refine x_iload_n F dX1_seek_142 rfl rfl rfl ?_
                  refine x_iload F dX1_seek_143 rfl rfl ?_
                  refine s_callVP F [vI v7, vI v15] [] lkX1_54 mX1_farthestBelow rfl ha0 rfl hnE hn0 hd pX1_farthestBelow (tX1_farthestBelow cx.l x hi G9 a0 v7 v15 ha0) rfl rfl dX1_seek_145 rfl rfl (fun v23 => ?_)
                  refine x_dp (L' := [(0, vR a0), (2, vI a2), (3, vI v7), (4, vI v8)]) [0, 1, 2, 3] rfl ?_
                  refine x_istore_n F dX1_seek_148 rfl (by decide) rfl rfl (fun v24 => ?_)
                  show Y cx x _ _ _ _ [(0, vR a0), (2, vI a2), (3, vI v24), (4, vI v8)] _ _ _
                  refine x_aload_n F dX1_seek_149 rfl rfl rfl ?_
                  refine x_getR F flX1_19 ha0 rfl dX1_seek_150 rfl ?_
                  refine x_iload F dX1_seek_153 rfl rfl ?_
                  refine x_iload_n F dX1_seek_155 rfl rfl rfl ?_
                  refine s_iast F (tf1_2 ha0).1 (tf1_2 ha0).2 dX1_seek_156 rfl (fun G25 => ?_)
                  refine x_aload_n F dX1_seek_157 rfl rfl rfl ?_
                  refine x_iload F dX1_seek_158 rfl rfl ?_
                  refine x_iconst F dX1_seek_160 ⟨by decide, by decide⟩ rfl ?_
                  refine x_iadd F dX1_seek_161 rfl ?_
                  refine s_putI F fpX1_27 ha0 rfl dX1_seek_162 rfl (fun G26 => ?_)
                  exact hK21 v24 G26
                · refine x_dp (L' := [(0, vR a0), (2, vI a2), (3, vI v7), (4, vI v8)]) [0, 1, 2, 3] rfl ?_
                  exact hK21 v7 G9
            · refine x_aload_n F dX1_seek_126 rfl rfl rfl ?_
              refine x_iload F dX1_seek_127 rfl rfl ?_
              refine s_putI F fpX1_23 ha0 rfl dX1_seek_129 rfl (fun G27 => ?_)
              refine x_iconst F dX1_seek_132 ⟨by decide, by decide⟩ rfl ?_
              exact x_zret F hnE hQ dX1_seek_133
