theorem dX11_feed_0 : decode cX11_feed 0 = .ok (.aload_n 0, 1) := by decide +kernel
theorem dX11_feed_1 : decode cX11_feed 1 = .ok (.getfield 10, 3) := by decide +kernel
theorem dX11_feed_4 : decode cX11_feed 4 = .ok (.lload_n 1, 1) := by decide +kernel
theorem dX11_feed_5 : decode cX11_feed 5 = .ok (.invokevirtual 97, 3) := by decide +kernel
theorem dX11_feed_8 : decode cX11_feed 8 = .ok (.aload_n 0, 1) := by decide +kernel
theorem dX11_feed_9 : decode cX11_feed 9 = .ok (.getfield 10, 3) := by decide +kernel
theorem dX11_feed_12 : decode cX11_feed 12 = .ok (.lload_n 3, 1) := by decide +kernel
theorem dX11_feed_13 : decode cX11_feed 13 = .ok (.invokevirtual 97, 3) := by decide +kernel
theorem dX11_feed_16 : decode cX11_feed 16 = .ok (.aload_n 0, 1) := by decide +kernel
theorem dX11_feed_17 : decode cX11_feed 17 = .ok (.getfield 10, 3) := by decide +kernel
theorem dX11_feed_20 : decode cX11_feed 20 = .ok (.lload 5, 2) := by decide +kernel
theorem dX11_feed_22 : decode cX11_feed 22 = .ok (.invokevirtual 97, 3) := by decide +kernel
theorem dX11_feed_25 : decode cX11_feed 25 = .ok (.aload_n 0, 1) := by decide +kernel
theorem dX11_feed_26 : decode cX11_feed 26 = .ok (.getfield 10, 3) := by decide +kernel
theorem dX11_feed_29 : decode cX11_feed 29 = .ok (.getfield 101, 3) := by decide +kernel
theorem dX11_feed_32 : decode cX11_feed 32 = .ok (.ireturn, 1) := by decide +kernel
def fX11_feed (a0 : Nat) (a1 : Int) (a2 : Int) (a3 : Int) (G : Hp) : RT := bn (fX7_addBytes ((rf a0 0)) a1 G) fun _ G1 => bn (fX7_addBytes ((rf a0 0)) a2 G1) fun _ G2 => bn (fX7_addBytes ((rf a0 0)) a3 G2) fun _ G3 => rt (G3 ((rf a0 0)) 3) G3
set_option maxRecDepth 20000 in
set_option maxHeartbeats 4000000 in
theorem tX11_feed (l : Launch) (x : WX) (hi : Inj x.2.2) (G : Hp) (a0 : Nat) (a1 : Int) (a2 : Int) (a3 : Int) (ha0 : kd a0 = 11) : Ct l x yX11_feed cX11_feed 7 (some .int) 1 129 129 [vR a0, vL a1, vL a2, vL a3] G (fX11_feed a0 a1 a2 a3 G) := by
  refine ct_of (plainFor_of_name (by decide)) hi (Nat.le_refl _) (Nat.le_refl _) (Nat.le_of_ble_eq_true rfl) (fun cx F hd hn0 hnE hl hQ => ?_)
  subst hl
  have F : Fx cx x RX11 cX11_feed 7 (some .int) := F
  show Y cx x 7 (some .int) 129 0 [(0, vR a0), (1, vL a1), (3, vL a2), (5, vL a3)] [] G _
  unfold fX11_feed
  refine x_aload_n F dX11_feed_0 rfl rfl rfl ?_
  refine x_getR F flX11_10 ha0 rfl dX11_feed_1 rfl ?_
  refine x_lload_n F dX11_feed_4 rfl rfl rfl ?_
  refine s_callVv F [vL a1] [] lkX11_97 mX7_addBytes rfl (tf11_0 ha0).1 rfl hnE hn0 hd (tX7_addBytes cx.l x hi G ((rf a0 0)) a1 (tf11_0 ha0).1) rfl rfl dX11_feed_5 rfl rfl (fun _ G1 => ?_)
  refine x_aload_n F dX11_feed_8 rfl rfl rfl ?_
  refine x_getR F flX11_10 ha0 rfl dX11_feed_9 rfl ?_
  refine x_lload_n F dX11_feed_12 rfl rfl rfl ?_
  refine s_callVv F [vL a2] [] lkX11_97 mX7_addBytes rfl (tf11_0 ha0).1 rfl hnE hn0 hd (tX7_addBytes cx.l x hi G1 ((rf a0 0)) a2 (tf11_0 ha0).1) rfl rfl dX11_feed_13 rfl rfl (fun _ G2 => ?_)
  refine x_aload_n F dX11_feed_16 rfl rfl rfl ?_
  refine x_getR F flX11_10 ha0 rfl dX11_feed_17 rfl ?_
  refine x_lload F dX11_feed_20 rfl rfl ?_
  refine s_callVv F [vL a3] [] lkX11_97 mX7_addBytes rfl (tf11_0 ha0).1 rfl hnE hn0 hd (tX7_addBytes cx.l x hi G2 ((rf a0 0)) a3 (tf11_0 ha0).1) rfl rfl dX11_feed_22 rfl rfl (fun _ G3 => ?_)
  refine x_aload_n F dX11_feed_25 rfl rfl rfl ?_
  refine x_getR F flX11_10 ha0 rfl dX11_feed_26 rfl ?_
  refine s_getI F flX11_101 (tf11_0 ha0).1 rfl dX11_feed_29 rfl ?_
  exact x_iret F hnE hQ dX11_feed_32
theorem dX11_listed_0 : decode cX11_listed 0 = .ok (.aload_n 0, 1) := by decide +kernel
theorem dX11_listed_1 : decode cX11_listed 1 = .ok (.getfield 45, 3) := by decide +kernel
theorem dX11_listed_4 : decode cX11_listed 4 = .ok (.iload_n 1, 1) := by decide +kernel
theorem dX11_listed_5 : decode cX11_listed 5 = .ok (.iload_n 2, 1) := by decide +kernel
theorem dX11_listed_6 : decode cX11_listed 6 = .ok (.invokevirtual 157, 3) := by decide +kernel
theorem dX11_listed_9 : decode cX11_listed 9 = .ok (.ireturn, 1) := by decide +kernel
def fX11_listed (a0 : Nat) (a1 : Int) (a2 : Int) (G : Hp) : RT := bp (fX6_listAt ((rf a0 5)) a1 a2 G) fun v1 => rt v1 G
theorem pX11_listed {G : Hp} {a0 : Nat} {a1 : Int} {a2 : Int} : PU G (fX11_listed a0 a1 a2 G) := by
  unfold fX11_listed
  refine PU_bp (fun v1 => ?_)
  exact PU_rt
set_option maxRecDepth 20000 in
set_option maxHeartbeats 4000000 in
theorem tX11_listed (l : Launch) (x : WX) (hi : Inj x.2.2) (G : Hp) (a0 : Nat) (a1 : Int) (a2 : Int) (ha0 : kd a0 = 11) : Ct l x yX11_listed cX11_listed 3 (some .int) 1 129 129 [vR a0, vI a1, vI a2] G (fX11_listed a0 a1 a2 G) := by
  refine ct_of (plainFor_of_name (by decide)) hi (Nat.le_refl _) (Nat.le_refl _) (Nat.le_of_ble_eq_true rfl) (fun cx F hd hn0 hnE hl hQ => ?_)
  subst hl
  have F : Fx cx x RX11 cX11_listed 3 (some .int) := F
  show Y cx x 3 (some .int) 129 0 [(0, vR a0), (1, vI a1), (2, vI a2)] [] G _
  unfold fX11_listed
  refine x_aload_n F dX11_listed_0 rfl rfl rfl ?_
  refine x_getR F flX11_45 ha0 rfl dX11_listed_1 rfl ?_
  refine x_iload_n F dX11_listed_4 rfl rfl rfl ?_
  refine x_iload_n F dX11_listed_5 rfl rfl rfl ?_
  refine s_callVP F [vI a1, vI a2] [] lkX11_157 mX6_listAt rfl (tf11_5 ha0).1 rfl hnE hn0 hd pX6_listAt (tX6_listAt cx.l x hi G ((rf a0 5)) a1 a2 (tf11_5 ha0).1) rfl rfl dX11_listed_6 rfl rfl (fun v1 => ?_)
  exact x_iret F hnE hQ dX11_listed_9
theorem dX11_finger_0 : decode cX11_finger 0 = .ok (.aload_n 0, 1) := by decide +kernel
theorem dX11_finger_1 : decode cX11_finger 1 = .ok (.getfield 45, 3) := by decide +kernel
theorem dX11_finger_4 : decode cX11_finger 4 = .ok (.iload_n 1, 1) := by decide +kernel
theorem dX11_finger_5 : decode cX11_finger 5 = .ok (.iload_n 2, 1) := by decide +kernel
theorem dX11_finger_6 : decode cX11_finger 6 = .ok (.invokevirtual 160, 3) := by decide +kernel
theorem dX11_finger_9 : decode cX11_finger 9 = .ok (.ireturn, 1) := by decide +kernel
def fX11_finger (a0 : Nat) (a1 : Int) (a2 : Int) (G : Hp) : RT := bp (fX6_fingerAt ((rf a0 5)) a1 a2 G) fun v1 => rt v1 G
theorem pX11_finger {G : Hp} {a0 : Nat} {a1 : Int} {a2 : Int} : PU G (fX11_finger a0 a1 a2 G) := by
  unfold fX11_finger
  refine PU_bp (fun v1 => ?_)
  exact PU_rt
set_option maxRecDepth 20000 in
set_option maxHeartbeats 4000000 in
theorem tX11_finger (l : Launch) (x : WX) (hi : Inj x.2.2) (G : Hp) (a0 : Nat) (a1 : Int) (a2 : Int) (ha0 : kd a0 = 11) : Ct l x yX11_finger cX11_finger 3 (some .int) 1 129 129 [vR a0, vI a1, vI a2] G (fX11_finger a0 a1 a2 G) := by
  refine ct_of (plainFor_of_name (by decide)) hi (Nat.le_refl _) (Nat.le_refl _) (Nat.le_of_ble_eq_true rfl) (fun cx F hd hn0 hnE hl hQ => ?_)
  subst hl
  have F : Fx cx x RX11 cX11_finger 3 (some .int) := F
  show Y cx x 3 (some .int) 129 0 [(0, vR a0), (1, vI a1), (2, vI a2)] [] G _
  unfold fX11_finger
  refine x_aload_n F dX11_finger_0 rfl rfl rfl ?_
  refine x_getR F flX11_45 ha0 rfl dX11_finger_1 rfl ?_
  refine x_iload_n F dX11_finger_4 rfl rfl rfl ?_
  refine x_iload_n F dX11_finger_5 rfl rfl rfl ?_
  refine s_callVP F [vI a1, vI a2] [] lkX11_160 mX6_fingerAt rfl (tf11_5 ha0).1 rfl hnE hn0 hd pX6_fingerAt (tX6_fingerAt cx.l x hi G ((rf a0 5)) a1 a2 (tf11_5 ha0).1) rfl rfl dX11_finger_6 rfl rfl (fun v1 => ?_)
  exact x_iret F hnE hQ dX11_finger_9
theorem dX11_see_0 : decode cX11_see 0 = .ok (.aload_n 0, 1) := by decide +kernel
theorem dX11_see_1 : decode cX11_see 1 = .ok (.getfield 19, 3) := by decide +kernel
theorem dX11_see_4 : decode cX11_see 4 = .ok (.iload_n 1, 1) := by decide +kernel
theorem dX11_see_5 : decode cX11_see 5 = .ok (.invokevirtual 307, 3) := by decide +kernel
theorem dX11_see_8 : decode cX11_see 8 = .ok (.ifCond .eq 13, 3) := by decide +kernel
theorem dX11_see_11 : decode cX11_see 11 = .ok (.iload_n 2, 1) := by decide +kernel
theorem dX11_see_12 : decode cX11_see 12 = .ok (.ifCond .lt 9, 3) := by decide +kernel
theorem dX11_see_15 : decode cX11_see 15 = .ok (.iload_n 2, 1) := by decide +kernel
theorem dX11_see_16 : decode cX11_see 16 = .ok (.bipush 20, 2) := by decide +kernel
theorem dX11_see_18 : decode cX11_see 18 = .ok (.if_icmp .le 5, 3) := by decide +kernel
theorem dX11_see_21 : decode cX11_see 21 = .ok (.iconst 0, 1) := by decide +kernel
theorem dX11_see_22 : decode cX11_see 22 = .ok (.ireturn, 1) := by decide +kernel
theorem dX11_see_23 : decode cX11_see 23 = .ok (.aload_n 0, 1) := by decide +kernel
theorem dX11_see_24 : decode cX11_see 24 = .ok (.getfield 86, 3) := by decide +kernel
theorem dX11_see_27 : decode cX11_see 27 = .ok (.iload_n 1, 1) := by decide +kernel
theorem dX11_see_28 : decode cX11_see 28 = .ok (.iload_n 2, 1) := by decide +kernel
theorem dX11_see_29 : decode cX11_see 29 = .ok (.iload_n 3, 1) := by decide +kernel
theorem dX11_see_30 : decode cX11_see 30 = .ok (.invokevirtual 310, 3) := by decide +kernel
theorem dX11_see_33 : decode cX11_see 33 = .ok (.ireturn, 1) := by decide +kernel
def fX11_see (a0 : Nat) (a1 : Int) (a2 : Int) (a3 : Int) (G : Hp) : RT := bp (fX8_isPlace ((rf a0 1)) a1 G) fun v1 => if v1 = 0 then rz 0 G else (if a2 < 0 then rz 0 G else (if 20 < a2 then rz 0 G else (bn (fX5_add ((rf a0 10)) a1 a2 a3 G) fun v2 G3 => rz v2 G3)))
set_option maxRecDepth 20000 in
set_option maxHeartbeats 4000000 in
theorem tX11_see (l : Launch) (x : WX) (hi : Inj x.2.2) (G : Hp) (a0 : Nat) (a1 : Int) (a2 : Int) (a3 : Int) (ha0 : kd a0 = 11) : Ct l x yX11_see cX11_see 4 (some .boolean) 1 129 129 [vR a0, vI a1, vI a2, vI a3] G (fX11_see a0 a1 a2 a3 G) := by
  refine ct_of (plainFor_of_name (by decide)) hi (Nat.le_refl _) (Nat.le_refl _) (Nat.le_of_ble_eq_true rfl) (fun cx F hd hn0 hnE hl hQ => ?_)
  subst hl
  have F : Fx cx x RX11 cX11_see 4 (some .boolean) := F
  show Y cx x 4 (some .boolean) 129 0 [(0, vR a0), (1, vI a1), (2, vI a2), (3, vI a3)] [] G _
  unfold fX11_see
  refine x_aload_n F dX11_see_0 rfl rfl rfl ?_
  refine x_getR F flX11_19 ha0 rfl dX11_see_1 rfl ?_
  refine x_iload_n F dX11_see_4 rfl rfl rfl ?_
  refine s_callVP F [vI a1] [] lkX11_307 mX8_isPlace rfl (tf11_1 ha0).1 rfl hnE hn0 hd pX8_isPlace (tX8_isPlace cx.l x hi G ((rf a0 1)) a1 (tf11_1 ha0).1) rfl rfl dX11_see_5 rfl rfl (fun v1 => ?_)
  refine x_ifeq (pt := 21) F dX11_see_8 rfl rfl ?_ ?_
  · refine x_iconst F dX11_see_21 ⟨by decide, by decide⟩ rfl ?_
    exact x_zret F hnE hQ dX11_see_22
  · refine x_iload_n F dX11_see_11 rfl rfl rfl ?_
    refine x_iflt (pt := 21) F dX11_see_12 rfl rfl ?_ ?_
    · refine x_iconst F dX11_see_21 ⟨by decide, by decide⟩ rfl ?_
      exact x_zret F hnE hQ dX11_see_22
    · refine x_iload_n F dX11_see_15 rfl rfl rfl ?_
      refine x_bipush F dX11_see_16 ⟨by decide, by decide⟩ (by decide) rfl ?_
      refine x_icmple (pt := 23) F dX11_see_18 rfl rfl ?_ ?_
      · refine x_iconst F dX11_see_21 ⟨by decide, by decide⟩ rfl ?_
        exact x_zret F hnE hQ dX11_see_22
      · refine x_aload_n F dX11_see_23 rfl rfl rfl ?_
        refine x_getR F flX11_86 ha0 rfl dX11_see_24 rfl ?_
        refine x_iload_n F dX11_see_27 rfl rfl rfl ?_
        refine x_iload_n F dX11_see_28 rfl rfl rfl ?_
        refine x_iload_n F dX11_see_29 rfl rfl rfl ?_
        refine s_callV F [vI a1, vI a2, vI a3] [] lkX11_310 mX5_add rfl (tf11_10 ha0).1 rfl hnE hn0 hd (tX5_add cx.l x hi G ((rf a0 10)) a1 a2 a3 (tf11_10 ha0).1) rfl rfl dX11_see_30 rfl rfl (fun v2 G3 => ?_)
        exact x_zret F hnE hQ dX11_see_33
theorem dX11_count_0 : decode cX11_count 0 = .ok (.iload_n 1, 1) := by decide +kernel
theorem dX11_count_1 : decode cX11_count 1 = .ok (.tableswitch 135 0 9 #[55, 63, 71, 79, 87, 95, 103, 111, 119, 127], 55) := by decide +kernel
theorem dX11_count_56 : decode cX11_count 56 = .ok (.aload_n 0, 1) := by decide +kernel
theorem dX11_count_57 : decode cX11_count 57 = .ok (.getfield 19, 3) := by decide +kernel
theorem dX11_count_60 : decode cX11_count 60 = .ok (.getfield 318, 3) := by decide +kernel
theorem dX11_count_63 : decode cX11_count 63 = .ok (.ireturn, 1) := by decide +kernel
theorem dX11_count_64 : decode cX11_count 64 = .ok (.aload_n 0, 1) := by decide +kernel
theorem dX11_count_65 : decode cX11_count 65 = .ok (.getfield 19, 3) := by decide +kernel
theorem dX11_count_68 : decode cX11_count 68 = .ok (.getfield 337, 3) := by decide +kernel
theorem dX11_count_71 : decode cX11_count 71 = .ok (.ireturn, 1) := by decide +kernel
theorem dX11_count_72 : decode cX11_count 72 = .ok (.aload_n 0, 1) := by decide +kernel
theorem dX11_count_73 : decode cX11_count 73 = .ok (.getfield 19, 3) := by decide +kernel
theorem dX11_count_76 : decode cX11_count 76 = .ok (.getfield 340, 3) := by decide +kernel
theorem dX11_count_79 : decode cX11_count 79 = .ok (.ireturn, 1) := by decide +kernel
theorem dX11_count_80 : decode cX11_count 80 = .ok (.aload_n 0, 1) := by decide +kernel
theorem dX11_count_81 : decode cX11_count 81 = .ok (.getfield 19, 3) := by decide +kernel
theorem dX11_count_84 : decode cX11_count 84 = .ok (.getfield 343, 3) := by decide +kernel
theorem dX11_count_87 : decode cX11_count 87 = .ok (.ireturn, 1) := by decide +kernel
theorem dX11_count_88 : decode cX11_count 88 = .ok (.aload_n 0, 1) := by decide +kernel
theorem dX11_count_89 : decode cX11_count 89 = .ok (.getfield 45, 3) := by decide +kernel
theorem dX11_count_92 : decode cX11_count 92 = .ok (.getfield 147, 3) := by decide +kernel
theorem dX11_count_95 : decode cX11_count 95 = .ok (.ireturn, 1) := by decide +kernel
theorem dX11_count_96 : decode cX11_count 96 = .ok (.aload_n 0, 1) := by decide +kernel
theorem dX11_count_97 : decode cX11_count 97 = .ok (.getfield 45, 3) := by decide +kernel
theorem dX11_count_100 : decode cX11_count 100 = .ok (.invokevirtual 346, 3) := by decide +kernel
theorem dX11_count_103 : decode cX11_count 103 = .ok (.ireturn, 1) := by decide +kernel
theorem dX11_count_104 : decode cX11_count 104 = .ok (.aload_n 0, 1) := by decide +kernel
theorem dX11_count_105 : decode cX11_count 105 = .ok (.getfield 35, 3) := by decide +kernel
theorem dX11_count_108 : decode cX11_count 108 = .ok (.getfield 349, 3) := by decide +kernel
theorem dX11_count_111 : decode cX11_count 111 = .ok (.ireturn, 1) := by decide +kernel
theorem dX11_count_112 : decode cX11_count 112 = .ok (.aload_n 0, 1) := by decide +kernel
theorem dX11_count_113 : decode cX11_count 113 = .ok (.getfield 86, 3) := by decide +kernel
theorem dX11_count_116 : decode cX11_count 116 = .ok (.getfield 352, 3) := by decide +kernel
theorem dX11_count_119 : decode cX11_count 119 = .ok (.ireturn, 1) := by decide +kernel
theorem dX11_count_120 : decode cX11_count 120 = .ok (.aload_n 0, 1) := by decide +kernel
theorem dX11_count_121 : decode cX11_count 121 = .ok (.getfield 93, 3) := by decide +kernel
theorem dX11_count_124 : decode cX11_count 124 = .ok (.getfield 355, 3) := by decide +kernel
theorem dX11_count_127 : decode cX11_count 127 = .ok (.ireturn, 1) := by decide +kernel
theorem dX11_count_128 : decode cX11_count 128 = .ok (.aload_n 0, 1) := by decide +kernel
theorem dX11_count_129 : decode cX11_count 129 = .ok (.getfield 10, 3) := by decide +kernel
theorem dX11_count_132 : decode cX11_count 132 = .ok (.getfield 101, 3) := by decide +kernel
theorem dX11_count_135 : decode cX11_count 135 = .ok (.ireturn, 1) := by decide +kernel
theorem dX11_count_136 : decode cX11_count 136 = .ok (.iconst (-1), 1) := by decide +kernel
theorem dX11_count_137 : decode cX11_count 137 = .ok (.ireturn, 1) := by decide +kernel
def fX11_count (a0 : Nat) (a1 : Int) (G : Hp) : RT := if a1 = 0 then (rt (G ((rf a0 1)) 0) G) else (if a1 = 1 then (rt (G ((rf a0 1)) 1) G) else (if a1 = 2 then (rt (G ((rf a0 1)) 2) G) else (if a1 = 3 then (rt (G ((rf a0 1)) 3) G) else (if a1 = 4 then (rt (G ((rf a0 5)) 1) G) else (if a1 = 5 then (bp (fX6_heldKeys ((rf a0 5)) G) fun v7 => rt v7 G) else (if a1 = 6 then (rt (G ((rf a0 3)) 3) G) else (if a1 = 7 then (rt (G ((rf a0 10)) 4) G) else (if a1 = 8 then (rt (G ((rf a0 11)) 5) G) else (if a1 = 9 then (rt (G ((rf a0 0)) 3) G) else (rt ((-1)) G))))))))))
theorem pX11_count {G : Hp} {a0 : Nat} {a1 : Int} : PU G (fX11_count a0 a1 G) := by
  unfold fX11_count
  refine PU_ite ?_ ?_
  · exact PU_rt
  · refine PU_ite ?_ ?_
    · exact PU_rt
    · refine PU_ite ?_ ?_
      · exact PU_rt
      · refine PU_ite ?_ ?_
        · exact PU_rt
        · refine PU_ite ?_ ?_
          · exact PU_rt
          · refine PU_ite ?_ ?_
            · refine PU_bp (fun v7 => ?_)
              exact PU_rt
            · refine PU_ite ?_ ?_
              · exact PU_rt
              · refine PU_ite ?_ ?_
                · exact PU_rt
                · refine PU_ite ?_ ?_
                  · exact PU_rt
                  · refine PU_ite ?_ ?_
                    · exact PU_rt
                    · exact PU_rt
set_option maxRecDepth 20000 in
set_option maxHeartbeats 4000000 in
theorem tX11_count (l : Launch) (x : WX) (hi : Inj x.2.2) (G : Hp) (a0 : Nat) (a1 : Int) (ha0 : kd a0 = 11) : Ct l x yX11_count cX11_count 2 (some .int) 1 129 129 [vR a0, vI a1] G (fX11_count a0 a1 G) := by
  refine ct_of (plainFor_of_name (by decide)) hi (Nat.le_refl _) (Nat.le_refl _) (Nat.le_of_ble_eq_true rfl) (fun cx F hd hn0 hnE hl hQ => ?_)
  subst hl
  have F : Fx cx x RX11 cX11_count 2 (some .int) := F
  show Y cx x 2 (some .int) 129 0 [(0, vR a0), (1, vI a1)] [] G _
  unfold fX11_count
  refine x_iload_n F dX11_count_0 rfl rfl rfl ?_
  refine x_ite (fun h1 => ?_) (fun h1 => ?_)
  · refine x_tabIn (off := 55) (pc' := 56) F dX11_count_1 (by omega) (by omega) (by rw [h1]; rfl) rfl ?_
    refine x_aload_n F dX11_count_56 rfl rfl rfl ?_
    refine x_getR F flX11_19 ha0 rfl dX11_count_57 rfl ?_
    refine s_getI F flX11_318 (tf11_1 ha0).1 rfl dX11_count_60 rfl ?_
    exact x_iret F hnE hQ dX11_count_63
  · refine x_ite (fun h2 => ?_) (fun h2 => ?_)
    · refine x_tabIn (off := 63) (pc' := 64) F dX11_count_1 (by omega) (by omega) (by rw [h2]; rfl) rfl ?_
      refine x_aload_n F dX11_count_64 rfl rfl rfl ?_
      refine x_getR F flX11_19 ha0 rfl dX11_count_65 rfl ?_
      refine s_getI F flX11_337 (tf11_1 ha0).1 rfl dX11_count_68 rfl ?_
      exact x_iret F hnE hQ dX11_count_71
    · refine x_ite (fun h3 => ?_) (fun h3 => ?_)
      · refine x_tabIn (off := 71) (pc' := 72) F dX11_count_1 (by omega) (by omega) (by rw [h3]; rfl) rfl ?_
        refine x_aload_n F dX11_count_72 rfl rfl rfl ?_
        refine x_getR F flX11_19 ha0 rfl dX11_count_73 rfl ?_
        refine s_getI F flX11_340 (tf11_1 ha0).1 rfl dX11_count_76 rfl ?_
        exact x_iret F hnE hQ dX11_count_79
      · refine x_ite (fun h4 => ?_) (fun h4 => ?_)
        · refine x_tabIn (off := 79) (pc' := 80) F dX11_count_1 (by omega) (by omega) (by rw [h4]; rfl) rfl ?_
          refine x_aload_n F dX11_count_80 rfl rfl rfl ?_
          refine x_getR F flX11_19 ha0 rfl dX11_count_81 rfl ?_
          refine s_getI F flX11_343 (tf11_1 ha0).1 rfl dX11_count_84 rfl ?_
          exact x_iret F hnE hQ dX11_count_87
        · refine x_ite (fun h5 => ?_) (fun h5 => ?_)
          · refine x_tabIn (off := 87) (pc' := 88) F dX11_count_1 (by omega) (by omega) (by rw [h5]; rfl) rfl ?_
            refine x_aload_n F dX11_count_88 rfl rfl rfl ?_
            refine x_getR F flX11_45 ha0 rfl dX11_count_89 rfl ?_
            refine s_getI F flX11_147 (tf11_5 ha0).1 rfl dX11_count_92 rfl ?_
            exact x_iret F hnE hQ dX11_count_95
          · refine x_ite (fun h6 => ?_) (fun h6 => ?_)
            · refine x_tabIn (off := 95) (pc' := 96) F dX11_count_1 (by omega) (by omega) (by rw [h6]; rfl) rfl ?_
              refine x_aload_n F dX11_count_96 rfl rfl rfl ?_
              refine x_getR F flX11_45 ha0 rfl dX11_count_97 rfl ?_
              refine s_callVP F [] [] lkX11_346 mX6_heldKeys rfl (tf11_5 ha0).1 rfl hnE hn0 hd pX6_heldKeys (tX6_heldKeys cx.l x hi G ((rf a0 5)) (tf11_5 ha0).1) rfl rfl dX11_count_100 rfl rfl (fun v7 => ?_)
              exact x_iret F hnE hQ dX11_count_103
            · refine x_ite (fun h8 => ?_) (fun h8 => ?_)
              · refine x_tabIn (off := 103) (pc' := 104) F dX11_count_1 (by omega) (by omega) (by rw [h8]; rfl) rfl ?_
                refine x_aload_n F dX11_count_104 rfl rfl rfl ?_
                refine x_getR F flX11_35 ha0 rfl dX11_count_105 rfl ?_
                refine s_getI F flX11_349 (tf11_3 ha0).1 rfl dX11_count_108 rfl ?_
                exact x_iret F hnE hQ dX11_count_111
              · refine x_ite (fun h9 => ?_) (fun h9 => ?_)
                · refine x_tabIn (off := 111) (pc' := 112) F dX11_count_1 (by omega) (by omega) (by rw [h9]; rfl) rfl ?_
                  refine x_aload_n F dX11_count_112 rfl rfl rfl ?_
                  refine x_getR F flX11_86 ha0 rfl dX11_count_113 rfl ?_
                  refine s_getI F flX11_352 (tf11_10 ha0).1 rfl dX11_count_116 rfl ?_
                  exact x_iret F hnE hQ dX11_count_119
                · refine x_ite (fun h10 => ?_) (fun h10 => ?_)
                  · refine x_tabIn (off := 119) (pc' := 120) F dX11_count_1 (by omega) (by omega) (by rw [h10]; rfl) rfl ?_
                    refine x_aload_n F dX11_count_120 rfl rfl rfl ?_
                    refine x_getR F flX11_93 ha0 rfl dX11_count_121 rfl ?_
                    refine s_getI F flX11_355 (tf11_11 ha0).1 rfl dX11_count_124 rfl ?_
                    exact x_iret F hnE hQ dX11_count_127
                  · refine x_ite (fun h11 => ?_) (fun h11 => ?_)
                    · refine x_tabIn (off := 127) (pc' := 128) F dX11_count_1 (by omega) (by omega) (by rw [h11]; rfl) rfl ?_
                      refine x_aload_n F dX11_count_128 rfl rfl rfl ?_
                      refine x_getR F flX11_10 ha0 rfl dX11_count_129 rfl ?_
                      refine s_getI F flX11_101 (tf11_0 ha0).1 rfl dX11_count_132 rfl ?_
                      exact x_iret F hnE hQ dX11_count_135
                    · refine x_tabOut (pc' := 136) F dX11_count_1 (by omega) rfl ?_
                      refine x_iconst F dX11_count_136 ⟨by decide, by decide⟩ rfl ?_
                      exact x_iret F hnE hQ dX11_count_137
theorem dX11_node_0 : decode cX11_node 0 = .ok (.aload_n 0, 1) := by decide +kernel
theorem dX11_node_1 : decode cX11_node 1 = .ok (.getfield 19, 3) := by decide +kernel
theorem dX11_node_4 : decode cX11_node 4 = .ok (.iload_n 1, 1) := by decide +kernel
theorem dX11_node_5 : decode cX11_node 5 = .ok (.invokevirtual 129, 3) := by decide +kernel
theorem dX11_node_8 : decode cX11_node 8 = .ok (.ifCond .ne 6, 3) := by decide +kernel
theorem dX11_node_11 : decode cX11_node 11 = .ok (.bipush (-2), 2) := by decide +kernel
theorem dX11_node_13 : decode cX11_node 13 = .ok (.ireturn, 1) := by decide +kernel
theorem dX11_node_14 : decode cX11_node 14 = .ok (.iload_n 2, 1) := by decide +kernel
theorem dX11_node_15 : decode cX11_node 15 = .ok (.tableswitch 108 0 5 #[37, 47, 57, 74, 83, 99], 37) := by decide +kernel
theorem dX11_node_52 : decode cX11_node 52 = .ok (.aload_n 0, 1) := by decide +kernel
theorem dX11_node_53 : decode cX11_node 53 = .ok (.getfield 19, 3) := by decide +kernel
theorem dX11_node_56 : decode cX11_node 56 = .ok (.getfield 133, 3) := by decide +kernel
theorem dX11_node_59 : decode cX11_node 59 = .ok (.iload_n 1, 1) := by decide +kernel
theorem dX11_node_60 : decode cX11_node 60 = .ok (.iaload, 1) := by decide +kernel
theorem dX11_node_61 : decode cX11_node 61 = .ok (.ireturn, 1) := by decide +kernel
theorem dX11_node_62 : decode cX11_node 62 = .ok (.aload_n 0, 1) := by decide +kernel
theorem dX11_node_63 : decode cX11_node 63 = .ok (.getfield 19, 3) := by decide +kernel
theorem dX11_node_66 : decode cX11_node 66 = .ok (.getfield 137, 3) := by decide +kernel
theorem dX11_node_69 : decode cX11_node 69 = .ok (.iload_n 1, 1) := by decide +kernel
theorem dX11_node_70 : decode cX11_node 70 = .ok (.iaload, 1) := by decide +kernel
theorem dX11_node_71 : decode cX11_node 71 = .ok (.ireturn, 1) := by decide +kernel
theorem dX11_node_72 : decode cX11_node 72 = .ok (.aload_n 0, 1) := by decide +kernel
theorem dX11_node_73 : decode cX11_node 73 = .ok (.getfield 45, 3) := by decide +kernel
theorem dX11_node_76 : decode cX11_node 76 = .ok (.iload_n 1, 1) := by decide +kernel
theorem dX11_node_77 : decode cX11_node 77 = .ok (.invokevirtual 140, 3) := by decide +kernel
theorem dX11_node_80 : decode cX11_node 80 = .ok (.ifCond .eq 7, 3) := by decide +kernel
theorem dX11_node_83 : decode cX11_node 83 = .ok (.iconst 1, 1) := by decide +kernel
theorem dX11_node_84 : decode cX11_node 84 = .ok (.goto 4, 3) := by decide +kernel
theorem dX11_node_87 : decode cX11_node 87 = .ok (.iconst 0, 1) := by decide +kernel
theorem dX11_node_88 : decode cX11_node 88 = .ok (.ireturn, 1) := by decide +kernel
theorem dX11_node_89 : decode cX11_node 89 = .ok (.aload_n 0, 1) := by decide +kernel
theorem dX11_node_90 : decode cX11_node 90 = .ok (.getfield 45, 3) := by decide +kernel
theorem dX11_node_93 : decode cX11_node 93 = .ok (.iload_n 1, 1) := by decide +kernel
theorem dX11_node_94 : decode cX11_node 94 = .ok (.invokevirtual 143, 3) := by decide +kernel
theorem dX11_node_97 : decode cX11_node 97 = .ok (.ireturn, 1) := by decide +kernel
theorem dX11_node_98 : decode cX11_node 98 = .ok (.aload_n 0, 1) := by decide +kernel
theorem dX11_node_99 : decode cX11_node 99 = .ok (.getfield 45, 3) := by decide +kernel
theorem dX11_node_102 : decode cX11_node 102 = .ok (.iload_n 1, 1) := by decide +kernel
theorem dX11_node_103 : decode cX11_node 103 = .ok (.aload_n 0, 1) := by decide +kernel
theorem dX11_node_104 : decode cX11_node 104 = .ok (.getfield 45, 3) := by decide +kernel
theorem dX11_node_107 : decode cX11_node 107 = .ok (.getfield 147, 3) := by decide +kernel
theorem dX11_node_110 : decode cX11_node 110 = .ok (.invokevirtual 150, 3) := by decide +kernel
theorem dX11_node_113 : decode cX11_node 113 = .ok (.ireturn, 1) := by decide +kernel
theorem dX11_node_114 : decode cX11_node 114 = .ok (.aload_n 0, 1) := by decide +kernel
theorem dX11_node_115 : decode cX11_node 115 = .ok (.getfield 45, 3) := by decide +kernel
theorem dX11_node_118 : decode cX11_node 118 = .ok (.iload_n 1, 1) := by decide +kernel
theorem dX11_node_119 : decode cX11_node 119 = .ok (.invokevirtual 154, 3) := by decide +kernel
theorem dX11_node_122 : decode cX11_node 122 = .ok (.ireturn, 1) := by decide +kernel
theorem dX11_node_123 : decode cX11_node 123 = .ok (.bipush (-2), 2) := by decide +kernel
theorem dX11_node_125 : decode cX11_node 125 = .ok (.ireturn, 1) := by decide +kernel
def fX11_node (a0 : Nat) (a1 : Int) (a2 : Int) (G : Hp) : RT := bp (fX8_isNode ((rf a0 1)) a1 G) fun v1 => if v1 = 0 then (rt ((-2)) G) else (if a2 = 0 then (br (rd G ((rf ((rf a0 1)) 4)) 8 a1) fun v3 => rt v3 G) else (if a2 = 1 then (br (rd G ((rf ((rf a0 1)) 5)) 8 a1) fun v5 => rt v5 G) else (if a2 = 2 then (bp (fX6_isIn ((rf a0 5)) a1 G) fun v7 => if v7 = 0 then rt 0 G else rt 1 G) else (if a2 = 3 then (bp (fX6_aheadOf ((rf a0 5)) a1 G) fun v9 => rt v9 G) else (if a2 = 4 then (bp (fX6_firstOf ((rf a0 5)) a1 (G ((rf a0 5)) 1) G) fun v11 => rt v11 G) else (if a2 = 5 then (bp (fX6_heldBy ((rf a0 5)) a1 G) fun v13 => rt v13 G) else (rt ((-2)) G)))))))
theorem pX11_node {G : Hp} {a0 : Nat} {a1 : Int} {a2 : Int} : PU G (fX11_node a0 a1 a2 G) := by
  unfold fX11_node
  refine PU_bp (fun v1 => ?_)
  refine PU_ite ?_ ?_
  · exact PU_rt
  · refine PU_ite ?_ ?_
    · refine PU_br (fun v3 => ?_)
      exact PU_rt
    · refine PU_ite ?_ ?_
      · refine PU_br (fun v5 => ?_)
        exact PU_rt
      · refine PU_ite ?_ ?_
        · refine PU_bp (fun v7 => ?_)
          refine PU_ite ?_ ?_
          · exact PU_rt
          · exact PU_rt
        · refine PU_ite ?_ ?_
          · refine PU_bp (fun v9 => ?_)
            exact PU_rt
          · refine PU_ite ?_ ?_
            · refine PU_bp (fun v11 => ?_)
              exact PU_rt
            · refine PU_ite ?_ ?_
              · refine PU_bp (fun v13 => ?_)
                exact PU_rt
              · exact PU_rt
set_option maxRecDepth 20000 in
set_option maxHeartbeats 4000000 in
theorem tX11_node (l : Launch) (x : WX) (hi : Inj x.2.2) (G : Hp) (a0 : Nat) (a1 : Int) (a2 : Int) (ha0 : kd a0 = 11) : Ct l x yX11_node cX11_node 3 (some .int) 2 129 129 [vR a0, vI a1, vI a2] G (fX11_node a0 a1 a2 G) := by
  refine ct_of (plainFor_of_name (by decide)) hi (Nat.le_refl _) (Nat.le_refl _) (Nat.le_of_ble_eq_true rfl) (fun cx F hd hn0 hnE hl hQ => ?_)
  subst hl
  have F : Fx cx x RX11 cX11_node 3 (some .int) := F
  show Y cx x 3 (some .int) 129 0 [(0, vR a0), (1, vI a1), (2, vI a2)] [] G _
  unfold fX11_node
  refine x_aload_n F dX11_node_0 rfl rfl rfl ?_
  refine x_getR F flX11_19 ha0 rfl dX11_node_1 rfl ?_
  refine x_iload_n F dX11_node_4 rfl rfl rfl ?_
  refine s_callVP F [vI a1] [] lkX11_129 mX8_isNode rfl (tf11_1 ha0).1 rfl hnE hn0 hd pX8_isNode (tX8_isNode cx.l x hi G ((rf a0 1)) a1 (tf11_1 ha0).1) rfl rfl dX11_node_5 rfl rfl (fun v1 => ?_)
  refine x_ifne (pt := 14) F dX11_node_8 rfl rfl ?_ ?_
  · refine x_bipush F dX11_node_11 ⟨by decide, by decide⟩ (by decide) rfl ?_
    exact x_iret F hnE hQ dX11_node_13
  · refine x_iload_n F dX11_node_14 rfl rfl rfl ?_
    refine x_ite (fun h2 => ?_) (fun h2 => ?_)
    · refine x_tabIn (off := 37) (pc' := 52) F dX11_node_15 (by omega) (by omega) (by rw [h2]; rfl) rfl ?_
      refine x_aload_n F dX11_node_52 rfl rfl rfl ?_
      refine x_getR F flX11_19 ha0 rfl dX11_node_53 rfl ?_
      refine x_getR F flX11_133 (tf11_1 ha0).1 rfl dX11_node_56 rfl ?_
      refine x_iload_n F dX11_node_59 rfl rfl rfl ?_
      refine s_iald F (tf8_4 (tf11_1 ha0).1).1 (tf8_4 (tf11_1 ha0).1).2 dX11_node_60 rfl (fun v3 => ?_)
      exact x_iret F hnE hQ dX11_node_61
    · refine x_ite (fun h4 => ?_) (fun h4 => ?_)
      · refine x_tabIn (off := 47) (pc' := 62) F dX11_node_15 (by omega) (by omega) (by rw [h4]; rfl) rfl ?_
        refine x_aload_n F dX11_node_62 rfl rfl rfl ?_
        refine x_getR F flX11_19 ha0 rfl dX11_node_63 rfl ?_
        refine x_getR F flX11_137 (tf11_1 ha0).1 rfl dX11_node_66 rfl ?_
        refine x_iload_n F dX11_node_69 rfl rfl rfl ?_
        refine s_iald F (tf8_5 (tf11_1 ha0).1).1 (tf8_5 (tf11_1 ha0).1).2 dX11_node_70 rfl (fun v5 => ?_)
        exact x_iret F hnE hQ dX11_node_71
      · refine x_ite (fun h6 => ?_) (fun h6 => ?_)
        · refine x_tabIn (off := 57) (pc' := 72) F dX11_node_15 (by omega) (by omega) (by rw [h6]; rfl) rfl ?_
          refine x_aload_n F dX11_node_72 rfl rfl rfl ?_
          refine x_getR F flX11_45 ha0 rfl dX11_node_73 rfl ?_
          refine x_iload_n F dX11_node_76 rfl rfl rfl ?_
          refine s_callVP F [vI a1] [] lkX11_140 mX6_isIn rfl (tf11_5 ha0).1 rfl hnE hn0 hd pX6_isIn (tX6_isIn cx.l x hi G ((rf a0 5)) a1 (tf11_5 ha0).1) rfl rfl dX11_node_77 rfl rfl (fun v7 => ?_)
          refine x_ifeq (pt := 87) F dX11_node_80 rfl rfl ?_ ?_
          · refine x_iconst F dX11_node_87 ⟨by decide, by decide⟩ rfl ?_
            exact x_iret F hnE hQ dX11_node_88
          · refine x_iconst F dX11_node_83 ⟨by decide, by decide⟩ rfl ?_
            refine x_goto (pc' := 88) F dX11_node_84 rfl ?_
            exact x_iret F hnE hQ dX11_node_88
        · refine x_ite (fun h8 => ?_) (fun h8 => ?_)
          · refine x_tabIn (off := 74) (pc' := 89) F dX11_node_15 (by omega) (by omega) (by rw [h8]; rfl) rfl ?_
            refine x_aload_n F dX11_node_89 rfl rfl rfl ?_
            refine x_getR F flX11_45 ha0 rfl dX11_node_90 rfl ?_
            refine x_iload_n F dX11_node_93 rfl rfl rfl ?_
            refine s_callVP F [vI a1] [] lkX11_143 mX6_aheadOf rfl (tf11_5 ha0).1 rfl hnE hn0 hd pX6_aheadOf (tX6_aheadOf cx.l x hi G ((rf a0 5)) a1 (tf11_5 ha0).1) rfl rfl dX11_node_94 rfl rfl (fun v9 => ?_)
            exact x_iret F hnE hQ dX11_node_97
          · refine x_ite (fun h10 => ?_) (fun h10 => ?_)
            · refine x_tabIn (off := 83) (pc' := 98) F dX11_node_15 (by omega) (by omega) (by rw [h10]; rfl) rfl ?_
              refine x_aload_n F dX11_node_98 rfl rfl rfl ?_
              refine x_getR F flX11_45 ha0 rfl dX11_node_99 rfl ?_
              refine x_iload_n F dX11_node_102 rfl rfl rfl ?_
              refine x_aload_n F dX11_node_103 rfl rfl rfl ?_
              refine x_getR F flX11_45 ha0 rfl dX11_node_104 rfl ?_
              refine s_getI F flX11_147 (tf11_5 ha0).1 rfl dX11_node_107 rfl ?_
              refine s_callVP F [vI a1, vI (G ((rf a0 5)) 1)] [] lkX11_150 mX6_firstOf rfl (tf11_5 ha0).1 rfl hnE hn0 hd pX6_firstOf (tX6_firstOf cx.l x hi G ((rf a0 5)) a1 (G ((rf a0 5)) 1) (tf11_5 ha0).1) rfl rfl dX11_node_110 rfl rfl (fun v11 => ?_)
              exact x_iret F hnE hQ dX11_node_113
            · refine x_ite (fun h12 => ?_) (fun h12 => ?_)
              · refine x_tabIn (off := 99) (pc' := 114) F dX11_node_15 (by omega) (by omega) (by rw [h12]; rfl) rfl ?_
                refine x_aload_n F dX11_node_114 rfl rfl rfl ?_
                refine x_getR F flX11_45 ha0 rfl dX11_node_115 rfl ?_
                refine x_iload_n F dX11_node_118 rfl rfl rfl ?_
                refine s_callVP F [vI a1] [] lkX11_154 mX6_heldBy rfl (tf11_5 ha0).1 rfl hnE hn0 hd pX6_heldBy (tX6_heldBy cx.l x hi G ((rf a0 5)) a1 (tf11_5 ha0).1) rfl rfl dX11_node_119 rfl rfl (fun v13 => ?_)
                exact x_iret F hnE hQ dX11_node_122
              · refine x_tabOut (pc' := 123) F dX11_node_15 (by omega) rfl ?_
                refine x_bipush F dX11_node_123 ⟨by decide, by decide⟩ (by decide) rfl ?_
                exact x_iret F hnE hQ dX11_node_125
theorem dX11_key_0 : decode cX11_key 0 = .ok (.aload_n 0, 1) := by decide +kernel
theorem dX11_key_1 : decode cX11_key 1 = .ok (.getfield 19, 3) := by decide +kernel
theorem dX11_key_4 : decode cX11_key 4 = .ok (.iload_n 1, 1) := by decide +kernel
theorem dX11_key_5 : decode cX11_key 5 = .ok (.invokevirtual 163, 3) := by decide +kernel
theorem dX11_key_8 : decode cX11_key 8 = .ok (.ifCond .ne 6, 3) := by decide +kernel
theorem dX11_key_11 : decode cX11_key 11 = .ok (.bipush (-2), 2) := by decide +kernel
theorem dX11_key_13 : decode cX11_key 13 = .ok (.ireturn, 1) := by decide +kernel
theorem dX11_key_14 : decode cX11_key 14 = .ok (.iload_n 2, 1) := by decide +kernel
theorem dX11_key_15 : decode cX11_key 15 = .ok (.tableswitch 68 0 2 #[25, 35, 44], 25) := by decide +kernel
theorem dX11_key_40 : decode cX11_key 40 = .ok (.aload_n 0, 1) := by decide +kernel
theorem dX11_key_41 : decode cX11_key 41 = .ok (.getfield 19, 3) := by decide +kernel
theorem dX11_key_44 : decode cX11_key 44 = .ok (.getfield 166, 3) := by decide +kernel
theorem dX11_key_47 : decode cX11_key 47 = .ok (.iload_n 1, 1) := by decide +kernel
theorem dX11_key_48 : decode cX11_key 48 = .ok (.iaload, 1) := by decide +kernel
theorem dX11_key_49 : decode cX11_key 49 = .ok (.ireturn, 1) := by decide +kernel
theorem dX11_key_50 : decode cX11_key 50 = .ok (.aload_n 0, 1) := by decide +kernel
theorem dX11_key_51 : decode cX11_key 51 = .ok (.getfield 45, 3) := by decide +kernel
theorem dX11_key_54 : decode cX11_key 54 = .ok (.iload_n 1, 1) := by decide +kernel
theorem dX11_key_55 : decode cX11_key 55 = .ok (.invokevirtual 169, 3) := by decide +kernel
theorem dX11_key_58 : decode cX11_key 58 = .ok (.ireturn, 1) := by decide +kernel
theorem dX11_key_59 : decode cX11_key 59 = .ok (.aload_n 0, 1) := by decide +kernel
theorem dX11_key_60 : decode cX11_key 60 = .ok (.getfield 70, 3) := by decide +kernel
theorem dX11_key_63 : decode cX11_key 63 = .ok (.aload_n 0, 1) := by decide +kernel
theorem dX11_key_64 : decode cX11_key 64 = .ok (.getfield 19, 3) := by decide +kernel
theorem dX11_key_67 : decode cX11_key 67 = .ok (.getfield 166, 3) := by decide +kernel
theorem dX11_key_70 : decode cX11_key 70 = .ok (.iload_n 1, 1) := by decide +kernel
theorem dX11_key_71 : decode cX11_key 71 = .ok (.iaload, 1) := by decide +kernel
theorem dX11_key_72 : decode cX11_key 72 = .ok (.aload_n 0, 1) := by decide +kernel
theorem dX11_key_73 : decode cX11_key 73 = .ok (.getfield 45, 3) := by decide +kernel
theorem dX11_key_76 : decode cX11_key 76 = .ok (.getfield 147, 3) := by decide +kernel
theorem dX11_key_79 : decode cX11_key 79 = .ok (.invokevirtual 172, 3) := by decide +kernel
theorem dX11_key_82 : decode cX11_key 82 = .ok (.ireturn, 1) := by decide +kernel
theorem dX11_key_83 : decode cX11_key 83 = .ok (.bipush (-2), 2) := by decide +kernel
theorem dX11_key_85 : decode cX11_key 85 = .ok (.ireturn, 1) := by decide +kernel
def fX11_key (a0 : Nat) (a1 : Int) (a2 : Int) (G : Hp) : RT := bp (fX8_isKey ((rf a0 1)) a1 G) fun v1 => if v1 = 0 then (rt ((-2)) G) else (if a2 = 0 then (br (rd G ((rf ((rf a0 1)) 8)) 10 a1) fun v3 => rt v3 G) else (if a2 = 1 then (bp (fX6_holderOf ((rf a0 5)) a1 G) fun v5 => rt v5 G) else (if a2 = 2 then (br (rd G ((rf ((rf a0 1)) 8)) 10 a1) fun v7 => bp (fX2_ownerOf ((rf a0 8)) v7 (G ((rf a0 5)) 1) G) fun v8 => rt v8 G) else (rt ((-2)) G))))
theorem pX11_key {G : Hp} {a0 : Nat} {a1 : Int} {a2 : Int} : PU G (fX11_key a0 a1 a2 G) := by
  unfold fX11_key
  refine PU_bp (fun v1 => ?_)
  refine PU_ite ?_ ?_
  · exact PU_rt
  · refine PU_ite ?_ ?_
    · refine PU_br (fun v3 => ?_)
      exact PU_rt
    · refine PU_ite ?_ ?_
      · refine PU_bp (fun v5 => ?_)
        exact PU_rt
      · refine PU_ite ?_ ?_
        · refine PU_br (fun v7 => ?_)
          refine PU_bp (fun v8 => ?_)
          exact PU_rt
        · exact PU_rt
set_option maxRecDepth 20000 in
set_option maxHeartbeats 4000000 in
theorem tX11_key (l : Launch) (x : WX) (hi : Inj x.2.2) (G : Hp) (a0 : Nat) (a1 : Int) (a2 : Int) (ha0 : kd a0 = 11) : Ct l x yX11_key cX11_key 3 (some .int) 2 129 129 [vR a0, vI a1, vI a2] G (fX11_key a0 a1 a2 G) := by
  refine ct_of (plainFor_of_name (by decide)) hi (Nat.le_refl _) (Nat.le_refl _) (Nat.le_of_ble_eq_true rfl) (fun cx F hd hn0 hnE hl hQ => ?_)
  subst hl
  have F : Fx cx x RX11 cX11_key 3 (some .int) := F
  show Y cx x 3 (some .int) 129 0 [(0, vR a0), (1, vI a1), (2, vI a2)] [] G _
  unfold fX11_key
  refine x_aload_n F dX11_key_0 rfl rfl rfl ?_
  refine x_getR F flX11_19 ha0 rfl dX11_key_1 rfl ?_
  refine x_iload_n F dX11_key_4 rfl rfl rfl ?_
  refine s_callVP F [vI a1] [] lkX11_163 mX8_isKey rfl (tf11_1 ha0).1 rfl hnE hn0 hd pX8_isKey (tX8_isKey cx.l x hi G ((rf a0 1)) a1 (tf11_1 ha0).1) rfl rfl dX11_key_5 rfl rfl (fun v1 => ?_)
  refine x_ifne (pt := 14) F dX11_key_8 rfl rfl ?_ ?_
  · refine x_bipush F dX11_key_11 ⟨by decide, by decide⟩ (by decide) rfl ?_
    exact x_iret F hnE hQ dX11_key_13
  · refine x_iload_n F dX11_key_14 rfl rfl rfl ?_
    refine x_ite (fun h2 => ?_) (fun h2 => ?_)
    · refine x_tabIn (off := 25) (pc' := 40) F dX11_key_15 (by omega) (by omega) (by rw [h2]; rfl) rfl ?_
      refine x_aload_n F dX11_key_40 rfl rfl rfl ?_
      refine x_getR F flX11_19 ha0 rfl dX11_key_41 rfl ?_
      refine x_getR F flX11_166 (tf11_1 ha0).1 rfl dX11_key_44 rfl ?_
      refine x_iload_n F dX11_key_47 rfl rfl rfl ?_
      refine s_iald F (tf8_8 (tf11_1 ha0).1).1 (tf8_8 (tf11_1 ha0).1).2 dX11_key_48 rfl (fun v3 => ?_)
      exact x_iret F hnE hQ dX11_key_49
    · refine x_ite (fun h4 => ?_) (fun h4 => ?_)
      · refine x_tabIn (off := 35) (pc' := 50) F dX11_key_15 (by omega) (by omega) (by rw [h4]; rfl) rfl ?_
        refine x_aload_n F dX11_key_50 rfl rfl rfl ?_
        refine x_getR F flX11_45 ha0 rfl dX11_key_51 rfl ?_
        refine x_iload_n F dX11_key_54 rfl rfl rfl ?_
        refine s_callVP F [vI a1] [] lkX11_169 mX6_holderOf rfl (tf11_5 ha0).1 rfl hnE hn0 hd pX6_holderOf (tX6_holderOf cx.l x hi G ((rf a0 5)) a1 (tf11_5 ha0).1) rfl rfl dX11_key_55 rfl rfl (fun v5 => ?_)
        exact x_iret F hnE hQ dX11_key_58
      · refine x_ite (fun h6 => ?_) (fun h6 => ?_)
        · refine x_tabIn (off := 44) (pc' := 59) F dX11_key_15 (by omega) (by omega) (by rw [h6]; rfl) rfl ?_
          refine x_aload_n F dX11_key_59 rfl rfl rfl ?_
          refine x_getR F flX11_70 ha0 rfl dX11_key_60 rfl ?_
          refine x_aload_n F dX11_key_63 rfl rfl rfl ?_
          refine x_getR F flX11_19 ha0 rfl dX11_key_64 rfl ?_
          refine x_getR F flX11_166 (tf11_1 ha0).1 rfl dX11_key_67 rfl ?_
          refine x_iload_n F dX11_key_70 rfl rfl rfl ?_
          refine s_iald F (tf8_8 (tf11_1 ha0).1).1 (tf8_8 (tf11_1 ha0).1).2 dX11_key_71 rfl (fun v7 => ?_)
          refine x_aload_n F dX11_key_72 rfl rfl rfl ?_
          refine x_getR F flX11_45 ha0 rfl dX11_key_73 rfl ?_
          refine s_getI F flX11_147 (tf11_5 ha0).1 rfl dX11_key_76 rfl ?_
          refine s_callVP F [vI v7, vI (G ((rf a0 5)) 1)] [] lkX11_172 mX2_ownerOf rfl (tf11_8 ha0).1 rfl hnE hn0 hd pX2_ownerOf (tX2_ownerOf cx.l x hi G ((rf a0 8)) v7 (G ((rf a0 5)) 1) (tf11_8 ha0).1) rfl rfl dX11_key_79 rfl rfl (fun v8 => ?_)
          exact x_iret F hnE hQ dX11_key_82
        · refine x_tabOut (pc' := 83) F dX11_key_15 (by omega) rfl ?_
          refine x_bipush F dX11_key_83 ⟨by decide, by decide⟩ (by decide) rfl ?_
          exact x_iret F hnE hQ dX11_key_85
theorem dX11_lost_0 : decode cX11_lost 0 = .ok (.aload_n 0, 1) := by decide +kernel
theorem dX11_lost_1 : decode cX11_lost 1 = .ok (.getfield 70, 3) := by decide +kernel
theorem dX11_lost_4 : decode cX11_lost 4 = .ok (.invokevirtual 243, 3) := by decide +kernel
theorem dX11_lost_7 : decode cX11_lost 7 = .ok (.ireturn, 1) := by decide +kernel
def fX11_lost (a0 : Nat) (G : Hp) : RT := bp (fX2_lostKeys ((rf a0 8)) G) fun v1 => rt v1 G
theorem pX11_lost {G : Hp} {a0 : Nat} : PU G (fX11_lost a0 G) := by
  unfold fX11_lost
  refine PU_bp (fun v1 => ?_)
  exact PU_rt
set_option maxRecDepth 20000 in
set_option maxHeartbeats 4000000 in
theorem tX11_lost (l : Launch) (x : WX) (hi : Inj x.2.2) (G : Hp) (a0 : Nat) (ha0 : kd a0 = 11) : Ct l x yX11_lost cX11_lost 1 (some .int) 2 129 129 [vR a0] G (fX11_lost a0 G) := by
  refine ct_of (plainFor_of_name (by decide)) hi (Nat.le_refl _) (Nat.le_refl _) (Nat.le_of_ble_eq_true rfl) (fun cx F hd hn0 hnE hl hQ => ?_)
  subst hl
  have F : Fx cx x RX11 cX11_lost 1 (some .int) := F
  show Y cx x 1 (some .int) 129 0 [(0, vR a0)] [] G _
  unfold fX11_lost
  refine x_aload_n F dX11_lost_0 rfl rfl rfl ?_
  refine x_getR F flX11_70 ha0 rfl dX11_lost_1 rfl ?_
  refine s_callVP F [] [] lkX11_243 mX2_lostKeys rfl (tf11_8 ha0).1 rfl hnE hn0 hd pX2_lostKeys (tX2_lostKeys cx.l x hi G ((rf a0 8)) (tf11_8 ha0).1) rfl rfl dX11_lost_4 rfl rfl (fun v1 => ?_)
  exact x_iret F hnE hQ dX11_lost_7
theorem dX11_hosts_0 : decode cX11_hosts 0 = .ok (.aload_n 0, 1) := by decide +kernel
theorem dX11_hosts_1 : decode cX11_hosts 1 = .ok (.getfield 19, 3) := by decide +kernel
theorem dX11_hosts_4 : decode cX11_hosts 4 = .ok (.iload_n 1, 1) := by decide +kernel
theorem dX11_hosts_5 : decode cX11_hosts 5 = .ok (.invokevirtual 129, 3) := by decide +kernel
theorem dX11_hosts_8 : decode cX11_hosts 8 = .ok (.ifCond .eq 14, 3) := by decide +kernel
theorem dX11_hosts_11 : decode cX11_hosts 11 = .ok (.aload_n 0, 1) := by decide +kernel
theorem dX11_hosts_12 : decode cX11_hosts 12 = .ok (.getfield 70, 3) := by decide +kernel
theorem dX11_hosts_15 : decode cX11_hosts 15 = .ok (.iload_n 1, 1) := by decide +kernel
theorem dX11_hosts_16 : decode cX11_hosts 16 = .ok (.invokevirtual 286, 3) := by decide +kernel
theorem dX11_hosts_19 : decode cX11_hosts 19 = .ok (.goto 4, 3) := by decide +kernel
theorem dX11_hosts_22 : decode cX11_hosts 22 = .ok (.iconst (-1), 1) := by decide +kernel
theorem dX11_hosts_23 : decode cX11_hosts 23 = .ok (.ireturn, 1) := by decide +kernel
def fX11_hosts (a0 : Nat) (a1 : Int) (G : Hp) : RT := bp (fX8_isNode ((rf a0 1)) a1 G) fun v1 => if v1 = 0 then (rt ((-1)) G) else (bp (fX2_hostsOf ((rf a0 8)) a1 G) fun v2 => rt v2 G)
theorem pX11_hosts {G : Hp} {a0 : Nat} {a1 : Int} : PU G (fX11_hosts a0 a1 G) := by
  unfold fX11_hosts
  refine PU_bp (fun v1 => ?_)
  refine PU_ite ?_ ?_
  · exact PU_rt
  · refine PU_bp (fun v2 => ?_)
    exact PU_rt
set_option maxRecDepth 20000 in
set_option maxHeartbeats 4000000 in
theorem tX11_hosts (l : Launch) (x : WX) (hi : Inj x.2.2) (G : Hp) (a0 : Nat) (a1 : Int) (ha0 : kd a0 = 11) : Ct l x yX11_hosts cX11_hosts 2 (some .int) 2 129 129 [vR a0, vI a1] G (fX11_hosts a0 a1 G) := by
  refine ct_of (plainFor_of_name (by decide)) hi (Nat.le_refl _) (Nat.le_refl _) (Nat.le_of_ble_eq_true rfl) (fun cx F hd hn0 hnE hl hQ => ?_)
  subst hl
  have F : Fx cx x RX11 cX11_hosts 2 (some .int) := F
  show Y cx x 2 (some .int) 129 0 [(0, vR a0), (1, vI a1)] [] G _
  unfold fX11_hosts
  refine x_aload_n F dX11_hosts_0 rfl rfl rfl ?_
  refine x_getR F flX11_19 ha0 rfl dX11_hosts_1 rfl ?_
  refine x_iload_n F dX11_hosts_4 rfl rfl rfl ?_
  refine s_callVP F [vI a1] [] lkX11_129 mX8_isNode rfl (tf11_1 ha0).1 rfl hnE hn0 hd pX8_isNode (tX8_isNode cx.l x hi G ((rf a0 1)) a1 (tf11_1 ha0).1) rfl rfl dX11_hosts_5 rfl rfl (fun v1 => ?_)
  refine x_ifeq (pt := 22) F dX11_hosts_8 rfl rfl ?_ ?_
  · refine x_iconst F dX11_hosts_22 ⟨by decide, by decide⟩ rfl ?_
    exact x_iret F hnE hQ dX11_hosts_23
  · refine x_aload_n F dX11_hosts_11 rfl rfl rfl ?_
    refine x_getR F flX11_70 ha0 rfl dX11_hosts_12 rfl ?_
    refine x_iload_n F dX11_hosts_15 rfl rfl rfl ?_
    refine s_callVP F [vI a1] [] lkX11_286 mX2_hostsOf rfl (tf11_8 ha0).1 rfl hnE hn0 hd pX2_hostsOf (tX2_hostsOf cx.l x hi G ((rf a0 8)) a1 (tf11_8 ha0).1) rfl rfl dX11_hosts_16 rfl rfl (fun v2 => ?_)
    refine x_goto (pc' := 23) F dX11_hosts_19 rfl ?_
    exact x_iret F hnE hQ dX11_hosts_23
theorem dX11_start_0 : decode cX11_start 0 = .ok (.aload_n 0, 1) := by decide +kernel
theorem dX11_start_1 : decode cX11_start 1 = .ok (.getfield 93, 3) := by decide +kernel
theorem dX11_start_4 : decode cX11_start 4 = .ok (.aload_n 0, 1) := by decide +kernel
theorem dX11_start_5 : decode cX11_start 5 = .ok (.getfield 45, 3) := by decide +kernel
theorem dX11_start_8 : decode cX11_start 8 = .ok (.invokevirtual 175, 3) := by decide +kernel
theorem dX11_start_11 : decode cX11_start 11 = .ok (.aload_n 0, 1) := by decide +kernel
theorem dX11_start_12 : decode cX11_start 12 = .ok (.getfield 93, 3) := by decide +kernel
theorem dX11_start_15 : decode cX11_start 15 = .ok (.aload_n 0, 1) := by decide +kernel
theorem dX11_start_16 : decode cX11_start 16 = .ok (.getfield 63, 3) := by decide +kernel
theorem dX11_start_19 : decode cX11_start 19 = .ok (.iload_n 1, 1) := by decide +kernel
theorem dX11_start_20 : decode cX11_start 20 = .ok (.invokevirtual 179, 3) := by decide +kernel
theorem dX11_start_23 : decode cX11_start 23 = .ok (.invokevirtual 182, 3) := by decide +kernel
theorem dX11_start_26 : decode cX11_start 26 = .ok (.ireturn, 1) := by decide +kernel
def fX11_start (a0 : Nat) (a1 : Int) (G : Hp) : RT := bn (fX3_lay ((rf a0 11)) ((rf a0 5)) G) fun _ G1 => bn (fX0_doBegin ((rf a0 7)) a1 G1) fun v2 G3 => bn (fX3_keepIf ((rf a0 11)) v2 G3) fun v4 G5 => rz v4 G5
set_option maxRecDepth 20000 in
set_option maxHeartbeats 4000000 in
theorem tX11_start (l : Launch) (x : WX) (hi : Inj x.2.2) (G : Hp) (a0 : Nat) (a1 : Int) (ha0 : kd a0 = 11) : Ct l x yX11_start cX11_start 2 (some .boolean) 3 129 129 [vR a0, vI a1] G (fX11_start a0 a1 G) := by
  refine ct_of (plainFor_of_name (by decide)) hi (Nat.le_refl _) (Nat.le_refl _) (Nat.le_of_ble_eq_true rfl) (fun cx F hd hn0 hnE hl hQ => ?_)
  subst hl
  have F : Fx cx x RX11 cX11_start 2 (some .boolean) := F
  show Y cx x 2 (some .boolean) 129 0 [(0, vR a0), (1, vI a1)] [] G _
  unfold fX11_start
  refine x_aload_n F dX11_start_0 rfl rfl rfl ?_
  refine x_getR F flX11_93 ha0 rfl dX11_start_1 rfl ?_
  refine x_aload_n F dX11_start_4 rfl rfl rfl ?_
  refine x_getR F flX11_45 ha0 rfl dX11_start_5 rfl ?_
  refine s_callVv F [vR ((rf a0 5))] [] lkX11_175 mX3_lay rfl (tf11_11 ha0).1 rfl hnE hn0 hd (tX3_lay cx.l x hi G ((rf a0 11)) ((rf a0 5)) (tf11_11 ha0).1 (tf11_5 ha0).1) rfl rfl dX11_start_8 rfl rfl (fun _ G1 => ?_)
  refine x_aload_n F dX11_start_11 rfl rfl rfl ?_
  refine x_getR F flX11_93 ha0 rfl dX11_start_12 rfl ?_
  refine x_aload_n F dX11_start_15 rfl rfl rfl ?_
  refine x_getR F flX11_63 ha0 rfl dX11_start_16 rfl ?_
  refine x_iload_n F dX11_start_19 rfl rfl rfl ?_
  refine s_callV F [vI a1] [vR ((rf a0 11))] lkX11_179 mX0_doBegin rfl (tf11_7 ha0).1 rfl hnE hn0 hd (tX0_doBegin cx.l x hi G1 ((rf a0 7)) a1 (tf11_7 ha0).1) rfl rfl dX11_start_20 rfl rfl (fun v2 G3 => ?_)
  refine s_callV F [vI v2] [] lkX11_182 mX3_keepIf rfl (tf11_11 ha0).1 rfl hnE hn0 hd (tX3_keepIf cx.l x hi G3 ((rf a0 11)) v2 (tf11_11 ha0).1) rfl rfl dX11_start_23 rfl rfl (fun v4 G5 => ?_)
  exact x_zret F hnE hQ dX11_start_26
theorem dX11_leave_0 : decode cX11_leave 0 = .ok (.aload_n 0, 1) := by decide +kernel
theorem dX11_leave_1 : decode cX11_leave 1 = .ok (.getfield 93, 3) := by decide +kernel
theorem dX11_leave_4 : decode cX11_leave 4 = .ok (.aload_n 0, 1) := by decide +kernel
theorem dX11_leave_5 : decode cX11_leave 5 = .ok (.getfield 45, 3) := by decide +kernel
theorem dX11_leave_8 : decode cX11_leave 8 = .ok (.invokevirtual 175, 3) := by decide +kernel
theorem dX11_leave_11 : decode cX11_leave 11 = .ok (.aload_n 0, 1) := by decide +kernel
theorem dX11_leave_12 : decode cX11_leave 12 = .ok (.getfield 93, 3) := by decide +kernel
theorem dX11_leave_15 : decode cX11_leave 15 = .ok (.aload_n 0, 1) := by decide +kernel
theorem dX11_leave_16 : decode cX11_leave 16 = .ok (.getfield 63, 3) := by decide +kernel
theorem dX11_leave_19 : decode cX11_leave 19 = .ok (.iload_n 1, 1) := by decide +kernel
theorem dX11_leave_20 : decode cX11_leave 20 = .ok (.invokevirtual 190, 3) := by decide +kernel
theorem dX11_leave_23 : decode cX11_leave 23 = .ok (.invokevirtual 182, 3) := by decide +kernel
theorem dX11_leave_26 : decode cX11_leave 26 = .ok (.ireturn, 1) := by decide +kernel
def fX11_leave (a0 : Nat) (a1 : Int) (G : Hp) : RT := bn (fX3_lay ((rf a0 11)) ((rf a0 5)) G) fun _ G1 => bn (fX0_doLeave ((rf a0 7)) a1 G1) fun v2 G3 => bn (fX3_keepIf ((rf a0 11)) v2 G3) fun v4 G5 => rz v4 G5
set_option maxRecDepth 20000 in
set_option maxHeartbeats 4000000 in
theorem tX11_leave (l : Launch) (x : WX) (hi : Inj x.2.2) (G : Hp) (a0 : Nat) (a1 : Int) (ha0 : kd a0 = 11) : Ct l x yX11_leave cX11_leave 2 (some .boolean) 3 129 129 [vR a0, vI a1] G (fX11_leave a0 a1 G) := by
  refine ct_of (plainFor_of_name (by decide)) hi (Nat.le_refl _) (Nat.le_refl _) (Nat.le_of_ble_eq_true rfl) (fun cx F hd hn0 hnE hl hQ => ?_)
  subst hl
  have F : Fx cx x RX11 cX11_leave 2 (some .boolean) := F
  show Y cx x 2 (some .boolean) 129 0 [(0, vR a0), (1, vI a1)] [] G _
  unfold fX11_leave
  refine x_aload_n F dX11_leave_0 rfl rfl rfl ?_
  refine x_getR F flX11_93 ha0 rfl dX11_leave_1 rfl ?_
  refine x_aload_n F dX11_leave_4 rfl rfl rfl ?_
  refine x_getR F flX11_45 ha0 rfl dX11_leave_5 rfl ?_
  refine s_callVv F [vR ((rf a0 5))] [] lkX11_175 mX3_lay rfl (tf11_11 ha0).1 rfl hnE hn0 hd (tX3_lay cx.l x hi G ((rf a0 11)) ((rf a0 5)) (tf11_11 ha0).1 (tf11_5 ha0).1) rfl rfl dX11_leave_8 rfl rfl (fun _ G1 => ?_)
  refine x_aload_n F dX11_leave_11 rfl rfl rfl ?_
  refine x_getR F flX11_93 ha0 rfl dX11_leave_12 rfl ?_
  refine x_aload_n F dX11_leave_15 rfl rfl rfl ?_
  refine x_getR F flX11_63 ha0 rfl dX11_leave_16 rfl ?_
  refine x_iload_n F dX11_leave_19 rfl rfl rfl ?_
  refine s_callV F [vI a1] [vR ((rf a0 11))] lkX11_190 mX0_doLeave rfl (tf11_7 ha0).1 rfl hnE hn0 hd (tX0_doLeave cx.l x hi G1 ((rf a0 7)) a1 (tf11_7 ha0).1) rfl rfl dX11_leave_20 rfl rfl (fun v2 G3 => ?_)
  refine s_callV F [vI v2] [] lkX11_182 mX3_keepIf rfl (tf11_11 ha0).1 rfl hnE hn0 hd (tX3_keepIf cx.l x hi G3 ((rf a0 11)) v2 (tf11_11 ha0).1) rfl rfl dX11_leave_23 rfl rfl (fun v4 G5 => ?_)
  exact x_zret F hnE hQ dX11_leave_26
theorem dX11_fail_0 : decode cX11_fail 0 = .ok (.aload_n 0, 1) := by decide +kernel
theorem dX11_fail_1 : decode cX11_fail 1 = .ok (.getfield 93, 3) := by decide +kernel
theorem dX11_fail_4 : decode cX11_fail 4 = .ok (.aload_n 0, 1) := by decide +kernel
theorem dX11_fail_5 : decode cX11_fail 5 = .ok (.getfield 45, 3) := by decide +kernel
theorem dX11_fail_8 : decode cX11_fail 8 = .ok (.invokevirtual 175, 3) := by decide +kernel
theorem dX11_fail_11 : decode cX11_fail 11 = .ok (.aload_n 0, 1) := by decide +kernel
theorem dX11_fail_12 : decode cX11_fail 12 = .ok (.getfield 93, 3) := by decide +kernel
theorem dX11_fail_15 : decode cX11_fail 15 = .ok (.aload_n 0, 1) := by decide +kernel
theorem dX11_fail_16 : decode cX11_fail 16 = .ok (.getfield 63, 3) := by decide +kernel
theorem dX11_fail_19 : decode cX11_fail 19 = .ok (.iload_n 1, 1) := by decide +kernel
theorem dX11_fail_20 : decode cX11_fail 20 = .ok (.invokevirtual 193, 3) := by decide +kernel
theorem dX11_fail_23 : decode cX11_fail 23 = .ok (.invokevirtual 196, 3) := by decide +kernel
theorem dX11_fail_26 : decode cX11_fail 26 = .ok (.ireturn, 1) := by decide +kernel
def fX11_fail (a0 : Nat) (a1 : Int) (G : Hp) : RT := bn (fX3_lay ((rf a0 11)) ((rf a0 5)) G) fun _ G1 => bn (fX0_doFail ((rf a0 7)) a1 G1) fun v2 G3 => bn (fX3_keepUnlessNone ((rf a0 11)) v2 G3) fun v4 G5 => rt v4 G5
set_option maxRecDepth 20000 in
set_option maxHeartbeats 4000000 in
theorem tX11_fail (l : Launch) (x : WX) (hi : Inj x.2.2) (G : Hp) (a0 : Nat) (a1 : Int) (ha0 : kd a0 = 11) : Ct l x yX11_fail cX11_fail 2 (some .int) 3 129 129 [vR a0, vI a1] G (fX11_fail a0 a1 G) := by
  refine ct_of (plainFor_of_name (by decide)) hi (Nat.le_refl _) (Nat.le_refl _) (Nat.le_of_ble_eq_true rfl) (fun cx F hd hn0 hnE hl hQ => ?_)
  subst hl
  have F : Fx cx x RX11 cX11_fail 2 (some .int) := F
  show Y cx x 2 (some .int) 129 0 [(0, vR a0), (1, vI a1)] [] G _
  unfold fX11_fail
  refine x_aload_n F dX11_fail_0 rfl rfl rfl ?_
  refine x_getR F flX11_93 ha0 rfl dX11_fail_1 rfl ?_
  refine x_aload_n F dX11_fail_4 rfl rfl rfl ?_
  refine x_getR F flX11_45 ha0 rfl dX11_fail_5 rfl ?_
  refine s_callVv F [vR ((rf a0 5))] [] lkX11_175 mX3_lay rfl (tf11_11 ha0).1 rfl hnE hn0 hd (tX3_lay cx.l x hi G ((rf a0 11)) ((rf a0 5)) (tf11_11 ha0).1 (tf11_5 ha0).1) rfl rfl dX11_fail_8 rfl rfl (fun _ G1 => ?_)
  refine x_aload_n F dX11_fail_11 rfl rfl rfl ?_
  refine x_getR F flX11_93 ha0 rfl dX11_fail_12 rfl ?_
  refine x_aload_n F dX11_fail_15 rfl rfl rfl ?_
  refine x_getR F flX11_63 ha0 rfl dX11_fail_16 rfl ?_
  refine x_iload_n F dX11_fail_19 rfl rfl rfl ?_
  refine s_callV F [vI a1] [vR ((rf a0 11))] lkX11_193 mX0_doFail rfl (tf11_7 ha0).1 rfl hnE hn0 hd (tX0_doFail cx.l x hi G1 ((rf a0 7)) a1 (tf11_7 ha0).1) rfl rfl dX11_fail_20 rfl rfl (fun v2 G3 => ?_)
  refine s_callV F [vI v2] [] lkX11_196 mX3_keepUnlessNone rfl (tf11_11 ha0).1 rfl hnE hn0 hd (tX3_keepUnlessNone cx.l x hi G3 ((rf a0 11)) v2 (tf11_11 ha0).1) rfl rfl dX11_fail_23 rfl rfl (fun v4 G5 => ?_)
  exact x_iret F hnE hQ dX11_fail_26
theorem dX11_flush_0 : decode cX11_flush 0 = .ok (.aload_n 0, 1) := by decide +kernel
theorem dX11_flush_1 : decode cX11_flush 1 = .ok (.getfield 93, 3) := by decide +kernel
theorem dX11_flush_4 : decode cX11_flush 4 = .ok (.aload_n 0, 1) := by decide +kernel
theorem dX11_flush_5 : decode cX11_flush 5 = .ok (.getfield 45, 3) := by decide +kernel
theorem dX11_flush_8 : decode cX11_flush 8 = .ok (.invokevirtual 175, 3) := by decide +kernel
theorem dX11_flush_11 : decode cX11_flush 11 = .ok (.aload_n 0, 1) := by decide +kernel
theorem dX11_flush_12 : decode cX11_flush 12 = .ok (.getfield 93, 3) := by decide +kernel
theorem dX11_flush_15 : decode cX11_flush 15 = .ok (.aload_n 0, 1) := by decide +kernel
theorem dX11_flush_16 : decode cX11_flush 16 = .ok (.getfield 63, 3) := by decide +kernel
theorem dX11_flush_19 : decode cX11_flush 19 = .ok (.iload_n 1, 1) := by decide +kernel
theorem dX11_flush_20 : decode cX11_flush 20 = .ok (.invokevirtual 202, 3) := by decide +kernel
theorem dX11_flush_23 : decode cX11_flush 23 = .ok (.invokevirtual 196, 3) := by decide +kernel
theorem dX11_flush_26 : decode cX11_flush 26 = .ok (.ireturn, 1) := by decide +kernel
def fX11_flush (a0 : Nat) (a1 : Int) (G : Hp) : RT := bn (fX3_lay ((rf a0 11)) ((rf a0 5)) G) fun _ G1 => bn (fX0_doFlush ((rf a0 7)) a1 G1) fun v2 G3 => bn (fX3_keepUnlessNone ((rf a0 11)) v2 G3) fun v4 G5 => rt v4 G5
set_option maxRecDepth 20000 in
set_option maxHeartbeats 4000000 in
theorem tX11_flush (l : Launch) (x : WX) (hi : Inj x.2.2) (G : Hp) (a0 : Nat) (a1 : Int) (ha0 : kd a0 = 11) : Ct l x yX11_flush cX11_flush 2 (some .int) 3 129 129 [vR a0, vI a1] G (fX11_flush a0 a1 G) := by
  refine ct_of (plainFor_of_name (by decide)) hi (Nat.le_refl _) (Nat.le_refl _) (Nat.le_of_ble_eq_true rfl) (fun cx F hd hn0 hnE hl hQ => ?_)
  subst hl
  have F : Fx cx x RX11 cX11_flush 2 (some .int) := F
  show Y cx x 2 (some .int) 129 0 [(0, vR a0), (1, vI a1)] [] G _
  unfold fX11_flush
  refine x_aload_n F dX11_flush_0 rfl rfl rfl ?_
  refine x_getR F flX11_93 ha0 rfl dX11_flush_1 rfl ?_
  refine x_aload_n F dX11_flush_4 rfl rfl rfl ?_
  refine x_getR F flX11_45 ha0 rfl dX11_flush_5 rfl ?_
  refine s_callVv F [vR ((rf a0 5))] [] lkX11_175 mX3_lay rfl (tf11_11 ha0).1 rfl hnE hn0 hd (tX3_lay cx.l x hi G ((rf a0 11)) ((rf a0 5)) (tf11_11 ha0).1 (tf11_5 ha0).1) rfl rfl dX11_flush_8 rfl rfl (fun _ G1 => ?_)
  refine x_aload_n F dX11_flush_11 rfl rfl rfl ?_
  refine x_getR F flX11_93 ha0 rfl dX11_flush_12 rfl ?_
  refine x_aload_n F dX11_flush_15 rfl rfl rfl ?_
  refine x_getR F flX11_63 ha0 rfl dX11_flush_16 rfl ?_
  refine x_iload_n F dX11_flush_19 rfl rfl rfl ?_
  refine s_callV F [vI a1] [vR ((rf a0 11))] lkX11_202 mX0_doFlush rfl (tf11_7 ha0).1 rfl hnE hn0 hd (tX0_doFlush cx.l x hi G1 ((rf a0 7)) a1 (tf11_7 ha0).1) rfl rfl dX11_flush_20 rfl rfl (fun v2 G3 => ?_)
  refine s_callV F [vI v2] [] lkX11_196 mX3_keepUnlessNone rfl (tf11_11 ha0).1 rfl hnE hn0 hd (tX3_keepUnlessNone cx.l x hi G3 ((rf a0 11)) v2 (tf11_11 ha0).1) rfl rfl dX11_flush_23 rfl rfl (fun v4 G5 => ?_)
  exact x_iret F hnE hQ dX11_flush_26
theorem dX11_undo_0 : decode cX11_undo 0 = .ok (.aload_n 0, 1) := by decide +kernel
theorem dX11_undo_1 : decode cX11_undo 1 = .ok (.getfield 93, 3) := by decide +kernel
theorem dX11_undo_4 : decode cX11_undo 4 = .ok (.aload_n 0, 1) := by decide +kernel
theorem dX11_undo_5 : decode cX11_undo 5 = .ok (.getfield 45, 3) := by decide +kernel
theorem dX11_undo_8 : decode cX11_undo 8 = .ok (.invokevirtual 217, 3) := by decide +kernel
theorem dX11_undo_11 : decode cX11_undo 11 = .ok (.ireturn, 1) := by decide +kernel
def fX11_undo (a0 : Nat) (G : Hp) : RT := bn (fX3_takeBack ((rf a0 11)) ((rf a0 5)) G) fun v1 G2 => rz v1 G2
set_option maxRecDepth 20000 in
set_option maxHeartbeats 4000000 in
theorem tX11_undo (l : Launch) (x : WX) (hi : Inj x.2.2) (G : Hp) (a0 : Nat) (ha0 : kd a0 = 11) : Ct l x yX11_undo cX11_undo 1 (some .boolean) 3 129 129 [vR a0] G (fX11_undo a0 G) := by
  refine ct_of (plainFor_of_name (by decide)) hi (Nat.le_refl _) (Nat.le_refl _) (Nat.le_of_ble_eq_true rfl) (fun cx F hd hn0 hnE hl hQ => ?_)
  subst hl
  have F : Fx cx x RX11 cX11_undo 1 (some .boolean) := F
  show Y cx x 1 (some .boolean) 129 0 [(0, vR a0)] [] G _
  unfold fX11_undo
  refine x_aload_n F dX11_undo_0 rfl rfl rfl ?_
  refine x_getR F flX11_93 ha0 rfl dX11_undo_1 rfl ?_
  refine x_aload_n F dX11_undo_4 rfl rfl rfl ?_
  refine x_getR F flX11_45 ha0 rfl dX11_undo_5 rfl ?_
  refine s_callV F [vR ((rf a0 5))] [] lkX11_217 mX3_takeBack rfl (tf11_11 ha0).1 rfl hnE hn0 hd (tX3_takeBack cx.l x hi G ((rf a0 11)) ((rf a0 5)) (tf11_11 ha0).1 (tf11_5 ha0).1) rfl rfl dX11_undo_8 rfl rfl (fun v1 G2 => ?_)
  exact x_zret F hnE hQ dX11_undo_11
theorem dX11_find_0 : decode cX11_find 0 = .ok (.aload_n 0, 1) := by decide +kernel
theorem dX11_find_1 : decode cX11_find 1 = .ok (.getfield 54, 3) := by decide +kernel
theorem dX11_find_4 : decode cX11_find 4 = .ok (.iload_n 1, 1) := by decide +kernel
theorem dX11_find_5 : decode cX11_find 5 = .ok (.iload_n 2, 1) := by decide +kernel
theorem dX11_find_6 : decode cX11_find 6 = .ok (.invokevirtual 225, 3) := by decide +kernel
theorem dX11_find_9 : decode cX11_find 9 = .ok (.ifCond .eq 13, 3) := by decide +kernel
theorem dX11_find_12 : decode cX11_find 12 = .ok (.aload_n 0, 1) := by decide +kernel
theorem dX11_find_13 : decode cX11_find 13 = .ok (.getfield 54, 3) := by decide +kernel
theorem dX11_find_16 : decode cX11_find 16 = .ok (.getfield 228, 3) := by decide +kernel
theorem dX11_find_19 : decode cX11_find 19 = .ok (.goto 4, 3) := by decide +kernel
theorem dX11_find_22 : decode cX11_find 22 = .ok (.iconst (-1), 1) := by decide +kernel
theorem dX11_find_23 : decode cX11_find 23 = .ok (.ireturn, 1) := by decide +kernel
def fX11_find (a0 : Nat) (a1 : Int) (a2 : Int) (G : Hp) : RT := bn (fX1_seek ((rf a0 6)) a1 a2 G) fun v1 G2 => if v1 = 0 then (rt ((-1)) G2) else (rt (G2 ((rf a0 6)) 3) G2)
set_option maxRecDepth 20000 in
set_option maxHeartbeats 4000000 in
theorem tX11_find (l : Launch) (x : WX) (hi : Inj x.2.2) (G : Hp) (a0 : Nat) (a1 : Int) (a2 : Int) (ha0 : kd a0 = 11) : Ct l x yX11_find cX11_find 3 (some .int) 3 129 129 [vR a0, vI a1, vI a2] G (fX11_find a0 a1 a2 G) := by
  refine ct_of (plainFor_of_name (by decide)) hi (Nat.le_refl _) (Nat.le_refl _) (Nat.le_of_ble_eq_true rfl) (fun cx F hd hn0 hnE hl hQ => ?_)
  subst hl
  have F : Fx cx x RX11 cX11_find 3 (some .int) := F
  show Y cx x 3 (some .int) 129 0 [(0, vR a0), (1, vI a1), (2, vI a2)] [] G _
  unfold fX11_find
  refine x_aload_n F dX11_find_0 rfl rfl rfl ?_
  refine x_getR F flX11_54 ha0 rfl dX11_find_1 rfl ?_
  refine x_iload_n F dX11_find_4 rfl rfl rfl ?_
  refine x_iload_n F dX11_find_5 rfl rfl rfl ?_
  refine s_callV F [vI a1, vI a2] [] lkX11_225 mX1_seek rfl (tf11_6 ha0).1 rfl hnE hn0 hd (tX1_seek cx.l x hi G ((rf a0 6)) a1 a2 (tf11_6 ha0).1) rfl rfl dX11_find_6 rfl rfl (fun v1 G2 => ?_)
  refine x_ifeq (pt := 22) F dX11_find_9 rfl rfl ?_ ?_
  · refine x_iconst F dX11_find_22 ⟨by decide, by decide⟩ rfl ?_
    exact x_iret F hnE hQ dX11_find_23
  · refine x_aload_n F dX11_find_12 rfl rfl rfl ?_
    refine x_getR F flX11_54 ha0 rfl dX11_find_13 rfl ?_
    refine s_getI F flX11_228 (tf11_6 ha0).1 rfl dX11_find_16 rfl ?_
    refine x_goto (pc' := 23) F dX11_find_19 rfl ?_
    exact x_iret F hnE hQ dX11_find_23
theorem dX11_steps_0 : decode cX11_steps 0 = .ok (.aload_n 0, 1) := by decide +kernel
theorem dX11_steps_1 : decode cX11_steps 1 = .ok (.getfield 54, 3) := by decide +kernel
theorem dX11_steps_4 : decode cX11_steps 4 = .ok (.iload_n 1, 1) := by decide +kernel
theorem dX11_steps_5 : decode cX11_steps 5 = .ok (.iload_n 2, 1) := by decide +kernel
theorem dX11_steps_6 : decode cX11_steps 6 = .ok (.invokevirtual 225, 3) := by decide +kernel
theorem dX11_steps_9 : decode cX11_steps 9 = .ok (.ifCond .eq 13, 3) := by decide +kernel
theorem dX11_steps_12 : decode cX11_steps 12 = .ok (.aload_n 0, 1) := by decide +kernel
theorem dX11_steps_13 : decode cX11_steps 13 = .ok (.getfield 54, 3) := by decide +kernel
theorem dX11_steps_16 : decode cX11_steps 16 = .ok (.getfield 231, 3) := by decide +kernel
theorem dX11_steps_19 : decode cX11_steps 19 = .ok (.goto 4, 3) := by decide +kernel
theorem dX11_steps_22 : decode cX11_steps 22 = .ok (.iconst (-1), 1) := by decide +kernel
theorem dX11_steps_23 : decode cX11_steps 23 = .ok (.ireturn, 1) := by decide +kernel
def fX11_steps (a0 : Nat) (a1 : Int) (a2 : Int) (G : Hp) : RT := bn (fX1_seek ((rf a0 6)) a1 a2 G) fun v1 G2 => if v1 = 0 then (rt ((-1)) G2) else (rt (G2 ((rf a0 6)) 4) G2)
set_option maxRecDepth 20000 in
set_option maxHeartbeats 4000000 in
theorem tX11_steps (l : Launch) (x : WX) (hi : Inj x.2.2) (G : Hp) (a0 : Nat) (a1 : Int) (a2 : Int) (ha0 : kd a0 = 11) : Ct l x yX11_steps cX11_steps 3 (some .int) 3 129 129 [vR a0, vI a1, vI a2] G (fX11_steps a0 a1 a2 G) := by
  refine ct_of (plainFor_of_name (by decide)) hi (Nat.le_refl _) (Nat.le_refl _) (Nat.le_of_ble_eq_true rfl) (fun cx F hd hn0 hnE hl hQ => ?_)
  subst hl
  have F : Fx cx x RX11 cX11_steps 3 (some .int) := F
  show Y cx x 3 (some .int) 129 0 [(0, vR a0), (1, vI a1), (2, vI a2)] [] G _
  unfold fX11_steps
  refine x_aload_n F dX11_steps_0 rfl rfl rfl ?_
  refine x_getR F flX11_54 ha0 rfl dX11_steps_1 rfl ?_
  refine x_iload_n F dX11_steps_4 rfl rfl rfl ?_
  refine x_iload_n F dX11_steps_5 rfl rfl rfl ?_
  refine s_callV F [vI a1, vI a2] [] lkX11_225 mX1_seek rfl (tf11_6 ha0).1 rfl hnE hn0 hd (tX1_seek cx.l x hi G ((rf a0 6)) a1 a2 (tf11_6 ha0).1) rfl rfl dX11_steps_6 rfl rfl (fun v1 G2 => ?_)
  refine x_ifeq (pt := 22) F dX11_steps_9 rfl rfl ?_ ?_
  · refine x_iconst F dX11_steps_22 ⟨by decide, by decide⟩ rfl ?_
    exact x_iret F hnE hQ dX11_steps_23
  · refine x_aload_n F dX11_steps_12 rfl rfl rfl ?_
    refine x_getR F flX11_54 ha0 rfl dX11_steps_13 rfl ?_
    refine s_getI F flX11_231 (tf11_6 ha0).1 rfl dX11_steps_16 rfl ?_
    refine x_goto (pc' := 23) F dX11_steps_19 rfl ?_
    exact x_iret F hnE hQ dX11_steps_23
theorem dX11_astray_0 : decode cX11_astray 0 = .ok (.aload_n 0, 1) := by decide +kernel
theorem dX11_astray_1 : decode cX11_astray 1 = .ok (.getfield 70, 3) := by decide +kernel
theorem dX11_astray_4 : decode cX11_astray 4 = .ok (.invokevirtual 240, 3) := by decide +kernel
theorem dX11_astray_7 : decode cX11_astray 7 = .ok (.ireturn, 1) := by decide +kernel
def fX11_astray (a0 : Nat) (G : Hp) : RT := bp (fX2_astrayKeys ((rf a0 8)) G) fun v1 => rt v1 G
theorem pX11_astray {G : Hp} {a0 : Nat} : PU G (fX11_astray a0 G) := by
  unfold fX11_astray
  refine PU_bp (fun v1 => ?_)
  exact PU_rt
set_option maxRecDepth 20000 in
set_option maxHeartbeats 4000000 in
theorem tX11_astray (l : Launch) (x : WX) (hi : Inj x.2.2) (G : Hp) (a0 : Nat) (ha0 : kd a0 = 11) : Ct l x yX11_astray cX11_astray 1 (some .int) 3 129 129 [vR a0] G (fX11_astray a0 G) := by
  refine ct_of (plainFor_of_name (by decide)) hi (Nat.le_refl _) (Nat.le_refl _) (Nat.le_of_ble_eq_true rfl) (fun cx F hd hn0 hnE hl hQ => ?_)
  subst hl
  have F : Fx cx x RX11 cX11_astray 1 (some .int) := F
  show Y cx x 1 (some .int) 129 0 [(0, vR a0)] [] G _
  unfold fX11_astray
  refine x_aload_n F dX11_astray_0 rfl rfl rfl ?_
  refine x_getR F flX11_70 ha0 rfl dX11_astray_1 rfl ?_
  refine s_callVP F [] [] lkX11_240 mX2_astrayKeys rfl (tf11_8 ha0).1 rfl hnE hn0 hd pX2_astrayKeys (tX2_astrayKeys cx.l x hi G ((rf a0 8)) (tf11_8 ha0).1) rfl rfl dX11_astray_4 rfl rfl (fun v1 => ?_)
  exact x_iret F hnE hQ dX11_astray_7
theorem dX11_wrongs_0 : decode cX11_wrongs 0 = .ok (.aload_n 0, 1) := by decide +kernel
theorem dX11_wrongs_1 : decode cX11_wrongs 1 = .ok (.getfield 45, 3) := by decide +kernel
theorem dX11_wrongs_4 : decode cX11_wrongs 4 = .ok (.iload_n 1, 1) := by decide +kernel
theorem dX11_wrongs_5 : decode cX11_wrongs 5 = .ok (.invokevirtual 140, 3) := by decide +kernel
theorem dX11_wrongs_8 : decode cX11_wrongs 8 = .ok (.ifCond .eq 14, 3) := by decide +kernel
theorem dX11_wrongs_11 : decode cX11_wrongs 11 = .ok (.aload_n 0, 1) := by decide +kernel
theorem dX11_wrongs_12 : decode cX11_wrongs 12 = .ok (.getfield 70, 3) := by decide +kernel
theorem dX11_wrongs_15 : decode cX11_wrongs 15 = .ok (.iload_n 1, 1) := by decide +kernel
theorem dX11_wrongs_16 : decode cX11_wrongs 16 = .ok (.invokevirtual 274, 3) := by decide +kernel
theorem dX11_wrongs_19 : decode cX11_wrongs 19 = .ok (.goto 4, 3) := by decide +kernel
theorem dX11_wrongs_22 : decode cX11_wrongs 22 = .ok (.iconst (-1), 1) := by decide +kernel
theorem dX11_wrongs_23 : decode cX11_wrongs 23 = .ok (.ireturn, 1) := by decide +kernel
def fX11_wrongs (a0 : Nat) (a1 : Int) (G : Hp) : RT := bp (fX6_isIn ((rf a0 5)) a1 G) fun v1 => if v1 = 0 then (rt ((-1)) G) else (bp (fX2_wrongFingers ((rf a0 8)) a1 G) fun v2 => rt v2 G)
theorem pX11_wrongs {G : Hp} {a0 : Nat} {a1 : Int} : PU G (fX11_wrongs a0 a1 G) := by
  unfold fX11_wrongs
  refine PU_bp (fun v1 => ?_)
  refine PU_ite ?_ ?_
  · exact PU_rt
  · refine PU_bp (fun v2 => ?_)
    exact PU_rt
set_option maxRecDepth 20000 in
set_option maxHeartbeats 4000000 in
theorem tX11_wrongs (l : Launch) (x : WX) (hi : Inj x.2.2) (G : Hp) (a0 : Nat) (a1 : Int) (ha0 : kd a0 = 11) : Ct l x yX11_wrongs cX11_wrongs 2 (some .int) 3 129 129 [vR a0, vI a1] G (fX11_wrongs a0 a1 G) := by
  refine ct_of (plainFor_of_name (by decide)) hi (Nat.le_refl _) (Nat.le_refl _) (Nat.le_of_ble_eq_true rfl) (fun cx F hd hn0 hnE hl hQ => ?_)
  subst hl
  have F : Fx cx x RX11 cX11_wrongs 2 (some .int) := F
  show Y cx x 2 (some .int) 129 0 [(0, vR a0), (1, vI a1)] [] G _
  unfold fX11_wrongs
  refine x_aload_n F dX11_wrongs_0 rfl rfl rfl ?_
  refine x_getR F flX11_45 ha0 rfl dX11_wrongs_1 rfl ?_
  refine x_iload_n F dX11_wrongs_4 rfl rfl rfl ?_
  refine s_callVP F [vI a1] [] lkX11_140 mX6_isIn rfl (tf11_5 ha0).1 rfl hnE hn0 hd pX6_isIn (tX6_isIn cx.l x hi G ((rf a0 5)) a1 (tf11_5 ha0).1) rfl rfl dX11_wrongs_5 rfl rfl (fun v1 => ?_)
  refine x_ifeq (pt := 22) F dX11_wrongs_8 rfl rfl ?_ ?_
  · refine x_iconst F dX11_wrongs_22 ⟨by decide, by decide⟩ rfl ?_
    exact x_iret F hnE hQ dX11_wrongs_23
  · refine x_aload_n F dX11_wrongs_11 rfl rfl rfl ?_
    refine x_getR F flX11_70 ha0 rfl dX11_wrongs_12 rfl ?_
    refine x_iload_n F dX11_wrongs_15 rfl rfl rfl ?_
    refine s_callVP F [vI a1] [] lkX11_274 mX2_wrongFingers rfl (tf11_8 ha0).1 rfl hnE hn0 hd pX2_wrongFingers (tX2_wrongFingers cx.l x hi G ((rf a0 8)) a1 (tf11_8 ha0).1) rfl rfl dX11_wrongs_16 rfl rfl (fun v2 => ?_)
    refine x_goto (pc' := 23) F dX11_wrongs_19 rfl ?_
    exact x_iret F hnE hQ dX11_wrongs_23
theorem dX11_load_0 : decode cX11_load 0 = .ok (.aload_n 0, 1) := by decide +kernel
theorem dX11_load_1 : decode cX11_load 1 = .ok (.getfield 45, 3) := by decide +kernel
theorem dX11_load_4 : decode cX11_load 4 = .ok (.iload_n 1, 1) := by decide +kernel
theorem dX11_load_5 : decode cX11_load 5 = .ok (.invokevirtual 140, 3) := by decide +kernel
theorem dX11_load_8 : decode cX11_load 8 = .ok (.ifCond .eq 14, 3) := by decide +kernel
theorem dX11_load_11 : decode cX11_load 11 = .ok (.aload_n 0, 1) := by decide +kernel
theorem dX11_load_12 : decode cX11_load 12 = .ok (.getfield 70, 3) := by decide +kernel
theorem dX11_load_15 : decode cX11_load 15 = .ok (.iload_n 1, 1) := by decide +kernel
theorem dX11_load_16 : decode cX11_load 16 = .ok (.invokevirtual 283, 3) := by decide +kernel
theorem dX11_load_19 : decode cX11_load 19 = .ok (.goto 4, 3) := by decide +kernel
theorem dX11_load_22 : decode cX11_load 22 = .ok (.iconst (-1), 1) := by decide +kernel
theorem dX11_load_23 : decode cX11_load 23 = .ok (.ireturn, 1) := by decide +kernel
def fX11_load (a0 : Nat) (a1 : Int) (G : Hp) : RT := bp (fX6_isIn ((rf a0 5)) a1 G) fun v1 => if v1 = 0 then (rt ((-1)) G) else (bp (fX2_ownedBy ((rf a0 8)) a1 G) fun v2 => rt v2 G)
theorem pX11_load {G : Hp} {a0 : Nat} {a1 : Int} : PU G (fX11_load a0 a1 G) := by
  unfold fX11_load
  refine PU_bp (fun v1 => ?_)
  refine PU_ite ?_ ?_
  · exact PU_rt
  · refine PU_bp (fun v2 => ?_)
    exact PU_rt
set_option maxRecDepth 20000 in
set_option maxHeartbeats 4000000 in
theorem tX11_load (l : Launch) (x : WX) (hi : Inj x.2.2) (G : Hp) (a0 : Nat) (a1 : Int) (ha0 : kd a0 = 11) : Ct l x yX11_load cX11_load 2 (some .int) 3 129 129 [vR a0, vI a1] G (fX11_load a0 a1 G) := by
  refine ct_of (plainFor_of_name (by decide)) hi (Nat.le_refl _) (Nat.le_refl _) (Nat.le_of_ble_eq_true rfl) (fun cx F hd hn0 hnE hl hQ => ?_)
  subst hl
  have F : Fx cx x RX11 cX11_load 2 (some .int) := F
  show Y cx x 2 (some .int) 129 0 [(0, vR a0), (1, vI a1)] [] G _
  unfold fX11_load
  refine x_aload_n F dX11_load_0 rfl rfl rfl ?_
  refine x_getR F flX11_45 ha0 rfl dX11_load_1 rfl ?_
  refine x_iload_n F dX11_load_4 rfl rfl rfl ?_
  refine s_callVP F [vI a1] [] lkX11_140 mX6_isIn rfl (tf11_5 ha0).1 rfl hnE hn0 hd pX6_isIn (tX6_isIn cx.l x hi G ((rf a0 5)) a1 (tf11_5 ha0).1) rfl rfl dX11_load_5 rfl rfl (fun v1 => ?_)
  refine x_ifeq (pt := 22) F dX11_load_8 rfl rfl ?_ ?_
  · refine x_iconst F dX11_load_22 ⟨by decide, by decide⟩ rfl ?_
    exact x_iret F hnE hQ dX11_load_23
  · refine x_aload_n F dX11_load_11 rfl rfl rfl ?_
    refine x_getR F flX11_70 ha0 rfl dX11_load_12 rfl ?_
    refine x_iload_n F dX11_load_15 rfl rfl rfl ?_
    refine s_callVP F [vI a1] [] lkX11_283 mX2_ownedBy rfl (tf11_8 ha0).1 rfl hnE hn0 hd pX2_ownedBy (tX2_ownedBy cx.l x hi G ((rf a0 8)) a1 (tf11_8 ha0).1) rfl rfl dX11_load_16 rfl rfl (fun v2 => ?_)
    refine x_goto (pc' := 23) F dX11_load_19 rfl ?_
    exact x_iret F hnE hQ dX11_load_23
theorem dX11_reaches_0 : decode cX11_reaches 0 = .ok (.aload_n 0, 1) := by decide +kernel
theorem dX11_reaches_1 : decode cX11_reaches 1 = .ok (.getfield 45, 3) := by decide +kernel
theorem dX11_reaches_4 : decode cX11_reaches 4 = .ok (.iload_n 1, 1) := by decide +kernel
theorem dX11_reaches_5 : decode cX11_reaches 5 = .ok (.invokevirtual 140, 3) := by decide +kernel
theorem dX11_reaches_8 : decode cX11_reaches 8 = .ok (.ifCond .eq 14, 3) := by decide +kernel
theorem dX11_reaches_11 : decode cX11_reaches 11 = .ok (.aload_n 0, 1) := by decide +kernel
theorem dX11_reaches_12 : decode cX11_reaches 12 = .ok (.getfield 70, 3) := by decide +kernel
theorem dX11_reaches_15 : decode cX11_reaches 15 = .ok (.iload_n 1, 1) := by decide +kernel
theorem dX11_reaches_16 : decode cX11_reaches 16 = .ok (.invokevirtual 289, 3) := by decide +kernel
theorem dX11_reaches_19 : decode cX11_reaches 19 = .ok (.goto 4, 3) := by decide +kernel
theorem dX11_reaches_22 : decode cX11_reaches 22 = .ok (.iconst (-1), 1) := by decide +kernel
theorem dX11_reaches_23 : decode cX11_reaches 23 = .ok (.ireturn, 1) := by decide +kernel
def fX11_reaches (a0 : Nat) (a1 : Int) (G : Hp) : RT := bp (fX6_isIn ((rf a0 5)) a1 G) fun v1 => if v1 = 0 then (rt ((-1)) G) else (bp (fX2_reachedFrom ((rf a0 8)) a1 G) fun v2 => rt v2 G)
theorem pX11_reaches {G : Hp} {a0 : Nat} {a1 : Int} : PU G (fX11_reaches a0 a1 G) := by
  unfold fX11_reaches
  refine PU_bp (fun v1 => ?_)
  refine PU_ite ?_ ?_
  · exact PU_rt
  · refine PU_bp (fun v2 => ?_)
    exact PU_rt
set_option maxRecDepth 20000 in
set_option maxHeartbeats 4000000 in
theorem tX11_reaches (l : Launch) (x : WX) (hi : Inj x.2.2) (G : Hp) (a0 : Nat) (a1 : Int) (ha0 : kd a0 = 11) : Ct l x yX11_reaches cX11_reaches 2 (some .int) 3 129 129 [vR a0, vI a1] G (fX11_reaches a0 a1 G) := by
  refine ct_of (plainFor_of_name (by decide)) hi (Nat.le_refl _) (Nat.le_refl _) (Nat.le_of_ble_eq_true rfl) (fun cx F hd hn0 hnE hl hQ => ?_)
  subst hl
  have F : Fx cx x RX11 cX11_reaches 2 (some .int) := F
  show Y cx x 2 (some .int) 129 0 [(0, vR a0), (1, vI a1)] [] G _
  unfold fX11_reaches
  refine x_aload_n F dX11_reaches_0 rfl rfl rfl ?_
  refine x_getR F flX11_45 ha0 rfl dX11_reaches_1 rfl ?_
  refine x_iload_n F dX11_reaches_4 rfl rfl rfl ?_
  refine s_callVP F [vI a1] [] lkX11_140 mX6_isIn rfl (tf11_5 ha0).1 rfl hnE hn0 hd pX6_isIn (tX6_isIn cx.l x hi G ((rf a0 5)) a1 (tf11_5 ha0).1) rfl rfl dX11_reaches_5 rfl rfl (fun v1 => ?_)
  refine x_ifeq (pt := 22) F dX11_reaches_8 rfl rfl ?_ ?_
  · refine x_iconst F dX11_reaches_22 ⟨by decide, by decide⟩ rfl ?_
    exact x_iret F hnE hQ dX11_reaches_23
  · refine x_aload_n F dX11_reaches_11 rfl rfl rfl ?_
    refine x_getR F flX11_70 ha0 rfl dX11_reaches_12 rfl ?_
    refine x_iload_n F dX11_reaches_15 rfl rfl rfl ?_
    refine s_callVP F [vI a1] [] lkX11_289 mX2_reachedFrom rfl (tf11_8 ha0).1 rfl hnE hn0 hd pX2_reachedFrom (tX2_reachedFrom cx.l x hi G ((rf a0 8)) a1 (tf11_8 ha0).1) rfl rfl dX11_reaches_16 rfl rfl (fun v2 => ?_)
    refine x_goto (pc' := 23) F dX11_reaches_19 rfl ?_
    exact x_iret F hnE hQ dX11_reaches_23
theorem dX11_heirs_0 : decode cX11_heirs 0 = .ok (.aload_n 0, 1) := by decide +kernel
theorem dX11_heirs_1 : decode cX11_heirs 1 = .ok (.getfield 19, 3) := by decide +kernel
theorem dX11_heirs_4 : decode cX11_heirs 4 = .ok (.iload_n 1, 1) := by decide +kernel
theorem dX11_heirs_5 : decode cX11_heirs 5 = .ok (.invokevirtual 163, 3) := by decide +kernel
theorem dX11_heirs_8 : decode cX11_heirs 8 = .ok (.ifCond .eq 15, 3) := by decide +kernel
theorem dX11_heirs_11 : decode cX11_heirs 11 = .ok (.aload_n 0, 1) := by decide +kernel
theorem dX11_heirs_12 : decode cX11_heirs 12 = .ok (.getfield 70, 3) := by decide +kernel
theorem dX11_heirs_15 : decode cX11_heirs 15 = .ok (.iload_n 1, 1) := by decide +kernel
theorem dX11_heirs_16 : decode cX11_heirs 16 = .ok (.iload_n 2, 1) := by decide +kernel
theorem dX11_heirs_17 : decode cX11_heirs 17 = .ok (.invokevirtual 292, 3) := by decide +kernel
theorem dX11_heirs_20 : decode cX11_heirs 20 = .ok (.goto 4, 3) := by decide +kernel
theorem dX11_heirs_23 : decode cX11_heirs 23 = .ok (.iconst (-1), 1) := by decide +kernel
theorem dX11_heirs_24 : decode cX11_heirs 24 = .ok (.ireturn, 1) := by decide +kernel
def fX11_heirs (a0 : Nat) (a1 : Int) (a2 : Int) (G : Hp) : RT := bp (fX8_isKey ((rf a0 1)) a1 G) fun v1 => if v1 = 0 then (rt ((-1)) G) else (bp (fX2_heirOf ((rf a0 8)) a1 a2 G) fun v2 => rt v2 G)
theorem pX11_heirs {G : Hp} {a0 : Nat} {a1 : Int} {a2 : Int} : PU G (fX11_heirs a0 a1 a2 G) := by
  unfold fX11_heirs
  refine PU_bp (fun v1 => ?_)
  refine PU_ite ?_ ?_
  · exact PU_rt
  · refine PU_bp (fun v2 => ?_)
    exact PU_rt
set_option maxRecDepth 20000 in
set_option maxHeartbeats 4000000 in
theorem tX11_heirs (l : Launch) (x : WX) (hi : Inj x.2.2) (G : Hp) (a0 : Nat) (a1 : Int) (a2 : Int) (ha0 : kd a0 = 11) : Ct l x yX11_heirs cX11_heirs 3 (some .int) 3 129 129 [vR a0, vI a1, vI a2] G (fX11_heirs a0 a1 a2 G) := by
  refine ct_of (plainFor_of_name (by decide)) hi (Nat.le_refl _) (Nat.le_refl _) (Nat.le_of_ble_eq_true rfl) (fun cx F hd hn0 hnE hl hQ => ?_)
  subst hl
  have F : Fx cx x RX11 cX11_heirs 3 (some .int) := F
  show Y cx x 3 (some .int) 129 0 [(0, vR a0), (1, vI a1), (2, vI a2)] [] G _
  unfold fX11_heirs
  refine x_aload_n F dX11_heirs_0 rfl rfl rfl ?_
  refine x_getR F flX11_19 ha0 rfl dX11_heirs_1 rfl ?_
  refine x_iload_n F dX11_heirs_4 rfl rfl rfl ?_
  refine s_callVP F [vI a1] [] lkX11_163 mX8_isKey rfl (tf11_1 ha0).1 rfl hnE hn0 hd pX8_isKey (tX8_isKey cx.l x hi G ((rf a0 1)) a1 (tf11_1 ha0).1) rfl rfl dX11_heirs_5 rfl rfl (fun v1 => ?_)
  refine x_ifeq (pt := 23) F dX11_heirs_8 rfl rfl ?_ ?_
  · refine x_iconst F dX11_heirs_23 ⟨by decide, by decide⟩ rfl ?_
    exact x_iret F hnE hQ dX11_heirs_24
  · refine x_aload_n F dX11_heirs_11 rfl rfl rfl ?_
    refine x_getR F flX11_70 ha0 rfl dX11_heirs_12 rfl ?_
    refine x_iload_n F dX11_heirs_15 rfl rfl rfl ?_
    refine x_iload_n F dX11_heirs_16 rfl rfl rfl ?_
    refine s_callVP F [vI a1, vI a2] [] lkX11_292 mX2_heirOf rfl (tf11_8 ha0).1 rfl hnE hn0 hd pX2_heirOf (tX2_heirOf cx.l x hi G ((rf a0 8)) a1 a2 (tf11_8 ha0).1) rfl rfl dX11_heirs_17 rfl rfl (fun v2 => ?_)
    refine x_goto (pc' := 24) F dX11_heirs_20 rfl ?_
    exact x_iret F hnE hQ dX11_heirs_24
theorem dX11_moves_0 : decode cX11_moves 0 = .ok (.aload_n 0, 1) := by decide +kernel
theorem dX11_moves_1 : decode cX11_moves 1 = .ok (.getfield 19, 3) := by decide +kernel
theorem dX11_moves_4 : decode cX11_moves 4 = .ok (.iload_n 1, 1) := by decide +kernel
theorem dX11_moves_5 : decode cX11_moves 5 = .ok (.invokevirtual 129, 3) := by decide +kernel
theorem dX11_moves_8 : decode cX11_moves 8 = .ok (.ifCond .eq 14, 3) := by decide +kernel
theorem dX11_moves_11 : decode cX11_moves 11 = .ok (.aload_n 0, 1) := by decide +kernel
theorem dX11_moves_12 : decode cX11_moves 12 = .ok (.getfield 70, 3) := by decide +kernel
theorem dX11_moves_15 : decode cX11_moves 15 = .ok (.iload_n 1, 1) := by decide +kernel
theorem dX11_moves_16 : decode cX11_moves 16 = .ok (.invokevirtual 304, 3) := by decide +kernel
theorem dX11_moves_19 : decode cX11_moves 19 = .ok (.goto 4, 3) := by decide +kernel
theorem dX11_moves_22 : decode cX11_moves 22 = .ok (.iconst (-1), 1) := by decide +kernel
theorem dX11_moves_23 : decode cX11_moves 23 = .ok (.ireturn, 1) := by decide +kernel
def fX11_moves (a0 : Nat) (a1 : Int) (G : Hp) : RT := bp (fX8_isNode ((rf a0 1)) a1 G) fun v1 => if v1 = 0 then (rt ((-1)) G) else (bp (fX2_movedKeys ((rf a0 8)) a1 G) fun v2 => rt v2 G)
theorem pX11_moves {G : Hp} {a0 : Nat} {a1 : Int} : PU G (fX11_moves a0 a1 G) := by
  unfold fX11_moves
  refine PU_bp (fun v1 => ?_)
  refine PU_ite ?_ ?_
  · exact PU_rt
  · refine PU_bp (fun v2 => ?_)
    exact PU_rt
set_option maxRecDepth 20000 in
set_option maxHeartbeats 4000000 in
theorem tX11_moves (l : Launch) (x : WX) (hi : Inj x.2.2) (G : Hp) (a0 : Nat) (a1 : Int) (ha0 : kd a0 = 11) : Ct l x yX11_moves cX11_moves 2 (some .int) 3 129 129 [vR a0, vI a1] G (fX11_moves a0 a1 G) := by
  refine ct_of (plainFor_of_name (by decide)) hi (Nat.le_refl _) (Nat.le_refl _) (Nat.le_of_ble_eq_true rfl) (fun cx F hd hn0 hnE hl hQ => ?_)
  subst hl
  have F : Fx cx x RX11 cX11_moves 2 (some .int) := F
  show Y cx x 2 (some .int) 129 0 [(0, vR a0), (1, vI a1)] [] G _
  unfold fX11_moves
  refine x_aload_n F dX11_moves_0 rfl rfl rfl ?_
  refine x_getR F flX11_19 ha0 rfl dX11_moves_1 rfl ?_
  refine x_iload_n F dX11_moves_4 rfl rfl rfl ?_
  refine s_callVP F [vI a1] [] lkX11_129 mX8_isNode rfl (tf11_1 ha0).1 rfl hnE hn0 hd pX8_isNode (tX8_isNode cx.l x hi G ((rf a0 1)) a1 (tf11_1 ha0).1) rfl rfl dX11_moves_5 rfl rfl (fun v1 => ?_)
  refine x_ifeq (pt := 22) F dX11_moves_8 rfl rfl ?_ ?_
  · refine x_iconst F dX11_moves_22 ⟨by decide, by decide⟩ rfl ?_
    exact x_iret F hnE hQ dX11_moves_23
  · refine x_aload_n F dX11_moves_11 rfl rfl rfl ?_
    refine x_getR F flX11_70 ha0 rfl dX11_moves_12 rfl ?_
    refine x_iload_n F dX11_moves_15 rfl rfl rfl ?_
    refine s_callVP F [vI a1] [] lkX11_304 mX2_movedKeys rfl (tf11_8 ha0).1 rfl hnE hn0 hd pX2_movedKeys (tX2_movedKeys cx.l x hi G ((rf a0 8)) a1 (tf11_8 ha0).1) rfl rfl dX11_moves_16 rfl rfl (fun v2 => ?_)
    refine x_goto (pc' := 23) F dX11_moves_19 rfl ?_
    exact x_iret F hnE hQ dX11_moves_23
theorem dX11_mark_0 : decode cX11_mark 0 = .ok (.iload_n 1, 1) := by decide +kernel
theorem dX11_mark_1 : decode cX11_mark 1 = .ok (.ifCond .lt 8, 3) := by decide +kernel
theorem dX11_mark_4 : decode cX11_mark 4 = .ok (.iload_n 1, 1) := by decide +kernel
theorem dX11_mark_5 : decode cX11_mark 5 = .ok (.iconst 4, 1) := by decide +kernel
theorem dX11_mark_6 : decode cX11_mark 6 = .ok (.if_icmp .lt 5, 3) := by decide +kernel
theorem dX11_mark_9 : decode cX11_mark 9 = .ok (.iconst 0, 1) := by decide +kernel
theorem dX11_mark_10 : decode cX11_mark 10 = .ok (.ireturn, 1) := by decide +kernel
theorem dX11_mark_11 : decode cX11_mark 11 = .ok (.iload_n 2, 1) := by decide +kernel
theorem dX11_mark_12 : decode cX11_mark 12 = .ok (.ifCond .eq 20, 3) := by decide +kernel
theorem dX11_mark_15 : decode cX11_mark 15 = .ok (.aload_n 0, 1) := by decide +kernel
theorem dX11_mark_16 : decode cX11_mark 16 = .ok (.getfield 93, 3) := by decide +kernel
theorem dX11_mark_19 : decode cX11_mark 19 = .ok (.iload_n 1, 1) := by decide +kernel
theorem dX11_mark_20 : decode cX11_mark 20 = .ok (.aload_n 0, 1) := by decide +kernel
theorem dX11_mark_21 : decode cX11_mark 21 = .ok (.getfield 45, 3) := by decide +kernel
theorem dX11_mark_24 : decode cX11_mark 24 = .ok (.aload_n 0, 1) := by decide +kernel
theorem dX11_mark_25 : decode cX11_mark 25 = .ok (.getfield 86, 3) := by decide +kernel
theorem dX11_mark_28 : decode cX11_mark 28 = .ok (.invokevirtual 329, 3) := by decide +kernel
theorem dX11_mark_31 : decode cX11_mark 31 = .ok (.ireturn, 1) := by decide +kernel
theorem dX11_mark_32 : decode cX11_mark 32 = .ok (.aload_n 0, 1) := by decide +kernel
theorem dX11_mark_33 : decode cX11_mark 33 = .ok (.getfield 93, 3) := by decide +kernel
theorem dX11_mark_36 : decode cX11_mark 36 = .ok (.iload_n 1, 1) := by decide +kernel
theorem dX11_mark_37 : decode cX11_mark 37 = .ok (.aload_n 0, 1) := by decide +kernel
theorem dX11_mark_38 : decode cX11_mark 38 = .ok (.getfield 45, 3) := by decide +kernel
theorem dX11_mark_41 : decode cX11_mark 41 = .ok (.aload_n 0, 1) := by decide +kernel
theorem dX11_mark_42 : decode cX11_mark 42 = .ok (.getfield 86, 3) := by decide +kernel
theorem dX11_mark_45 : decode cX11_mark 45 = .ok (.invokevirtual 333, 3) := by decide +kernel
theorem dX11_mark_48 : decode cX11_mark 48 = .ok (.iconst 1, 1) := by decide +kernel
theorem dX11_mark_49 : decode cX11_mark 49 = .ok (.ireturn, 1) := by decide +kernel
def fX11_mark (a0 : Nat) (a1 : Int) (a2 : Int) (G : Hp) : RT := if a1 < 0 then rz 0 G else (if a1 < 4 then (if a2 = 0 then (bn (fX3_layMark ((rf a0 11)) a1 ((rf a0 5)) ((rf a0 10)) G) fun _ G1 => rz 1 G1) else (bn (fX3_goBack ((rf a0 11)) a1 ((rf a0 5)) ((rf a0 10)) G) fun v3 G4 => rz v3 G4)) else rz 0 G)
set_option maxRecDepth 20000 in
set_option maxHeartbeats 4000000 in
theorem tX11_mark (l : Launch) (x : WX) (hi : Inj x.2.2) (G : Hp) (a0 : Nat) (a1 : Int) (a2 : Int) (ha0 : kd a0 = 11) : Ct l x yX11_mark cX11_mark 3 (some .boolean) 3 129 129 [vR a0, vI a1, vI a2] G (fX11_mark a0 a1 a2 G) := by
  refine ct_of (plainFor_of_name (by decide)) hi (Nat.le_refl _) (Nat.le_refl _) (Nat.le_of_ble_eq_true rfl) (fun cx F hd hn0 hnE hl hQ => ?_)
  subst hl
  have F : Fx cx x RX11 cX11_mark 3 (some .boolean) := F
  show Y cx x 3 (some .boolean) 129 0 [(0, vR a0), (1, vI a1), (2, vI a2)] [] G _
  unfold fX11_mark
  refine x_iload_n F dX11_mark_0 rfl rfl rfl ?_
  refine x_iflt (pt := 9) F dX11_mark_1 rfl rfl ?_ ?_
  · refine x_iconst F dX11_mark_9 ⟨by decide, by decide⟩ rfl ?_
    exact x_zret F hnE hQ dX11_mark_10
  · refine x_iload_n F dX11_mark_4 rfl rfl rfl ?_
    refine x_iconst F dX11_mark_5 ⟨by decide, by decide⟩ rfl ?_
    refine x_icmplt (pt := 11) F dX11_mark_6 rfl rfl ?_ ?_
    · refine x_iload_n F dX11_mark_11 rfl rfl rfl ?_
      refine x_ifeq (pt := 32) F dX11_mark_12 rfl rfl ?_ ?_
      · refine x_aload_n F dX11_mark_32 rfl rfl rfl ?_
        refine x_getR F flX11_93 ha0 rfl dX11_mark_33 rfl ?_
        refine x_iload_n F dX11_mark_36 rfl rfl rfl ?_
        refine x_aload_n F dX11_mark_37 rfl rfl rfl ?_
        refine x_getR F flX11_45 ha0 rfl dX11_mark_38 rfl ?_
        refine x_aload_n F dX11_mark_41 rfl rfl rfl ?_
        refine x_getR F flX11_86 ha0 rfl dX11_mark_42 rfl ?_
        refine s_callVv F [vI a1, vR ((rf a0 5)), vR ((rf a0 10))] [] lkX11_333 mX3_layMark rfl (tf11_11 ha0).1 rfl hnE hn0 hd (tX3_layMark cx.l x hi G ((rf a0 11)) a1 ((rf a0 5)) ((rf a0 10)) (tf11_11 ha0).1 (tf11_5 ha0).1 (tf11_10 ha0).1) rfl rfl dX11_mark_45 rfl rfl (fun _ G1 => ?_)
        refine x_iconst F dX11_mark_48 ⟨by decide, by decide⟩ rfl ?_
        exact x_zret F hnE hQ dX11_mark_49
      · refine x_aload_n F dX11_mark_15 rfl rfl rfl ?_
        refine x_getR F flX11_93 ha0 rfl dX11_mark_16 rfl ?_
        refine x_iload_n F dX11_mark_19 rfl rfl rfl ?_
        refine x_aload_n F dX11_mark_20 rfl rfl rfl ?_
        refine x_getR F flX11_45 ha0 rfl dX11_mark_21 rfl ?_
        refine x_aload_n F dX11_mark_24 rfl rfl rfl ?_
        refine x_getR F flX11_86 ha0 rfl dX11_mark_25 rfl ?_
        refine s_callV F [vI a1, vR ((rf a0 5)), vR ((rf a0 10))] [] lkX11_329 mX3_goBack rfl (tf11_11 ha0).1 rfl hnE hn0 hd (tX3_goBack cx.l x hi G ((rf a0 11)) a1 ((rf a0 5)) ((rf a0 10)) (tf11_11 ha0).1 (tf11_5 ha0).1 (tf11_10 ha0).1) rfl rfl dX11_mark_28 rfl rfl (fun v3 G4 => ?_)
        exact x_zret F hnE hQ dX11_mark_31
    · refine x_iconst F dX11_mark_9 ⟨by decide, by decide⟩ rfl ?_
      exact x_zret F hnE hQ dX11_mark_10
theorem dX11_join_0 : decode cX11_join 0 = .ok (.aload_n 0, 1) := by decide +kernel
theorem dX11_join_1 : decode cX11_join 1 = .ok (.getfield 93, 3) := by decide +kernel
theorem dX11_join_4 : decode cX11_join 4 = .ok (.aload_n 0, 1) := by decide +kernel
theorem dX11_join_5 : decode cX11_join 5 = .ok (.getfield 45, 3) := by decide +kernel
theorem dX11_join_8 : decode cX11_join 8 = .ok (.invokevirtual 175, 3) := by decide +kernel
theorem dX11_join_11 : decode cX11_join 11 = .ok (.aload_n 0, 1) := by decide +kernel
theorem dX11_join_12 : decode cX11_join 12 = .ok (.getfield 93, 3) := by decide +kernel
theorem dX11_join_15 : decode cX11_join 15 = .ok (.aload_n 0, 1) := by decide +kernel
theorem dX11_join_16 : decode cX11_join 16 = .ok (.getfield 63, 3) := by decide +kernel
theorem dX11_join_19 : decode cX11_join 19 = .ok (.iload_n 1, 1) := by decide +kernel
theorem dX11_join_20 : decode cX11_join 20 = .ok (.iload_n 2, 1) := by decide +kernel
theorem dX11_join_21 : decode cX11_join 21 = .ok (.invokevirtual 186, 3) := by decide +kernel
theorem dX11_join_24 : decode cX11_join 24 = .ok (.invokevirtual 182, 3) := by decide +kernel
theorem dX11_join_27 : decode cX11_join 27 = .ok (.ifCond .eq 15, 3) := by decide +kernel
theorem dX11_join_30 : decode cX11_join 30 = .ok (.aload_n 0, 1) := by decide +kernel
theorem dX11_join_31 : decode cX11_join 31 = .ok (.getfield 45, 3) := by decide +kernel
theorem dX11_join_34 : decode cX11_join 34 = .ok (.iload_n 1, 1) := by decide +kernel
theorem dX11_join_35 : decode cX11_join 35 = .ok (.iconst 0, 1) := by decide +kernel
theorem dX11_join_36 : decode cX11_join 36 = .ok (.invokevirtual 157, 3) := by decide +kernel
theorem dX11_join_39 : decode cX11_join 39 = .ok (.goto 4, 3) := by decide +kernel
theorem dX11_join_42 : decode cX11_join 42 = .ok (.iconst (-1), 1) := by decide +kernel
theorem dX11_join_43 : decode cX11_join 43 = .ok (.ireturn, 1) := by decide +kernel
def fX11_join (a0 : Nat) (a1 : Int) (a2 : Int) (G : Hp) : RT := bn (fX3_lay ((rf a0 11)) ((rf a0 5)) G) fun _ G1 => bn (fX0_doJoin ((rf a0 7)) a1 a2 G1) fun v2 G3 => bn (fX3_keepIf ((rf a0 11)) v2 G3) fun v4 G5 => if v4 = 0 then (rt ((-1)) G5) else (bp (fX6_listAt ((rf a0 5)) a1 0 G5) fun v6 => rt v6 G5)
set_option maxRecDepth 20000 in
set_option maxHeartbeats 4000000 in
theorem tX11_join (l : Launch) (x : WX) (hi : Inj x.2.2) (G : Hp) (a0 : Nat) (a1 : Int) (a2 : Int) (ha0 : kd a0 = 11) : Ct l x yX11_join cX11_join 3 (some .int) 4 129 129 [vR a0, vI a1, vI a2] G (fX11_join a0 a1 a2 G) := by
  refine ct_of (plainFor_of_name (by decide)) hi (Nat.le_refl _) (Nat.le_refl _) (Nat.le_of_ble_eq_true rfl) (fun cx F hd hn0 hnE hl hQ => ?_)
  subst hl
  have F : Fx cx x RX11 cX11_join 3 (some .int) := F
  show Y cx x 3 (some .int) 129 0 [(0, vR a0), (1, vI a1), (2, vI a2)] [] G _
  unfold fX11_join
  refine x_aload_n F dX11_join_0 rfl rfl rfl ?_
  refine x_getR F flX11_93 ha0 rfl dX11_join_1 rfl ?_
  refine x_aload_n F dX11_join_4 rfl rfl rfl ?_
  refine x_getR F flX11_45 ha0 rfl dX11_join_5 rfl ?_
  refine s_callVv F [vR ((rf a0 5))] [] lkX11_175 mX3_lay rfl (tf11_11 ha0).1 rfl hnE hn0 hd (tX3_lay cx.l x hi G ((rf a0 11)) ((rf a0 5)) (tf11_11 ha0).1 (tf11_5 ha0).1) rfl rfl dX11_join_8 rfl rfl (fun _ G1 => ?_)
  refine x_aload_n F dX11_join_11 rfl rfl rfl ?_
  refine x_getR F flX11_93 ha0 rfl dX11_join_12 rfl ?_
  refine x_aload_n F dX11_join_15 rfl rfl rfl ?_
  refine x_getR F flX11_63 ha0 rfl dX11_join_16 rfl ?_
  refine x_iload_n F dX11_join_19 rfl rfl rfl ?_
  refine x_iload_n F dX11_join_20 rfl rfl rfl ?_
  refine s_callV F [vI a1, vI a2] [vR ((rf a0 11))] lkX11_186 mX0_doJoin rfl (tf11_7 ha0).1 rfl hnE hn0 hd (tX0_doJoin cx.l x hi G1 ((rf a0 7)) a1 a2 (tf11_7 ha0).1) rfl rfl dX11_join_21 rfl rfl (fun v2 G3 => ?_)
  refine s_callV F [vI v2] [] lkX11_182 mX3_keepIf rfl (tf11_11 ha0).1 rfl hnE hn0 hd (tX3_keepIf cx.l x hi G3 ((rf a0 11)) v2 (tf11_11 ha0).1) rfl rfl dX11_join_24 rfl rfl (fun v4 G5 => ?_)
  refine x_ifeq (pt := 42) F dX11_join_27 rfl rfl ?_ ?_
  · refine x_iconst F dX11_join_42 ⟨by decide, by decide⟩ rfl ?_
    exact x_iret F hnE hQ dX11_join_43
  · refine x_aload_n F dX11_join_30 rfl rfl rfl ?_
    refine x_getR F flX11_45 ha0 rfl dX11_join_31 rfl ?_
    refine x_iload_n F dX11_join_34 rfl rfl rfl ?_
    refine x_iconst F dX11_join_35 ⟨by decide, by decide⟩ rfl ?_
    refine s_callVP F [vI a1, vI 0] [] lkX11_157 mX6_listAt rfl (tf11_5 ha0).1 rfl hnE hn0 hd pX6_listAt (tX6_listAt cx.l x hi G5 ((rf a0 5)) a1 0 (tf11_5 ha0).1) rfl rfl dX11_join_36 rfl rfl (fun v6 => ?_)
    refine x_goto (pc' := 43) F dX11_join_39 rfl ?_
    exact x_iret F hnE hQ dX11_join_43
theorem dX11_tidy_0 : decode cX11_tidy 0 = .ok (.aload_n 0, 1) := by decide +kernel
theorem dX11_tidy_1 : decode cX11_tidy 1 = .ok (.getfield 93, 3) := by decide +kernel
theorem dX11_tidy_4 : decode cX11_tidy 4 = .ok (.aload_n 0, 1) := by decide +kernel
theorem dX11_tidy_5 : decode cX11_tidy 5 = .ok (.getfield 45, 3) := by decide +kernel
theorem dX11_tidy_8 : decode cX11_tidy 8 = .ok (.invokevirtual 175, 3) := by decide +kernel
theorem dX11_tidy_11 : decode cX11_tidy 11 = .ok (.aload_n 0, 1) := by decide +kernel
theorem dX11_tidy_12 : decode cX11_tidy 12 = .ok (.getfield 93, 3) := by decide +kernel
theorem dX11_tidy_15 : decode cX11_tidy 15 = .ok (.aload_n 0, 1) := by decide +kernel
theorem dX11_tidy_16 : decode cX11_tidy 16 = .ok (.getfield 63, 3) := by decide +kernel
theorem dX11_tidy_19 : decode cX11_tidy 19 = .ok (.iload_n 1, 1) := by decide +kernel
theorem dX11_tidy_20 : decode cX11_tidy 20 = .ok (.invokevirtual 199, 3) := by decide +kernel
theorem dX11_tidy_23 : decode cX11_tidy 23 = .ok (.invokevirtual 196, 3) := by decide +kernel
theorem dX11_tidy_26 : decode cX11_tidy 26 = .ok (.ireturn, 1) := by decide +kernel
def fX11_tidy (a0 : Nat) (a1 : Int) (G : Hp) : RT := bn (fX3_lay ((rf a0 11)) ((rf a0 5)) G) fun _ G1 => bn (fX0_doTidy ((rf a0 7)) a1 G1) fun v2 G3 => bn (fX3_keepUnlessNone ((rf a0 11)) v2 G3) fun v4 G5 => rt v4 G5
set_option maxRecDepth 20000 in
set_option maxHeartbeats 4000000 in
theorem tX11_tidy (l : Launch) (x : WX) (hi : Inj x.2.2) (G : Hp) (a0 : Nat) (a1 : Int) (ha0 : kd a0 = 11) : Ct l x yX11_tidy cX11_tidy 2 (some .int) 4 129 129 [vR a0, vI a1] G (fX11_tidy a0 a1 G) := by
  refine ct_of (plainFor_of_name (by decide)) hi (Nat.le_refl _) (Nat.le_refl _) (Nat.le_of_ble_eq_true rfl) (fun cx F hd hn0 hnE hl hQ => ?_)
  subst hl
  have F : Fx cx x RX11 cX11_tidy 2 (some .int) := F
  show Y cx x 2 (some .int) 129 0 [(0, vR a0), (1, vI a1)] [] G _
  unfold fX11_tidy
  refine x_aload_n F dX11_tidy_0 rfl rfl rfl ?_
  refine x_getR F flX11_93 ha0 rfl dX11_tidy_1 rfl ?_
  refine x_aload_n F dX11_tidy_4 rfl rfl rfl ?_
  refine x_getR F flX11_45 ha0 rfl dX11_tidy_5 rfl ?_
  refine s_callVv F [vR ((rf a0 5))] [] lkX11_175 mX3_lay rfl (tf11_11 ha0).1 rfl hnE hn0 hd (tX3_lay cx.l x hi G ((rf a0 11)) ((rf a0 5)) (tf11_11 ha0).1 (tf11_5 ha0).1) rfl rfl dX11_tidy_8 rfl rfl (fun _ G1 => ?_)
  refine x_aload_n F dX11_tidy_11 rfl rfl rfl ?_
  refine x_getR F flX11_93 ha0 rfl dX11_tidy_12 rfl ?_
  refine x_aload_n F dX11_tidy_15 rfl rfl rfl ?_
  refine x_getR F flX11_63 ha0 rfl dX11_tidy_16 rfl ?_
  refine x_iload_n F dX11_tidy_19 rfl rfl rfl ?_
  refine s_callV F [vI a1] [vR ((rf a0 11))] lkX11_199 mX0_doTidy rfl (tf11_7 ha0).1 rfl hnE hn0 hd (tX0_doTidy cx.l x hi G1 ((rf a0 7)) a1 (tf11_7 ha0).1) rfl rfl dX11_tidy_20 rfl rfl (fun v2 G3 => ?_)
  refine s_callV F [vI v2] [] lkX11_196 mX3_keepUnlessNone rfl (tf11_11 ha0).1 rfl hnE hn0 hd (tX3_keepUnlessNone cx.l x hi G3 ((rf a0 11)) v2 (tf11_11 ha0).1) rfl rfl dX11_tidy_23 rfl rfl (fun v4 G5 => ?_)
  exact x_iret F hnE hQ dX11_tidy_26
theorem dX11_fix_0 : decode cX11_fix 0 = .ok (.aload_n 0, 1) := by decide +kernel
theorem dX11_fix_1 : decode cX11_fix 1 = .ok (.getfield 93, 3) := by decide +kernel
theorem dX11_fix_4 : decode cX11_fix 4 = .ok (.aload_n 0, 1) := by decide +kernel
theorem dX11_fix_5 : decode cX11_fix 5 = .ok (.getfield 45, 3) := by decide +kernel
theorem dX11_fix_8 : decode cX11_fix 8 = .ok (.invokevirtual 175, 3) := by decide +kernel
theorem dX11_fix_11 : decode cX11_fix 11 = .ok (.aload_n 0, 1) := by decide +kernel
theorem dX11_fix_12 : decode cX11_fix 12 = .ok (.getfield 93, 3) := by decide +kernel
theorem dX11_fix_15 : decode cX11_fix 15 = .ok (.aload_n 0, 1) := by decide +kernel
theorem dX11_fix_16 : decode cX11_fix 16 = .ok (.getfield 63, 3) := by decide +kernel
theorem dX11_fix_19 : decode cX11_fix 19 = .ok (.iload_n 1, 1) := by decide +kernel
theorem dX11_fix_20 : decode cX11_fix 20 = .ok (.iload_n 2, 1) := by decide +kernel
theorem dX11_fix_21 : decode cX11_fix 21 = .ok (.invokevirtual 205, 3) := by decide +kernel
theorem dX11_fix_24 : decode cX11_fix 24 = .ok (.invokevirtual 182, 3) := by decide +kernel
theorem dX11_fix_27 : decode cX11_fix 27 = .ok (.ireturn, 1) := by decide +kernel
def fX11_fix (a0 : Nat) (a1 : Int) (a2 : Int) (G : Hp) : RT := bn (fX3_lay ((rf a0 11)) ((rf a0 5)) G) fun _ G1 => bn (fX0_doFix ((rf a0 7)) a1 a2 G1) fun v2 G3 => bn (fX3_keepIf ((rf a0 11)) v2 G3) fun v4 G5 => rz v4 G5
set_option maxRecDepth 20000 in
set_option maxHeartbeats 4000000 in
theorem tX11_fix (l : Launch) (x : WX) (hi : Inj x.2.2) (G : Hp) (a0 : Nat) (a1 : Int) (a2 : Int) (ha0 : kd a0 = 11) : Ct l x yX11_fix cX11_fix 3 (some .boolean) 4 129 129 [vR a0, vI a1, vI a2] G (fX11_fix a0 a1 a2 G) := by
  refine ct_of (plainFor_of_name (by decide)) hi (Nat.le_refl _) (Nat.le_refl _) (Nat.le_of_ble_eq_true rfl) (fun cx F hd hn0 hnE hl hQ => ?_)
  subst hl
  have F : Fx cx x RX11 cX11_fix 3 (some .boolean) := F
  show Y cx x 3 (some .boolean) 129 0 [(0, vR a0), (1, vI a1), (2, vI a2)] [] G _
  unfold fX11_fix
  refine x_aload_n F dX11_fix_0 rfl rfl rfl ?_
  refine x_getR F flX11_93 ha0 rfl dX11_fix_1 rfl ?_
  refine x_aload_n F dX11_fix_4 rfl rfl rfl ?_
  refine x_getR F flX11_45 ha0 rfl dX11_fix_5 rfl ?_
  refine s_callVv F [vR ((rf a0 5))] [] lkX11_175 mX3_lay rfl (tf11_11 ha0).1 rfl hnE hn0 hd (tX3_lay cx.l x hi G ((rf a0 11)) ((rf a0 5)) (tf11_11 ha0).1 (tf11_5 ha0).1) rfl rfl dX11_fix_8 rfl rfl (fun _ G1 => ?_)
  refine x_aload_n F dX11_fix_11 rfl rfl rfl ?_
  refine x_getR F flX11_93 ha0 rfl dX11_fix_12 rfl ?_
  refine x_aload_n F dX11_fix_15 rfl rfl rfl ?_
  refine x_getR F flX11_63 ha0 rfl dX11_fix_16 rfl ?_
  refine x_iload_n F dX11_fix_19 rfl rfl rfl ?_
  refine x_iload_n F dX11_fix_20 rfl rfl rfl ?_
  refine s_callV F [vI a1, vI a2] [vR ((rf a0 11))] lkX11_205 mX0_doFix rfl (tf11_7 ha0).1 rfl hnE hn0 hd (tX0_doFix cx.l x hi G1 ((rf a0 7)) a1 a2 (tf11_7 ha0).1) rfl rfl dX11_fix_21 rfl rfl (fun v2 G3 => ?_)
  refine s_callV F [vI v2] [] lkX11_182 mX3_keepIf rfl (tf11_11 ha0).1 rfl hnE hn0 hd (tX3_keepIf cx.l x hi G3 ((rf a0 11)) v2 (tf11_11 ha0).1) rfl rfl dX11_fix_24 rfl rfl (fun v4 G5 => ?_)
  exact x_zret F hnE hQ dX11_fix_27
theorem dX11_put_0 : decode cX11_put 0 = .ok (.aload_n 0, 1) := by decide +kernel
theorem dX11_put_1 : decode cX11_put 1 = .ok (.getfield 93, 3) := by decide +kernel
theorem dX11_put_4 : decode cX11_put 4 = .ok (.aload_n 0, 1) := by decide +kernel
theorem dX11_put_5 : decode cX11_put 5 = .ok (.getfield 45, 3) := by decide +kernel
theorem dX11_put_8 : decode cX11_put 8 = .ok (.invokevirtual 175, 3) := by decide +kernel
theorem dX11_put_11 : decode cX11_put 11 = .ok (.aload_n 0, 1) := by decide +kernel
theorem dX11_put_12 : decode cX11_put 12 = .ok (.getfield 93, 3) := by decide +kernel
theorem dX11_put_15 : decode cX11_put 15 = .ok (.aload_n 0, 1) := by decide +kernel
theorem dX11_put_16 : decode cX11_put 16 = .ok (.getfield 63, 3) := by decide +kernel
theorem dX11_put_19 : decode cX11_put 19 = .ok (.iload_n 1, 1) := by decide +kernel
theorem dX11_put_20 : decode cX11_put 20 = .ok (.iload_n 2, 1) := by decide +kernel
theorem dX11_put_21 : decode cX11_put 21 = .ok (.invokevirtual 211, 3) := by decide +kernel
theorem dX11_put_24 : decode cX11_put 24 = .ok (.invokevirtual 196, 3) := by decide +kernel
theorem dX11_put_27 : decode cX11_put 27 = .ok (.ireturn, 1) := by decide +kernel
def fX11_put (a0 : Nat) (a1 : Int) (a2 : Int) (G : Hp) : RT := bn (fX3_lay ((rf a0 11)) ((rf a0 5)) G) fun _ G1 => bn (fX0_doPut ((rf a0 7)) a1 a2 G1) fun v2 G3 => bn (fX3_keepUnlessNone ((rf a0 11)) v2 G3) fun v4 G5 => rt v4 G5
set_option maxRecDepth 20000 in
set_option maxHeartbeats 4000000 in
theorem tX11_put (l : Launch) (x : WX) (hi : Inj x.2.2) (G : Hp) (a0 : Nat) (a1 : Int) (a2 : Int) (ha0 : kd a0 = 11) : Ct l x yX11_put cX11_put 3 (some .int) 4 129 129 [vR a0, vI a1, vI a2] G (fX11_put a0 a1 a2 G) := by
  refine ct_of (plainFor_of_name (by decide)) hi (Nat.le_refl _) (Nat.le_refl _) (Nat.le_of_ble_eq_true rfl) (fun cx F hd hn0 hnE hl hQ => ?_)
  subst hl
  have F : Fx cx x RX11 cX11_put 3 (some .int) := F
  show Y cx x 3 (some .int) 129 0 [(0, vR a0), (1, vI a1), (2, vI a2)] [] G _
  unfold fX11_put
  refine x_aload_n F dX11_put_0 rfl rfl rfl ?_
  refine x_getR F flX11_93 ha0 rfl dX11_put_1 rfl ?_
  refine x_aload_n F dX11_put_4 rfl rfl rfl ?_
  refine x_getR F flX11_45 ha0 rfl dX11_put_5 rfl ?_
  refine s_callVv F [vR ((rf a0 5))] [] lkX11_175 mX3_lay rfl (tf11_11 ha0).1 rfl hnE hn0 hd (tX3_lay cx.l x hi G ((rf a0 11)) ((rf a0 5)) (tf11_11 ha0).1 (tf11_5 ha0).1) rfl rfl dX11_put_8 rfl rfl (fun _ G1 => ?_)
  refine x_aload_n F dX11_put_11 rfl rfl rfl ?_
  refine x_getR F flX11_93 ha0 rfl dX11_put_12 rfl ?_
  refine x_aload_n F dX11_put_15 rfl rfl rfl ?_
  refine x_getR F flX11_63 ha0 rfl dX11_put_16 rfl ?_
  refine x_iload_n F dX11_put_19 rfl rfl rfl ?_
  refine x_iload_n F dX11_put_20 rfl rfl rfl ?_
  refine s_callV F [vI a1, vI a2] [vR ((rf a0 11))] lkX11_211 mX0_doPut rfl (tf11_7 ha0).1 rfl hnE hn0 hd (tX0_doPut cx.l x hi G1 ((rf a0 7)) a1 a2 (tf11_7 ha0).1) rfl rfl dX11_put_21 rfl rfl (fun v2 G3 => ?_)
  refine s_callV F [vI v2] [] lkX11_196 mX3_keepUnlessNone rfl (tf11_11 ha0).1 rfl hnE hn0 hd (tX3_keepUnlessNone cx.l x hi G3 ((rf a0 11)) v2 (tf11_11 ha0).1) rfl rfl dX11_put_24 rfl rfl (fun v4 G5 => ?_)
  exact x_iret F hnE hQ dX11_put_27
theorem dX11_hand_0 : decode cX11_hand 0 = .ok (.aload_n 0, 1) := by decide +kernel
theorem dX11_hand_1 : decode cX11_hand 1 = .ok (.getfield 93, 3) := by decide +kernel
theorem dX11_hand_4 : decode cX11_hand 4 = .ok (.aload_n 0, 1) := by decide +kernel
theorem dX11_hand_5 : decode cX11_hand 5 = .ok (.getfield 45, 3) := by decide +kernel
theorem dX11_hand_8 : decode cX11_hand 8 = .ok (.invokevirtual 175, 3) := by decide +kernel
theorem dX11_hand_11 : decode cX11_hand 11 = .ok (.aload_n 0, 1) := by decide +kernel
theorem dX11_hand_12 : decode cX11_hand 12 = .ok (.getfield 93, 3) := by decide +kernel
theorem dX11_hand_15 : decode cX11_hand 15 = .ok (.aload_n 0, 1) := by decide +kernel
theorem dX11_hand_16 : decode cX11_hand 16 = .ok (.getfield 63, 3) := by decide +kernel
theorem dX11_hand_19 : decode cX11_hand 19 = .ok (.iload_n 1, 1) := by decide +kernel
theorem dX11_hand_20 : decode cX11_hand 20 = .ok (.invokevirtual 214, 3) := by decide +kernel
theorem dX11_hand_23 : decode cX11_hand 23 = .ok (.invokevirtual 196, 3) := by decide +kernel
theorem dX11_hand_26 : decode cX11_hand 26 = .ok (.ireturn, 1) := by decide +kernel
def fX11_hand (a0 : Nat) (a1 : Int) (G : Hp) : RT := bn (fX3_lay ((rf a0 11)) ((rf a0 5)) G) fun _ G1 => bn (fX0_doHand ((rf a0 7)) a1 G1) fun v2 G3 => bn (fX3_keepUnlessNone ((rf a0 11)) v2 G3) fun v4 G5 => rt v4 G5
set_option maxRecDepth 20000 in
set_option maxHeartbeats 4000000 in
theorem tX11_hand (l : Launch) (x : WX) (hi : Inj x.2.2) (G : Hp) (a0 : Nat) (a1 : Int) (ha0 : kd a0 = 11) : Ct l x yX11_hand cX11_hand 2 (some .int) 4 129 129 [vR a0, vI a1] G (fX11_hand a0 a1 G) := by
  refine ct_of (plainFor_of_name (by decide)) hi (Nat.le_refl _) (Nat.le_refl _) (Nat.le_of_ble_eq_true rfl) (fun cx F hd hn0 hnE hl hQ => ?_)
  subst hl
  have F : Fx cx x RX11 cX11_hand 2 (some .int) := F
  show Y cx x 2 (some .int) 129 0 [(0, vR a0), (1, vI a1)] [] G _
  unfold fX11_hand
  refine x_aload_n F dX11_hand_0 rfl rfl rfl ?_
  refine x_getR F flX11_93 ha0 rfl dX11_hand_1 rfl ?_
  refine x_aload_n F dX11_hand_4 rfl rfl rfl ?_
  refine x_getR F flX11_45 ha0 rfl dX11_hand_5 rfl ?_
  refine s_callVv F [vR ((rf a0 5))] [] lkX11_175 mX3_lay rfl (tf11_11 ha0).1 rfl hnE hn0 hd (tX3_lay cx.l x hi G ((rf a0 11)) ((rf a0 5)) (tf11_11 ha0).1 (tf11_5 ha0).1) rfl rfl dX11_hand_8 rfl rfl (fun _ G1 => ?_)
  refine x_aload_n F dX11_hand_11 rfl rfl rfl ?_
  refine x_getR F flX11_93 ha0 rfl dX11_hand_12 rfl ?_
  refine x_aload_n F dX11_hand_15 rfl rfl rfl ?_
  refine x_getR F flX11_63 ha0 rfl dX11_hand_16 rfl ?_
  refine x_iload_n F dX11_hand_19 rfl rfl rfl ?_
  refine s_callV F [vI a1] [vR ((rf a0 11))] lkX11_214 mX0_doHand rfl (tf11_7 ha0).1 rfl hnE hn0 hd (tX0_doHand cx.l x hi G1 ((rf a0 7)) a1 (tf11_7 ha0).1) rfl rfl dX11_hand_20 rfl rfl (fun v2 G3 => ?_)
  refine s_callV F [vI v2] [] lkX11_196 mX3_keepUnlessNone rfl (tf11_11 ha0).1 rfl hnE hn0 hd (tX3_keepUnlessNone cx.l x hi G3 ((rf a0 11)) v2 (tf11_11 ha0).1) rfl rfl dX11_hand_23 rfl rfl (fun v4 G5 => ?_)
  exact x_iret F hnE hQ dX11_hand_26
theorem dX11_cycles_0 : decode cX11_cycles 0 = .ok (.iload_n 1, 1) := by decide +kernel
theorem dX11_cycles_1 : decode cX11_cycles 1 = .ok (.tableswitch 63 0 3 #[31, 39, 47, 55], 31) := by decide +kernel
theorem dX11_cycles_32 : decode cX11_cycles 32 = .ok (.aload_n 0, 1) := by decide +kernel
theorem dX11_cycles_33 : decode cX11_cycles 33 = .ok (.getfield 70, 3) := by decide +kernel
theorem dX11_cycles_36 : decode cX11_cycles 36 = .ok (.invokevirtual 246, 3) := by decide +kernel
theorem dX11_cycles_39 : decode cX11_cycles 39 = .ok (.ireturn, 1) := by decide +kernel
theorem dX11_cycles_40 : decode cX11_cycles 40 = .ok (.aload_n 0, 1) := by decide +kernel
theorem dX11_cycles_41 : decode cX11_cycles 41 = .ok (.getfield 70, 3) := by decide +kernel
theorem dX11_cycles_44 : decode cX11_cycles 44 = .ok (.invokevirtual 249, 3) := by decide +kernel
theorem dX11_cycles_47 : decode cX11_cycles 47 = .ok (.ireturn, 1) := by decide +kernel
theorem dX11_cycles_48 : decode cX11_cycles 48 = .ok (.aload_n 0, 1) := by decide +kernel
theorem dX11_cycles_49 : decode cX11_cycles 49 = .ok (.getfield 70, 3) := by decide +kernel
theorem dX11_cycles_52 : decode cX11_cycles 52 = .ok (.invokevirtual 252, 3) := by decide +kernel
theorem dX11_cycles_55 : decode cX11_cycles 55 = .ok (.ireturn, 1) := by decide +kernel
theorem dX11_cycles_56 : decode cX11_cycles 56 = .ok (.aload_n 0, 1) := by decide +kernel
theorem dX11_cycles_57 : decode cX11_cycles 57 = .ok (.getfield 70, 3) := by decide +kernel
theorem dX11_cycles_60 : decode cX11_cycles 60 = .ok (.invokevirtual 255, 3) := by decide +kernel
theorem dX11_cycles_63 : decode cX11_cycles 63 = .ok (.ireturn, 1) := by decide +kernel
theorem dX11_cycles_64 : decode cX11_cycles 64 = .ok (.iconst (-1), 1) := by decide +kernel
theorem dX11_cycles_65 : decode cX11_cycles 65 = .ok (.ireturn, 1) := by decide +kernel
def fX11_cycles (a0 : Nat) (a1 : Int) (G : Hp) : RT := if a1 = 0 then (bp (fX2_cycleCount ((rf a0 8)) G) fun v2 => rt v2 G) else (if a1 = 1 then (bp (fX2_onCycles ((rf a0 8)) G) fun v4 => rt v4 G) else (if a1 = 2 then (bp (fX2_hangers ((rf a0 8)) G) fun v6 => rt v6 G) else (if a1 = 3 then (bp (fX2_broken ((rf a0 8)) G) fun v8 => rt v8 G) else (rt ((-1)) G))))
theorem pX11_cycles {G : Hp} {a0 : Nat} {a1 : Int} : PU G (fX11_cycles a0 a1 G) := by
  unfold fX11_cycles
  refine PU_ite ?_ ?_
  · refine PU_bp (fun v2 => ?_)
    exact PU_rt
  · refine PU_ite ?_ ?_
    · refine PU_bp (fun v4 => ?_)
      exact PU_rt
    · refine PU_ite ?_ ?_
      · refine PU_bp (fun v6 => ?_)
        exact PU_rt
      · refine PU_ite ?_ ?_
        · refine PU_bp (fun v8 => ?_)
          exact PU_rt
        · exact PU_rt
set_option maxRecDepth 20000 in
set_option maxHeartbeats 4000000 in
theorem tX11_cycles (l : Launch) (x : WX) (hi : Inj x.2.2) (G : Hp) (a0 : Nat) (a1 : Int) (ha0 : kd a0 = 11) : Ct l x yX11_cycles cX11_cycles 2 (some .int) 4 129 129 [vR a0, vI a1] G (fX11_cycles a0 a1 G) := by
  refine ct_of (plainFor_of_name (by decide)) hi (Nat.le_refl _) (Nat.le_refl _) (Nat.le_of_ble_eq_true rfl) (fun cx F hd hn0 hnE hl hQ => ?_)
  subst hl
  have F : Fx cx x RX11 cX11_cycles 2 (some .int) := F
  show Y cx x 2 (some .int) 129 0 [(0, vR a0), (1, vI a1)] [] G _
  unfold fX11_cycles
  refine x_iload_n F dX11_cycles_0 rfl rfl rfl ?_
  refine x_ite (fun h1 => ?_) (fun h1 => ?_)
  · refine x_tabIn (off := 31) (pc' := 32) F dX11_cycles_1 (by omega) (by omega) (by rw [h1]; rfl) rfl ?_
    refine x_aload_n F dX11_cycles_32 rfl rfl rfl ?_
    refine x_getR F flX11_70 ha0 rfl dX11_cycles_33 rfl ?_
    refine s_callVP F [] [] lkX11_246 mX2_cycleCount rfl (tf11_8 ha0).1 rfl hnE hn0 hd pX2_cycleCount (tX2_cycleCount cx.l x hi G ((rf a0 8)) (tf11_8 ha0).1) rfl rfl dX11_cycles_36 rfl rfl (fun v2 => ?_)
    exact x_iret F hnE hQ dX11_cycles_39
  · refine x_ite (fun h3 => ?_) (fun h3 => ?_)
    · refine x_tabIn (off := 39) (pc' := 40) F dX11_cycles_1 (by omega) (by omega) (by rw [h3]; rfl) rfl ?_
      refine x_aload_n F dX11_cycles_40 rfl rfl rfl ?_
      refine x_getR F flX11_70 ha0 rfl dX11_cycles_41 rfl ?_
      refine s_callVP F [] [] lkX11_249 mX2_onCycles rfl (tf11_8 ha0).1 rfl hnE hn0 hd pX2_onCycles (tX2_onCycles cx.l x hi G ((rf a0 8)) (tf11_8 ha0).1) rfl rfl dX11_cycles_44 rfl rfl (fun v4 => ?_)
      exact x_iret F hnE hQ dX11_cycles_47
    · refine x_ite (fun h5 => ?_) (fun h5 => ?_)
      · refine x_tabIn (off := 47) (pc' := 48) F dX11_cycles_1 (by omega) (by omega) (by rw [h5]; rfl) rfl ?_
        refine x_aload_n F dX11_cycles_48 rfl rfl rfl ?_
        refine x_getR F flX11_70 ha0 rfl dX11_cycles_49 rfl ?_
        refine s_callVP F [] [] lkX11_252 mX2_hangers rfl (tf11_8 ha0).1 rfl hnE hn0 hd pX2_hangers (tX2_hangers cx.l x hi G ((rf a0 8)) (tf11_8 ha0).1) rfl rfl dX11_cycles_52 rfl rfl (fun v6 => ?_)
        exact x_iret F hnE hQ dX11_cycles_55
      · refine x_ite (fun h7 => ?_) (fun h7 => ?_)
        · refine x_tabIn (off := 55) (pc' := 56) F dX11_cycles_1 (by omega) (by omega) (by rw [h7]; rfl) rfl ?_
          refine x_aload_n F dX11_cycles_56 rfl rfl rfl ?_
          refine x_getR F flX11_70 ha0 rfl dX11_cycles_57 rfl ?_
          refine s_callVP F [] [] lkX11_255 mX2_broken rfl (tf11_8 ha0).1 rfl hnE hn0 hd pX2_broken (tX2_broken cx.l x hi G ((rf a0 8)) (tf11_8 ha0).1) rfl rfl dX11_cycles_60 rfl rfl (fun v8 => ?_)
          exact x_iret F hnE hQ dX11_cycles_63
        · refine x_tabOut (pc' := 64) F dX11_cycles_1 (by omega) rfl ?_
          refine x_iconst F dX11_cycles_64 ⟨by decide, by decide⟩ rfl ?_
          exact x_iret F hnE hQ dX11_cycles_65
theorem dX11_amiss_0 : decode cX11_amiss 0 = .ok (.aload_n 0, 1) := by decide +kernel
theorem dX11_amiss_1 : decode cX11_amiss 1 = .ok (.getfield 70, 3) := by decide +kernel
theorem dX11_amiss_4 : decode cX11_amiss 4 = .ok (.invokevirtual 262, 3) := by decide +kernel
theorem dX11_amiss_7 : decode cX11_amiss 7 = .ok (.ireturn, 1) := by decide +kernel
def fX11_amiss (a0 : Nat) (G : Hp) : RT := bp (fX2_amissNodes ((rf a0 8)) G) fun v1 => rt v1 G
theorem pX11_amiss {G : Hp} {a0 : Nat} : PU G (fX11_amiss a0 G) := by
  unfold fX11_amiss
  refine PU_bp (fun v1 => ?_)
  exact PU_rt
set_option maxRecDepth 20000 in
set_option maxHeartbeats 4000000 in
theorem tX11_amiss (l : Launch) (x : WX) (hi : Inj x.2.2) (G : Hp) (a0 : Nat) (ha0 : kd a0 = 11) : Ct l x yX11_amiss cX11_amiss 1 (some .int) 4 129 129 [vR a0] G (fX11_amiss a0 G) := by
  refine ct_of (plainFor_of_name (by decide)) hi (Nat.le_refl _) (Nat.le_refl _) (Nat.le_of_ble_eq_true rfl) (fun cx F hd hn0 hnE hl hQ => ?_)
  subst hl
  have F : Fx cx x RX11 cX11_amiss 1 (some .int) := F
  show Y cx x 1 (some .int) 129 0 [(0, vR a0)] [] G _
  unfold fX11_amiss
  refine x_aload_n F dX11_amiss_0 rfl rfl rfl ?_
  refine x_getR F flX11_70 ha0 rfl dX11_amiss_1 rfl ?_
  refine s_callVP F [] [] lkX11_262 mX2_amissNodes rfl (tf11_8 ha0).1 rfl hnE hn0 hd pX2_amissNodes (tX2_amissNodes cx.l x hi G ((rf a0 8)) (tf11_8 ha0).1) rfl rfl dX11_amiss_4 rfl rfl (fun v1 => ?_)
  exact x_iret F hnE hQ dX11_amiss_7
theorem dX11_behind_0 : decode cX11_behind 0 = .ok (.aload_n 0, 1) := by decide +kernel
theorem dX11_behind_1 : decode cX11_behind 1 = .ok (.getfield 70, 3) := by decide +kernel
theorem dX11_behind_4 : decode cX11_behind 4 = .ok (.invokevirtual 265, 3) := by decide +kernel
theorem dX11_behind_7 : decode cX11_behind 7 = .ok (.ireturn, 1) := by decide +kernel
def fX11_behind (a0 : Nat) (G : Hp) : RT := bp (fX2_behindNodes ((rf a0 8)) G) fun v1 => rt v1 G
theorem pX11_behind {G : Hp} {a0 : Nat} : PU G (fX11_behind a0 G) := by
  unfold fX11_behind
  refine PU_bp (fun v1 => ?_)
  exact PU_rt
set_option maxRecDepth 20000 in
set_option maxHeartbeats 4000000 in
theorem tX11_behind (l : Launch) (x : WX) (hi : Inj x.2.2) (G : Hp) (a0 : Nat) (ha0 : kd a0 = 11) : Ct l x yX11_behind cX11_behind 1 (some .int) 4 129 129 [vR a0] G (fX11_behind a0 G) := by
  refine ct_of (plainFor_of_name (by decide)) hi (Nat.le_refl _) (Nat.le_refl _) (Nat.le_of_ble_eq_true rfl) (fun cx F hd hn0 hnE hl hQ => ?_)
  subst hl
  have F : Fx cx x RX11 cX11_behind 1 (some .int) := F
  show Y cx x 1 (some .int) 129 0 [(0, vR a0)] [] G _
  unfold fX11_behind
  refine x_aload_n F dX11_behind_0 rfl rfl rfl ?_
  refine x_getR F flX11_70 ha0 rfl dX11_behind_1 rfl ?_
  refine s_callVP F [] [] lkX11_265 mX2_behindNodes rfl (tf11_8 ha0).1 rfl hnE hn0 hd pX2_behindNodes (tX2_behindNodes cx.l x hi G ((rf a0 8)) (tf11_8 ha0).1) rfl rfl dX11_behind_4 rfl rfl (fun v1 => ?_)
  exact x_iret F hnE hQ dX11_behind_7
theorem dX11_far_0 : decode cX11_far 0 = .ok (.aload_n 0, 1) := by decide +kernel
theorem dX11_far_1 : decode cX11_far 1 = .ok (.getfield 45, 3) := by decide +kernel
theorem dX11_far_4 : decode cX11_far 4 = .ok (.iload_n 1, 1) := by decide +kernel
theorem dX11_far_5 : decode cX11_far 5 = .ok (.invokevirtual 140, 3) := by decide +kernel
theorem dX11_far_8 : decode cX11_far 8 = .ok (.ifCond .eq 14, 3) := by decide +kernel
theorem dX11_far_11 : decode cX11_far 11 = .ok (.aload_n 0, 1) := by decide +kernel
theorem dX11_far_12 : decode cX11_far 12 = .ok (.getfield 70, 3) := by decide +kernel
theorem dX11_far_15 : decode cX11_far 15 = .ok (.iload_n 1, 1) := by decide +kernel
theorem dX11_far_16 : decode cX11_far 16 = .ok (.invokevirtual 277, 3) := by decide +kernel
theorem dX11_far_19 : decode cX11_far 19 = .ok (.goto 4, 3) := by decide +kernel
theorem dX11_far_22 : decode cX11_far 22 = .ok (.iconst (-1), 1) := by decide +kernel
theorem dX11_far_23 : decode cX11_far 23 = .ok (.ireturn, 1) := by decide +kernel
def fX11_far (a0 : Nat) (a1 : Int) (G : Hp) : RT := bp (fX6_isIn ((rf a0 5)) a1 G) fun v1 => if v1 = 0 then (rt ((-1)) G) else (bn (fX2_mostSteps ((rf a0 8)) a1 G) fun v2 G3 => rt v2 G3)
set_option maxRecDepth 20000 in
set_option maxHeartbeats 4000000 in
theorem tX11_far (l : Launch) (x : WX) (hi : Inj x.2.2) (G : Hp) (a0 : Nat) (a1 : Int) (ha0 : kd a0 = 11) : Ct l x yX11_far cX11_far 2 (some .int) 4 129 129 [vR a0, vI a1] G (fX11_far a0 a1 G) := by
  refine ct_of (plainFor_of_name (by decide)) hi (Nat.le_refl _) (Nat.le_refl _) (Nat.le_of_ble_eq_true rfl) (fun cx F hd hn0 hnE hl hQ => ?_)
  subst hl
  have F : Fx cx x RX11 cX11_far 2 (some .int) := F
  show Y cx x 2 (some .int) 129 0 [(0, vR a0), (1, vI a1)] [] G _
  unfold fX11_far
  refine x_aload_n F dX11_far_0 rfl rfl rfl ?_
  refine x_getR F flX11_45 ha0 rfl dX11_far_1 rfl ?_
  refine x_iload_n F dX11_far_4 rfl rfl rfl ?_
  refine s_callVP F [vI a1] [] lkX11_140 mX6_isIn rfl (tf11_5 ha0).1 rfl hnE hn0 hd pX6_isIn (tX6_isIn cx.l x hi G ((rf a0 5)) a1 (tf11_5 ha0).1) rfl rfl dX11_far_5 rfl rfl (fun v1 => ?_)
  refine x_ifeq (pt := 22) F dX11_far_8 rfl rfl ?_ ?_
  · refine x_iconst F dX11_far_22 ⟨by decide, by decide⟩ rfl ?_
    exact x_iret F hnE hQ dX11_far_23
  · refine x_aload_n F dX11_far_11 rfl rfl rfl ?_
    refine x_getR F flX11_70 ha0 rfl dX11_far_12 rfl ?_
    refine x_iload_n F dX11_far_15 rfl rfl rfl ?_
    refine s_callV F [vI a1] [] lkX11_277 mX2_mostSteps rfl (tf11_8 ha0).1 rfl hnE hn0 hd (tX2_mostSteps cx.l x hi G ((rf a0 8)) a1 (tf11_8 ha0).1) rfl rfl dX11_far_16 rfl rfl (fun v2 G3 => ?_)
    refine x_goto (pc' := 23) F dX11_far_19 rfl ?_
    exact x_iret F hnE hQ dX11_far_23
theorem dX11_arc_0 : decode cX11_arc 0 = .ok (.aload_n 0, 1) := by decide +kernel
theorem dX11_arc_1 : decode cX11_arc 1 = .ok (.getfield 45, 3) := by decide +kernel
theorem dX11_arc_4 : decode cX11_arc 4 = .ok (.iload_n 1, 1) := by decide +kernel
theorem dX11_arc_5 : decode cX11_arc 5 = .ok (.invokevirtual 140, 3) := by decide +kernel
theorem dX11_arc_8 : decode cX11_arc 8 = .ok (.ifCond .eq 14, 3) := by decide +kernel
theorem dX11_arc_11 : decode cX11_arc 11 = .ok (.aload_n 0, 1) := by decide +kernel
theorem dX11_arc_12 : decode cX11_arc 12 = .ok (.getfield 70, 3) := by decide +kernel
theorem dX11_arc_15 : decode cX11_arc 15 = .ok (.iload_n 1, 1) := by decide +kernel
theorem dX11_arc_16 : decode cX11_arc 16 = .ok (.invokevirtual 280, 3) := by decide +kernel
theorem dX11_arc_19 : decode cX11_arc 19 = .ok (.goto 4, 3) := by decide +kernel
theorem dX11_arc_22 : decode cX11_arc 22 = .ok (.iconst (-1), 1) := by decide +kernel
theorem dX11_arc_23 : decode cX11_arc 23 = .ok (.ireturn, 1) := by decide +kernel
def fX11_arc (a0 : Nat) (a1 : Int) (G : Hp) : RT := bp (fX6_isIn ((rf a0 5)) a1 G) fun v1 => if v1 = 0 then (rt ((-1)) G) else (bp (fX2_arcOf ((rf a0 8)) a1 G) fun v2 => rt v2 G)
theorem pX11_arc {G : Hp} {a0 : Nat} {a1 : Int} : PU G (fX11_arc a0 a1 G) := by
  unfold fX11_arc
  refine PU_bp (fun v1 => ?_)
  refine PU_ite ?_ ?_
  · exact PU_rt
  · refine PU_bp (fun v2 => ?_)
    exact PU_rt
set_option maxRecDepth 20000 in
set_option maxHeartbeats 4000000 in
theorem tX11_arc (l : Launch) (x : WX) (hi : Inj x.2.2) (G : Hp) (a0 : Nat) (a1 : Int) (ha0 : kd a0 = 11) : Ct l x yX11_arc cX11_arc 2 (some .int) 4 129 129 [vR a0, vI a1] G (fX11_arc a0 a1 G) := by
  refine ct_of (plainFor_of_name (by decide)) hi (Nat.le_refl _) (Nat.le_refl _) (Nat.le_of_ble_eq_true rfl) (fun cx F hd hn0 hnE hl hQ => ?_)
  subst hl
  have F : Fx cx x RX11 cX11_arc 2 (some .int) := F
  show Y cx x 2 (some .int) 129 0 [(0, vR a0), (1, vI a1)] [] G _
  unfold fX11_arc
  refine x_aload_n F dX11_arc_0 rfl rfl rfl ?_
  refine x_getR F flX11_45 ha0 rfl dX11_arc_1 rfl ?_
  refine x_iload_n F dX11_arc_4 rfl rfl rfl ?_
  refine s_callVP F [vI a1] [] lkX11_140 mX6_isIn rfl (tf11_5 ha0).1 rfl hnE hn0 hd pX6_isIn (tX6_isIn cx.l x hi G ((rf a0 5)) a1 (tf11_5 ha0).1) rfl rfl dX11_arc_5 rfl rfl (fun v1 => ?_)
  refine x_ifeq (pt := 22) F dX11_arc_8 rfl rfl ?_ ?_
  · refine x_iconst F dX11_arc_22 ⟨by decide, by decide⟩ rfl ?_
    exact x_iret F hnE hQ dX11_arc_23
  · refine x_aload_n F dX11_arc_11 rfl rfl rfl ?_
    refine x_getR F flX11_70 ha0 rfl dX11_arc_12 rfl ?_
    refine x_iload_n F dX11_arc_15 rfl rfl rfl ?_
    refine s_callVP F [vI a1] [] lkX11_280 mX2_arcOf rfl (tf11_8 ha0).1 rfl hnE hn0 hd pX2_arcOf (tX2_arcOf cx.l x hi G ((rf a0 8)) a1 (tf11_8 ha0).1) rfl rfl dX11_arc_16 rfl rfl (fun v2 => ?_)
    refine x_goto (pc' := 23) F dX11_arc_19 rfl ?_
    exact x_iret F hnE hQ dX11_arc_23
theorem dX11_toil_0 : decode cX11_toil 0 = .ok (.aload_n 0, 1) := by decide +kernel
theorem dX11_toil_1 : decode cX11_toil 1 = .ok (.getfield 45, 3) := by decide +kernel
theorem dX11_toil_4 : decode cX11_toil 4 = .ok (.iload_n 1, 1) := by decide +kernel
theorem dX11_toil_5 : decode cX11_toil 5 = .ok (.invokevirtual 140, 3) := by decide +kernel
theorem dX11_toil_8 : decode cX11_toil 8 = .ok (.ifCond .eq 14, 3) := by decide +kernel
theorem dX11_toil_11 : decode cX11_toil 11 = .ok (.aload_n 0, 1) := by decide +kernel
theorem dX11_toil_12 : decode cX11_toil 12 = .ok (.getfield 70, 3) := by decide +kernel
theorem dX11_toil_15 : decode cX11_toil 15 = .ok (.iload_n 1, 1) := by decide +kernel
theorem dX11_toil_16 : decode cX11_toil 16 = .ok (.invokevirtual 298, 3) := by decide +kernel
theorem dX11_toil_19 : decode cX11_toil 19 = .ok (.goto 4, 3) := by decide +kernel
theorem dX11_toil_22 : decode cX11_toil 22 = .ok (.iconst (-1), 1) := by decide +kernel
theorem dX11_toil_23 : decode cX11_toil 23 = .ok (.ireturn, 1) := by decide +kernel
def fX11_toil (a0 : Nat) (a1 : Int) (G : Hp) : RT := bp (fX6_isIn ((rf a0 5)) a1 G) fun v1 => if v1 = 0 then (rt ((-1)) G) else (bn (fX2_allSteps ((rf a0 8)) a1 G) fun v2 G3 => rt v2 G3)
set_option maxRecDepth 20000 in
set_option maxHeartbeats 4000000 in
theorem tX11_toil (l : Launch) (x : WX) (hi : Inj x.2.2) (G : Hp) (a0 : Nat) (a1 : Int) (ha0 : kd a0 = 11) : Ct l x yX11_toil cX11_toil 2 (some .int) 4 129 129 [vR a0, vI a1] G (fX11_toil a0 a1 G) := by
  refine ct_of (plainFor_of_name (by decide)) hi (Nat.le_refl _) (Nat.le_refl _) (Nat.le_of_ble_eq_true rfl) (fun cx F hd hn0 hnE hl hQ => ?_)
  subst hl
  have F : Fx cx x RX11 cX11_toil 2 (some .int) := F
  show Y cx x 2 (some .int) 129 0 [(0, vR a0), (1, vI a1)] [] G _
  unfold fX11_toil
  refine x_aload_n F dX11_toil_0 rfl rfl rfl ?_
  refine x_getR F flX11_45 ha0 rfl dX11_toil_1 rfl ?_
  refine x_iload_n F dX11_toil_4 rfl rfl rfl ?_
  refine s_callVP F [vI a1] [] lkX11_140 mX6_isIn rfl (tf11_5 ha0).1 rfl hnE hn0 hd pX6_isIn (tX6_isIn cx.l x hi G ((rf a0 5)) a1 (tf11_5 ha0).1) rfl rfl dX11_toil_5 rfl rfl (fun v1 => ?_)
  refine x_ifeq (pt := 22) F dX11_toil_8 rfl rfl ?_ ?_
  · refine x_iconst F dX11_toil_22 ⟨by decide, by decide⟩ rfl ?_
    exact x_iret F hnE hQ dX11_toil_23
  · refine x_aload_n F dX11_toil_11 rfl rfl rfl ?_
    refine x_getR F flX11_70 ha0 rfl dX11_toil_12 rfl ?_
    refine x_iload_n F dX11_toil_15 rfl rfl rfl ?_
    refine s_callV F [vI a1] [] lkX11_298 mX2_allSteps rfl (tf11_8 ha0).1 rfl hnE hn0 hd (tX2_allSteps cx.l x hi G ((rf a0 8)) a1 (tf11_8 ha0).1) rfl rfl dX11_toil_16 rfl rfl (fun v2 G3 => ?_)
    refine x_goto (pc' := 23) F dX11_toil_19 rfl ?_
    exact x_iret F hnE hQ dX11_toil_23
theorem dX11_risk_0 : decode cX11_risk 0 = .ok (.iload_n 1, 1) := by decide +kernel
theorem dX11_risk_1 : decode cX11_risk 1 = .ok (.iconst 1, 1) := by decide +kernel
theorem dX11_risk_2 : decode cX11_risk 2 = .ok (.if_icmp .lt 19, 3) := by decide +kernel
theorem dX11_risk_5 : decode cX11_risk 5 = .ok (.iload_n 1, 1) := by decide +kernel
theorem dX11_risk_6 : decode cX11_risk 6 = .ok (.iconst 3, 1) := by decide +kernel
theorem dX11_risk_7 : decode cX11_risk 7 = .ok (.if_icmp .gt 14, 3) := by decide +kernel
theorem dX11_risk_10 : decode cX11_risk 10 = .ok (.aload_n 0, 1) := by decide +kernel
theorem dX11_risk_11 : decode cX11_risk 11 = .ok (.getfield 70, 3) := by decide +kernel
theorem dX11_risk_14 : decode cX11_risk 14 = .ok (.iload_n 1, 1) := by decide +kernel
theorem dX11_risk_15 : decode cX11_risk 15 = .ok (.invokevirtual 301, 3) := by decide +kernel
theorem dX11_risk_18 : decode cX11_risk 18 = .ok (.goto 4, 3) := by decide +kernel
theorem dX11_risk_21 : decode cX11_risk 21 = .ok (.iconst (-1), 1) := by decide +kernel
theorem dX11_risk_22 : decode cX11_risk 22 = .ok (.ireturn, 1) := by decide +kernel
def fX11_risk (a0 : Nat) (a1 : Int) (G : Hp) : RT := if a1 < 1 then (rt ((-1)) G) else (if 3 < a1 then (rt ((-1)) G) else (bp (fX2_riskySets ((rf a0 8)) a1 G) fun v1 => rt v1 G))
theorem pX11_risk {G : Hp} {a0 : Nat} {a1 : Int} : PU G (fX11_risk a0 a1 G) := by
  unfold fX11_risk
  refine PU_ite ?_ ?_
  · exact PU_rt
  · refine PU_ite ?_ ?_
    · exact PU_rt
    · refine PU_bp (fun v1 => ?_)
      exact PU_rt
set_option maxRecDepth 20000 in
set_option maxHeartbeats 4000000 in
theorem tX11_risk (l : Launch) (x : WX) (hi : Inj x.2.2) (G : Hp) (a0 : Nat) (a1 : Int) (ha0 : kd a0 = 11) : Ct l x yX11_risk cX11_risk 2 (some .int) 4 129 129 [vR a0, vI a1] G (fX11_risk a0 a1 G) := by
  refine ct_of (plainFor_of_name (by decide)) hi (Nat.le_refl _) (Nat.le_refl _) (Nat.le_of_ble_eq_true rfl) (fun cx F hd hn0 hnE hl hQ => ?_)
  subst hl
  have F : Fx cx x RX11 cX11_risk 2 (some .int) := F
  show Y cx x 2 (some .int) 129 0 [(0, vR a0), (1, vI a1)] [] G _
  unfold fX11_risk
  refine x_iload_n F dX11_risk_0 rfl rfl rfl ?_
  refine x_iconst F dX11_risk_1 ⟨by decide, by decide⟩ rfl ?_
  refine x_icmplt (pt := 21) F dX11_risk_2 rfl rfl ?_ ?_
  · refine x_iconst F dX11_risk_21 ⟨by decide, by decide⟩ rfl ?_
    exact x_iret F hnE hQ dX11_risk_22
  · refine x_iload_n F dX11_risk_5 rfl rfl rfl ?_
    refine x_iconst F dX11_risk_6 ⟨by decide, by decide⟩ rfl ?_
    refine x_icmpgt (pt := 21) F dX11_risk_7 rfl rfl ?_ ?_
    · refine x_iconst F dX11_risk_21 ⟨by decide, by decide⟩ rfl ?_
      exact x_iret F hnE hQ dX11_risk_22
    · refine x_aload_n F dX11_risk_10 rfl rfl rfl ?_
      refine x_getR F flX11_70 ha0 rfl dX11_risk_11 rfl ?_
      refine x_iload_n F dX11_risk_14 rfl rfl rfl ?_
      refine s_callVP F [vI a1] [] lkX11_301 mX2_riskySets rfl (tf11_8 ha0).1 rfl hnE hn0 hd pX2_riskySets (tX2_riskySets cx.l x hi G ((rf a0 8)) a1 (tf11_8 ha0).1) rfl rfl dX11_risk_15 rfl rfl (fun v1 => ?_)
      refine x_goto (pc' := 22) F dX11_risk_18 rfl ?_
      exact x_iret F hnE hQ dX11_risk_22
theorem dX11_mend_0 : decode cX11_mend 0 = .ok (.aload_n 0, 1) := by decide +kernel
theorem dX11_mend_1 : decode cX11_mend 1 = .ok (.getfield 93, 3) := by decide +kernel
theorem dX11_mend_4 : decode cX11_mend 4 = .ok (.aload_n 0, 1) := by decide +kernel
theorem dX11_mend_5 : decode cX11_mend 5 = .ok (.getfield 45, 3) := by decide +kernel
theorem dX11_mend_8 : decode cX11_mend 8 = .ok (.invokevirtual 175, 3) := by decide +kernel
theorem dX11_mend_11 : decode cX11_mend 11 = .ok (.aload_n 0, 1) := by decide +kernel
theorem dX11_mend_12 : decode cX11_mend 12 = .ok (.getfield 93, 3) := by decide +kernel
theorem dX11_mend_15 : decode cX11_mend 15 = .ok (.aload_n 0, 1) := by decide +kernel
theorem dX11_mend_16 : decode cX11_mend 16 = .ok (.getfield 63, 3) := by decide +kernel
theorem dX11_mend_19 : decode cX11_mend 19 = .ok (.iload_n 1, 1) := by decide +kernel
theorem dX11_mend_20 : decode cX11_mend 20 = .ok (.invokevirtual 208, 3) := by decide +kernel
theorem dX11_mend_23 : decode cX11_mend 23 = .ok (.invokevirtual 196, 3) := by decide +kernel
theorem dX11_mend_26 : decode cX11_mend 26 = .ok (.ireturn, 1) := by decide +kernel
def fX11_mend (a0 : Nat) (a1 : Int) (G : Hp) : RT := bn (fX3_lay ((rf a0 11)) ((rf a0 5)) G) fun _ G1 => bn (fX0_doMend ((rf a0 7)) a1 G1) fun v2 G3 => bn (fX3_keepUnlessNone ((rf a0 11)) v2 G3) fun v4 G5 => rt v4 G5
set_option maxRecDepth 20000 in
set_option maxHeartbeats 4000000 in
theorem tX11_mend (l : Launch) (x : WX) (hi : Inj x.2.2) (G : Hp) (a0 : Nat) (a1 : Int) (ha0 : kd a0 = 11) : Ct l x yX11_mend cX11_mend 2 (some .int) 5 129 129 [vR a0, vI a1] G (fX11_mend a0 a1 G) := by
  refine ct_of (plainFor_of_name (by decide)) hi (Nat.le_refl _) (Nat.le_refl _) (Nat.le_of_ble_eq_true rfl) (fun cx F hd hn0 hnE hl hQ => ?_)
  subst hl
  have F : Fx cx x RX11 cX11_mend 2 (some .int) := F
  show Y cx x 2 (some .int) 129 0 [(0, vR a0), (1, vI a1)] [] G _
  unfold fX11_mend
  refine x_aload_n F dX11_mend_0 rfl rfl rfl ?_
  refine x_getR F flX11_93 ha0 rfl dX11_mend_1 rfl ?_
  refine x_aload_n F dX11_mend_4 rfl rfl rfl ?_
  refine x_getR F flX11_45 ha0 rfl dX11_mend_5 rfl ?_
  refine s_callVv F [vR ((rf a0 5))] [] lkX11_175 mX3_lay rfl (tf11_11 ha0).1 rfl hnE hn0 hd (tX3_lay cx.l x hi G ((rf a0 11)) ((rf a0 5)) (tf11_11 ha0).1 (tf11_5 ha0).1) rfl rfl dX11_mend_8 rfl rfl (fun _ G1 => ?_)
  refine x_aload_n F dX11_mend_11 rfl rfl rfl ?_
  refine x_getR F flX11_93 ha0 rfl dX11_mend_12 rfl ?_
  refine x_aload_n F dX11_mend_15 rfl rfl rfl ?_
  refine x_getR F flX11_63 ha0 rfl dX11_mend_16 rfl ?_
  refine x_iload_n F dX11_mend_19 rfl rfl rfl ?_
  refine s_callV F [vI a1] [vR ((rf a0 11))] lkX11_208 mX0_doMend rfl (tf11_7 ha0).1 rfl hnE hn0 hd (tX0_doMend cx.l x hi G1 ((rf a0 7)) a1 (tf11_7 ha0).1) rfl rfl dX11_mend_20 rfl rfl (fun v2 G3 => ?_)
  refine s_callV F [vI v2] [] lkX11_196 mX3_keepUnlessNone rfl (tf11_11 ha0).1 rfl hnE hn0 hd (tX3_keepUnlessNone cx.l x hi G3 ((rf a0 11)) v2 (tf11_11 ha0).1) rfl rfl dX11_mend_23 rfl rfl (fun v4 G5 => ?_)
  exact x_iret F hnE hQ dX11_mend_26
theorem dX11_ordered_0 : decode cX11_ordered 0 = .ok (.aload_n 0, 1) := by decide +kernel
theorem dX11_ordered_1 : decode cX11_ordered 1 = .ok (.getfield 70, 3) := by decide +kernel
theorem dX11_ordered_4 : decode cX11_ordered 4 = .ok (.invokevirtual 258, 3) := by decide +kernel
theorem dX11_ordered_7 : decode cX11_ordered 7 = .ok (.ireturn, 1) := by decide +kernel
def fX11_ordered (a0 : Nat) (G : Hp) : RT := bp (fX2_isOrdered ((rf a0 8)) G) fun v1 => rz v1 G
theorem pX11_ordered {G : Hp} {a0 : Nat} : PU G (fX11_ordered a0 G) := by
  unfold fX11_ordered
  refine PU_bp (fun v1 => ?_)
  exact PU_rz
set_option maxRecDepth 20000 in
set_option maxHeartbeats 4000000 in
theorem tX11_ordered (l : Launch) (x : WX) (hi : Inj x.2.2) (G : Hp) (a0 : Nat) (ha0 : kd a0 = 11) : Ct l x yX11_ordered cX11_ordered 1 (some .boolean) 5 129 129 [vR a0] G (fX11_ordered a0 G) := by
  refine ct_of (plainFor_of_name (by decide)) hi (Nat.le_refl _) (Nat.le_refl _) (Nat.le_of_ble_eq_true rfl) (fun cx F hd hn0 hnE hl hQ => ?_)
  subst hl
  have F : Fx cx x RX11 cX11_ordered 1 (some .boolean) := F
  show Y cx x 1 (some .boolean) 129 0 [(0, vR a0)] [] G _
  unfold fX11_ordered
  refine x_aload_n F dX11_ordered_0 rfl rfl rfl ?_
  refine x_getR F flX11_70 ha0 rfl dX11_ordered_1 rfl ?_
  refine s_callVP F [] [] lkX11_258 mX2_isOrdered rfl (tf11_8 ha0).1 rfl hnE hn0 hd pX2_isOrdered (tX2_isOrdered cx.l x hi G ((rf a0 8)) (tf11_8 ha0).1) rfl rfl dX11_ordered_4 rfl rfl (fun v1 => ?_)
  exact x_zret F hnE hQ dX11_ordered_7
theorem dX11_widest_0 : decode cX11_widest 0 = .ok (.aload_n 0, 1) := by decide +kernel
theorem dX11_widest_1 : decode cX11_widest 1 = .ok (.getfield 70, 3) := by decide +kernel
theorem dX11_widest_4 : decode cX11_widest 4 = .ok (.invokevirtual 295, 3) := by decide +kernel
theorem dX11_widest_7 : decode cX11_widest 7 = .ok (.ireturn, 1) := by decide +kernel
def fX11_widest (a0 : Nat) (G : Hp) : RT := bp (fX2_widestArc ((rf a0 8)) G) fun v1 => rt v1 G
theorem pX11_widest {G : Hp} {a0 : Nat} : PU G (fX11_widest a0 G) := by
  unfold fX11_widest
  refine PU_bp (fun v1 => ?_)
  exact PU_rt
set_option maxRecDepth 20000 in
set_option maxHeartbeats 4000000 in
theorem tX11_widest (l : Launch) (x : WX) (hi : Inj x.2.2) (G : Hp) (a0 : Nat) (ha0 : kd a0 = 11) : Ct l x yX11_widest cX11_widest 1 (some .int) 5 129 129 [vR a0] G (fX11_widest a0 G) := by
  refine ct_of (plainFor_of_name (by decide)) hi (Nat.le_refl _) (Nat.le_refl _) (Nat.le_of_ble_eq_true rfl) (fun cx F hd hn0 hnE hl hQ => ?_)
  subst hl
  have F : Fx cx x RX11 cX11_widest 1 (some .int) := F
  show Y cx x 1 (some .int) 129 0 [(0, vR a0)] [] G _
  unfold fX11_widest
  refine x_aload_n F dX11_widest_0 rfl rfl rfl ?_
  refine x_getR F flX11_70 ha0 rfl dX11_widest_1 rfl ?_
  refine s_callVP F [] [] lkX11_295 mX2_widestArc rfl (tf11_8 ha0).1 rfl hnE hn0 hd pX2_widestArc (tX2_widestArc cx.l x hi G ((rf a0 8)) (tf11_8 ha0).1) rfl rfl dX11_widest_4 rfl rfl (fun v1 => ?_)
  exact x_iret F hnE hQ dX11_widest_7
theorem dX11_who_0 : decode cX11_who 0 = .ok (.aload_n 0, 1) := by decide +kernel
theorem dX11_who_1 : decode cX11_who 1 = .ok (.getfield 86, 3) := by decide +kernel
theorem dX11_who_4 : decode cX11_who 4 = .ok (.aload_n 0, 1) := by decide +kernel
theorem dX11_who_5 : decode cX11_who 5 = .ok (.getfield 54, 3) := by decide +kernel
theorem dX11_who_8 : decode cX11_who 8 = .ok (.aload_n 0, 1) := by decide +kernel
theorem dX11_who_9 : decode cX11_who 9 = .ok (.getfield 45, 3) := by decide +kernel
theorem dX11_who_12 : decode cX11_who 12 = .ok (.getfield 147, 3) := by decide +kernel
theorem dX11_who_15 : decode cX11_who 15 = .ok (.invokevirtual 314, 3) := by decide +kernel
theorem dX11_who_18 : decode cX11_who 18 = .ok (.ireturn, 1) := by decide +kernel
def fX11_who (a0 : Nat) (G : Hp) : RT := bn (fX5_suspects ((rf a0 10)) ((rf a0 6)) (G ((rf a0 5)) 1) G) fun v1 G2 => rt v1 G2
set_option maxRecDepth 20000 in
set_option maxHeartbeats 4000000 in
theorem tX11_who (l : Launch) (x : WX) (hi : Inj x.2.2) (G : Hp) (a0 : Nat) (ha0 : kd a0 = 11) : Ct l x yX11_who cX11_who 1 (some .int) 5 129 129 [vR a0] G (fX11_who a0 G) := by
  refine ct_of (plainFor_of_name (by decide)) hi (Nat.le_refl _) (Nat.le_refl _) (Nat.le_of_ble_eq_true rfl) (fun cx F hd hn0 hnE hl hQ => ?_)
  subst hl
  have F : Fx cx x RX11 cX11_who 1 (some .int) := F
  show Y cx x 1 (some .int) 129 0 [(0, vR a0)] [] G _
  unfold fX11_who
  refine x_aload_n F dX11_who_0 rfl rfl rfl ?_
  refine x_getR F flX11_86 ha0 rfl dX11_who_1 rfl ?_
  refine x_aload_n F dX11_who_4 rfl rfl rfl ?_
  refine x_getR F flX11_54 ha0 rfl dX11_who_5 rfl ?_
  refine x_aload_n F dX11_who_8 rfl rfl rfl ?_
  refine x_getR F flX11_45 ha0 rfl dX11_who_9 rfl ?_
  refine s_getI F flX11_147 (tf11_5 ha0).1 rfl dX11_who_12 rfl ?_
  refine s_callV F [vR ((rf a0 6)), vI (G ((rf a0 5)) 1)] [] lkX11_314 mX5_suspects rfl (tf11_10 ha0).1 rfl hnE hn0 hd (tX5_suspects cx.l x hi G ((rf a0 10)) ((rf a0 6)) (G ((rf a0 5)) 1) (tf11_10 ha0).1 (tf11_6 ha0).1) rfl rfl dX11_who_15 rfl rfl (fun v1 G2 => ?_)
  exact x_iret F hnE hQ dX11_who_18
theorem dX11_judged_0 : decode cX11_judged 0 = .ok (.iload_n 1, 1) := by decide +kernel
theorem dX11_judged_1 : decode cX11_judged 1 = .ok (.ifCond .lt 23, 3) := by decide +kernel
theorem dX11_judged_4 : decode cX11_judged 4 = .ok (.iload_n 1, 1) := by decide +kernel
theorem dX11_judged_5 : decode cX11_judged 5 = .ok (.iconst 2, 1) := by decide +kernel
theorem dX11_judged_6 : decode cX11_judged 6 = .ok (.if_icmp .gt 18, 3) := by decide +kernel
theorem dX11_judged_9 : decode cX11_judged 9 = .ok (.aload_n 0, 1) := by decide +kernel
theorem dX11_judged_10 : decode cX11_judged 10 = .ok (.getfield 79, 3) := by decide +kernel
theorem dX11_judged_13 : decode cX11_judged 13 = .ok (.aload_n 0, 1) := by decide +kernel
theorem dX11_judged_14 : decode cX11_judged 14 = .ok (.getfield 35, 3) := by decide +kernel
theorem dX11_judged_17 : decode cX11_judged 17 = .ok (.iload_n 1, 1) := by decide +kernel
theorem dX11_judged_18 : decode cX11_judged 18 = .ok (.invokevirtual 221, 3) := by decide +kernel
theorem dX11_judged_21 : decode cX11_judged 21 = .ok (.goto 5, 3) := by decide +kernel
theorem dX11_judged_24 : decode cX11_judged 24 = .ok (.bipush (-2), 2) := by decide +kernel
theorem dX11_judged_26 : decode cX11_judged 26 = .ok (.ireturn, 1) := by decide +kernel
def fX11_judged (a0 : Nat) (a1 : Int) (G : Hp) : RT := if a1 < 0 then (rt ((-2)) G) else (if 2 < a1 then (rt ((-2)) G) else (bn (fX9_judgeWork ((rf a0 9)) ((rf a0 3)) a1 G) fun v1 G2 => rt v1 G2))
set_option maxRecDepth 20000 in
set_option maxHeartbeats 4000000 in
theorem tX11_judged (l : Launch) (x : WX) (hi : Inj x.2.2) (G : Hp) (a0 : Nat) (a1 : Int) (ha0 : kd a0 = 11) : Ct l x yX11_judged cX11_judged 2 (some .int) 6 129 129 [vR a0, vI a1] G (fX11_judged a0 a1 G) := by
  refine ct_of (plainFor_of_name (by decide)) hi (Nat.le_refl _) (Nat.le_refl _) (Nat.le_of_ble_eq_true rfl) (fun cx F hd hn0 hnE hl hQ => ?_)
  subst hl
  have F : Fx cx x RX11 cX11_judged 2 (some .int) := F
  show Y cx x 2 (some .int) 129 0 [(0, vR a0), (1, vI a1)] [] G _
  unfold fX11_judged
  refine x_iload_n F dX11_judged_0 rfl rfl rfl ?_
  refine x_iflt (pt := 24) F dX11_judged_1 rfl rfl ?_ ?_
  · refine x_bipush F dX11_judged_24 ⟨by decide, by decide⟩ (by decide) rfl ?_
    exact x_iret F hnE hQ dX11_judged_26
  · refine x_iload_n F dX11_judged_4 rfl rfl rfl ?_
    refine x_iconst F dX11_judged_5 ⟨by decide, by decide⟩ rfl ?_
    refine x_icmpgt (pt := 24) F dX11_judged_6 rfl rfl ?_ ?_
    · refine x_bipush F dX11_judged_24 ⟨by decide, by decide⟩ (by decide) rfl ?_
      exact x_iret F hnE hQ dX11_judged_26
    · refine x_aload_n F dX11_judged_9 rfl rfl rfl ?_
      refine x_getR F flX11_79 ha0 rfl dX11_judged_10 rfl ?_
      refine x_aload_n F dX11_judged_13 rfl rfl rfl ?_
      refine x_getR F flX11_35 ha0 rfl dX11_judged_14 rfl ?_
      refine x_iload_n F dX11_judged_17 rfl rfl rfl ?_
      refine s_callV F [vR ((rf a0 3)), vI a1] [] lkX11_221 mX9_judgeWork rfl (tf11_9 ha0).1 rfl hnE hn0 hd (tX9_judgeWork cx.l x hi G ((rf a0 9)) ((rf a0 3)) a1 (tf11_9 ha0).1 (tf11_3 ha0).1) rfl rfl dX11_judged_18 rfl rfl (fun v1 G2 => ?_)
      refine x_goto (pc' := 26) F dX11_judged_21 rfl ?_
      exact x_iret F hnE hQ dX11_judged_26
theorem dX11_rests_0 : decode cX11_rests 0 = .ok (.aload_n 0, 1) := by decide +kernel
theorem dX11_rests_1 : decode cX11_rests 1 = .ok (.getfield 79, 3) := by decide +kernel
theorem dX11_rests_4 : decode cX11_rests 4 = .ok (.invokevirtual 268, 3) := by decide +kernel
theorem dX11_rests_7 : decode cX11_rests 7 = .ok (.ireturn, 1) := by decide +kernel
def fX11_rests (a0 : Nat) (G : Hp) : RT := bn (fX9_roundsTillRest ((rf a0 9)) G) fun v1 G2 => rt v1 G2
set_option maxRecDepth 20000 in
set_option maxHeartbeats 4000000 in
theorem tX11_rests (l : Launch) (x : WX) (hi : Inj x.2.2) (G : Hp) (a0 : Nat) (ha0 : kd a0 = 11) : Ct l x yX11_rests cX11_rests 1 (some .int) 6 129 129 [vR a0] G (fX11_rests a0 G) := by
  refine ct_of (plainFor_of_name (by decide)) hi (Nat.le_refl _) (Nat.le_refl _) (Nat.le_of_ble_eq_true rfl) (fun cx F hd hn0 hnE hl hQ => ?_)
  subst hl
  have F : Fx cx x RX11 cX11_rests 1 (some .int) := F
  show Y cx x 1 (some .int) 129 0 [(0, vR a0)] [] G _
  unfold fX11_rests
  refine x_aload_n F dX11_rests_0 rfl rfl rfl ?_
  refine x_getR F flX11_79 ha0 rfl dX11_rests_1 rfl ?_
  refine s_callV F [] [] lkX11_268 mX9_roundsTillRest rfl (tf11_9 ha0).1 rfl hnE hn0 hd (tX9_roundsTillRest cx.l x hi G ((rf a0 9)) (tf11_9 ha0).1) rfl rfl dX11_rests_4 rfl rfl (fun v1 G2 => ?_)
  exact x_iret F hnE hQ dX11_rests_7
theorem dX11_after_0 : decode cX11_after 0 = .ok (.iload_n 1, 1) := by decide +kernel
theorem dX11_after_1 : decode cX11_after 1 = .ok (.ifCond .lt 18, 3) := by decide +kernel
theorem dX11_after_4 : decode cX11_after 4 = .ok (.iload_n 1, 1) := by decide +kernel
theorem dX11_after_5 : decode cX11_after 5 = .ok (.bipush 30, 2) := by decide +kernel
theorem dX11_after_7 : decode cX11_after 7 = .ok (.if_icmp .gt 12, 3) := by decide +kernel
theorem dX11_after_10 : decode cX11_after 10 = .ok (.iload_n 2, 1) := by decide +kernel
theorem dX11_after_11 : decode cX11_after 11 = .ok (.ifCond .lt 8, 3) := by decide +kernel
theorem dX11_after_14 : decode cX11_after 14 = .ok (.iload_n 2, 1) := by decide +kernel
theorem dX11_after_15 : decode cX11_after 15 = .ok (.iconst 3, 1) := by decide +kernel
theorem dX11_after_16 : decode cX11_after 16 = .ok (.if_icmp .le 5, 3) := by decide +kernel
theorem dX11_after_19 : decode cX11_after 19 = .ok (.iconst (-1), 1) := by decide +kernel
theorem dX11_after_20 : decode cX11_after 20 = .ok (.ireturn, 1) := by decide +kernel
theorem dX11_after_21 : decode cX11_after 21 = .ok (.aload_n 0, 1) := by decide +kernel
theorem dX11_after_22 : decode cX11_after 22 = .ok (.getfield 79, 3) := by decide +kernel
theorem dX11_after_25 : decode cX11_after 25 = .ok (.iload_n 1, 1) := by decide +kernel
theorem dX11_after_26 : decode cX11_after 26 = .ok (.iload_n 2, 1) := by decide +kernel
theorem dX11_after_27 : decode cX11_after 27 = .ok (.invokevirtual 271, 3) := by decide +kernel
theorem dX11_after_30 : decode cX11_after 30 = .ok (.ireturn, 1) := by decide +kernel
def fX11_after (a0 : Nat) (a1 : Int) (a2 : Int) (G : Hp) : RT := if a1 < 0 then (rt ((-1)) G) else (if 30 < a1 then (rt ((-1)) G) else (if a2 < 0 then (rt ((-1)) G) else (if 3 < a2 then (rt ((-1)) G) else (bn (fX9_afterRounds ((rf a0 9)) a1 a2 G) fun v1 G2 => rt v1 G2))))
set_option maxRecDepth 20000 in
set_option maxHeartbeats 4000000 in
theorem tX11_after (l : Launch) (x : WX) (hi : Inj x.2.2) (G : Hp) (a0 : Nat) (a1 : Int) (a2 : Int) (ha0 : kd a0 = 11) : Ct l x yX11_after cX11_after 3 (some .int) 6 129 129 [vR a0, vI a1, vI a2] G (fX11_after a0 a1 a2 G) := by
  refine ct_of (plainFor_of_name (by decide)) hi (Nat.le_refl _) (Nat.le_refl _) (Nat.le_of_ble_eq_true rfl) (fun cx F hd hn0 hnE hl hQ => ?_)
  subst hl
  have F : Fx cx x RX11 cX11_after 3 (some .int) := F
  show Y cx x 3 (some .int) 129 0 [(0, vR a0), (1, vI a1), (2, vI a2)] [] G _
  unfold fX11_after
  refine x_iload_n F dX11_after_0 rfl rfl rfl ?_
  refine x_iflt (pt := 19) F dX11_after_1 rfl rfl ?_ ?_
  · refine x_iconst F dX11_after_19 ⟨by decide, by decide⟩ rfl ?_
    exact x_iret F hnE hQ dX11_after_20
  · refine x_iload_n F dX11_after_4 rfl rfl rfl ?_
    refine x_bipush F dX11_after_5 ⟨by decide, by decide⟩ (by decide) rfl ?_
    refine x_icmpgt (pt := 19) F dX11_after_7 rfl rfl ?_ ?_
    · refine x_iconst F dX11_after_19 ⟨by decide, by decide⟩ rfl ?_
      exact x_iret F hnE hQ dX11_after_20
    · refine x_iload_n F dX11_after_10 rfl rfl rfl ?_
      refine x_iflt (pt := 19) F dX11_after_11 rfl rfl ?_ ?_
      · refine x_iconst F dX11_after_19 ⟨by decide, by decide⟩ rfl ?_
        exact x_iret F hnE hQ dX11_after_20
      · refine x_iload_n F dX11_after_14 rfl rfl rfl ?_
        refine x_iconst F dX11_after_15 ⟨by decide, by decide⟩ rfl ?_
        refine x_icmple (pt := 21) F dX11_after_16 rfl rfl ?_ ?_
        · refine x_iconst F dX11_after_19 ⟨by decide, by decide⟩ rfl ?_
          exact x_iret F hnE hQ dX11_after_20
        · refine x_aload_n F dX11_after_21 rfl rfl rfl ?_
          refine x_getR F flX11_79 ha0 rfl dX11_after_22 rfl ?_
          refine x_iload_n F dX11_after_25 rfl rfl rfl ?_
          refine x_iload_n F dX11_after_26 rfl rfl rfl ?_
          refine s_callV F [vI a1, vI a2] [] lkX11_271 mX9_afterRounds rfl (tf11_9 ha0).1 rfl hnE hn0 hd (tX9_afterRounds cx.l x hi G ((rf a0 9)) a1 a2 (tf11_9 ha0).1) rfl rfl dX11_after_27 rfl rfl (fun v1 G2 => ?_)
          exact x_iret F hnE hQ dX11_after_30
theorem dX11_ask_0 : decode cX11_ask 0 = .ok (.aload_n 0, 1) := by decide +kernel
theorem dX11_ask_1 : decode cX11_ask 1 = .ok (.getfield 86, 3) := by decide +kernel
theorem dX11_ask_4 : decode cX11_ask 4 = .ok (.aload_n 0, 1) := by decide +kernel
theorem dX11_ask_5 : decode cX11_ask 5 = .ok (.getfield 54, 3) := by decide +kernel
theorem dX11_ask_8 : decode cX11_ask 8 = .ok (.aload_n 0, 1) := by decide +kernel
theorem dX11_ask_9 : decode cX11_ask 9 = .ok (.getfield 45, 3) := by decide +kernel
theorem dX11_ask_12 : decode cX11_ask 12 = .ok (.getfield 147, 3) := by decide +kernel
theorem dX11_ask_15 : decode cX11_ask 15 = .ok (.aload_n 0, 1) := by decide +kernel
theorem dX11_ask_16 : decode cX11_ask 16 = .ok (.getfield 19, 3) := by decide +kernel
theorem dX11_ask_19 : decode cX11_ask 19 = .ok (.getfield 318, 3) := by decide +kernel
theorem dX11_ask_22 : decode cX11_ask 22 = .ok (.invokevirtual 321, 3) := by decide +kernel
theorem dX11_ask_25 : decode cX11_ask 25 = .ok (.ireturn, 1) := by decide +kernel
def fX11_ask (a0 : Nat) (G : Hp) : RT := bn (fX5_bestQuestion ((rf a0 10)) ((rf a0 6)) (G ((rf a0 5)) 1) (G ((rf a0 1)) 0) G) fun v1 G2 => rt v1 G2
set_option maxRecDepth 20000 in
set_option maxHeartbeats 4000000 in
theorem tX11_ask (l : Launch) (x : WX) (hi : Inj x.2.2) (G : Hp) (a0 : Nat) (ha0 : kd a0 = 11) : Ct l x yX11_ask cX11_ask 1 (some .int) 6 129 129 [vR a0] G (fX11_ask a0 G) := by
  refine ct_of (plainFor_of_name (by decide)) hi (Nat.le_refl _) (Nat.le_refl _) (Nat.le_of_ble_eq_true rfl) (fun cx F hd hn0 hnE hl hQ => ?_)
  subst hl
  have F : Fx cx x RX11 cX11_ask 1 (some .int) := F
  show Y cx x 1 (some .int) 129 0 [(0, vR a0)] [] G _
  unfold fX11_ask
  refine x_aload_n F dX11_ask_0 rfl rfl rfl ?_
  refine x_getR F flX11_86 ha0 rfl dX11_ask_1 rfl ?_
  refine x_aload_n F dX11_ask_4 rfl rfl rfl ?_
  refine x_getR F flX11_54 ha0 rfl dX11_ask_5 rfl ?_
  refine x_aload_n F dX11_ask_8 rfl rfl rfl ?_
  refine x_getR F flX11_45 ha0 rfl dX11_ask_9 rfl ?_
  refine s_getI F flX11_147 (tf11_5 ha0).1 rfl dX11_ask_12 rfl ?_
  refine x_aload_n F dX11_ask_15 rfl rfl rfl ?_
  refine x_getR F flX11_19 ha0 rfl dX11_ask_16 rfl ?_
  refine s_getI F flX11_318 (tf11_1 ha0).1 rfl dX11_ask_19 rfl ?_
  refine s_callV F [vR ((rf a0 6)), vI (G ((rf a0 5)) 1), vI (G ((rf a0 1)) 0)] [] lkX11_321 mX5_bestQuestion rfl (tf11_10 ha0).1 rfl hnE hn0 hd (tX5_bestQuestion cx.l x hi G ((rf a0 10)) ((rf a0 6)) (G ((rf a0 5)) 1) (G ((rf a0 1)) 0) (tf11_10 ha0).1 (tf11_6 ha0).1) rfl rfl dX11_ask_22 rfl rfl (fun v1 G2 => ?_)
  exact x_iret F hnE hQ dX11_ask_25
theorem dX11_drives_0 : decode cX11_drives 0 = .ok (.iload_n 1, 1) := by decide +kernel
theorem dX11_drives_1 : decode cX11_drives 1 = .ok (.ifCond .lt 30, 3) := by decide +kernel
theorem dX11_drives_4 : decode cX11_drives 4 = .ok (.iload_n 1, 1) := by decide +kernel
theorem dX11_drives_5 : decode cX11_drives 5 = .ok (.sipush 9999, 3) := by decide +kernel
theorem dX11_drives_8 : decode cX11_drives 8 = .ok (.if_icmp .gt 23, 3) := by decide +kernel
theorem dX11_drives_11 : decode cX11_drives 11 = .ok (.iload_n 2, 1) := by decide +kernel
theorem dX11_drives_12 : decode cX11_drives 12 = .ok (.iconst 1, 1) := by decide +kernel
theorem dX11_drives_13 : decode cX11_drives 13 = .ok (.if_icmp .lt 18, 3) := by decide +kernel
theorem dX11_drives_16 : decode cX11_drives 16 = .ok (.iload_n 2, 1) := by decide +kernel
theorem dX11_drives_17 : decode cX11_drives 17 = .ok (.bipush 99, 2) := by decide +kernel
theorem dX11_drives_19 : decode cX11_drives 19 = .ok (.if_icmp .gt 12, 3) := by decide +kernel
theorem dX11_drives_22 : decode cX11_drives 22 = .ok (.iload_n 3, 1) := by decide +kernel
theorem dX11_drives_23 : decode cX11_drives 23 = .ok (.ifCond .lt 8, 3) := by decide +kernel
theorem dX11_drives_26 : decode cX11_drives 26 = .ok (.iload_n 3, 1) := by decide +kernel
theorem dX11_drives_27 : decode cX11_drives 27 = .ok (.iconst 2, 1) := by decide +kernel
theorem dX11_drives_28 : decode cX11_drives 28 = .ok (.if_icmp .le 5, 3) := by decide +kernel
theorem dX11_drives_31 : decode cX11_drives 31 = .ok (.iconst (-1), 1) := by decide +kernel
theorem dX11_drives_32 : decode cX11_drives 32 = .ok (.ireturn, 1) := by decide +kernel
theorem dX11_drives_33 : decode cX11_drives 33 = .ok (.aload_n 0, 1) := by decide +kernel
theorem dX11_drives_34 : decode cX11_drives 34 = .ok (.getfield 79, 3) := by decide +kernel
theorem dX11_drives_37 : decode cX11_drives 37 = .ok (.iload_n 1, 1) := by decide +kernel
theorem dX11_drives_38 : decode cX11_drives 38 = .ok (.iload_n 2, 1) := by decide +kernel
theorem dX11_drives_39 : decode cX11_drives 39 = .ok (.iload_n 3, 1) := by decide +kernel
theorem dX11_drives_40 : decode cX11_drives 40 = .ok (.invokevirtual 325, 3) := by decide +kernel
theorem dX11_drives_43 : decode cX11_drives 43 = .ok (.ireturn, 1) := by decide +kernel
def fX11_drives (a0 : Nat) (a1 : Int) (a2 : Int) (a3 : Int) (G : Hp) : RT := if a1 < 0 then (rt ((-1)) G) else (if 9999 < a1 then (rt ((-1)) G) else (if a2 < 1 then (rt ((-1)) G) else (if 99 < a2 then (rt ((-1)) G) else (if a3 < 0 then (rt ((-1)) G) else (if 2 < a3 then (rt ((-1)) G) else (bn (fX9_drive ((rf a0 9)) a1 a2 a3 G) fun v1 G2 => rt v1 G2))))))
set_option maxRecDepth 20000 in
set_option maxHeartbeats 4000000 in
theorem tX11_drives (l : Launch) (x : WX) (hi : Inj x.2.2) (G : Hp) (a0 : Nat) (a1 : Int) (a2 : Int) (a3 : Int) (ha0 : kd a0 = 11) : Ct l x yX11_drives cX11_drives 4 (some .int) 6 129 129 [vR a0, vI a1, vI a2, vI a3] G (fX11_drives a0 a1 a2 a3 G) := by
  refine ct_of (plainFor_of_name (by decide)) hi (Nat.le_refl _) (Nat.le_refl _) (Nat.le_of_ble_eq_true rfl) (fun cx F hd hn0 hnE hl hQ => ?_)
  subst hl
  have F : Fx cx x RX11 cX11_drives 4 (some .int) := F
  show Y cx x 4 (some .int) 129 0 [(0, vR a0), (1, vI a1), (2, vI a2), (3, vI a3)] [] G _
  unfold fX11_drives
  refine x_iload_n F dX11_drives_0 rfl rfl rfl ?_
  refine x_iflt (pt := 31) F dX11_drives_1 rfl rfl ?_ ?_
  · refine x_iconst F dX11_drives_31 ⟨by decide, by decide⟩ rfl ?_
    exact x_iret F hnE hQ dX11_drives_32
  · refine x_iload_n F dX11_drives_4 rfl rfl rfl ?_
    refine x_sipush F dX11_drives_5 ⟨by decide, by decide⟩ (by decide) rfl ?_
    refine x_icmpgt (pt := 31) F dX11_drives_8 rfl rfl ?_ ?_
    · refine x_iconst F dX11_drives_31 ⟨by decide, by decide⟩ rfl ?_
      exact x_iret F hnE hQ dX11_drives_32
    · refine x_iload_n F dX11_drives_11 rfl rfl rfl ?_
      refine x_iconst F dX11_drives_12 ⟨by decide, by decide⟩ rfl ?_
      refine x_icmplt (pt := 31) F dX11_drives_13 rfl rfl ?_ ?_
      · refine x_iconst F dX11_drives_31 ⟨by decide, by decide⟩ rfl ?_
        exact x_iret F hnE hQ dX11_drives_32
      · refine x_iload_n F dX11_drives_16 rfl rfl rfl ?_
        refine x_bipush F dX11_drives_17 ⟨by decide, by decide⟩ (by decide) rfl ?_
        refine x_icmpgt (pt := 31) F dX11_drives_19 rfl rfl ?_ ?_
        · refine x_iconst F dX11_drives_31 ⟨by decide, by decide⟩ rfl ?_
          exact x_iret F hnE hQ dX11_drives_32
        · refine x_iload_n F dX11_drives_22 rfl rfl rfl ?_
          refine x_iflt (pt := 31) F dX11_drives_23 rfl rfl ?_ ?_
          · refine x_iconst F dX11_drives_31 ⟨by decide, by decide⟩ rfl ?_
            exact x_iret F hnE hQ dX11_drives_32
          · refine x_iload_n F dX11_drives_26 rfl rfl rfl ?_
            refine x_iconst F dX11_drives_27 ⟨by decide, by decide⟩ rfl ?_
            refine x_icmple (pt := 33) F dX11_drives_28 rfl rfl ?_ ?_
            · refine x_iconst F dX11_drives_31 ⟨by decide, by decide⟩ rfl ?_
              exact x_iret F hnE hQ dX11_drives_32
            · refine x_aload_n F dX11_drives_33 rfl rfl rfl ?_
              refine x_getR F flX11_79 ha0 rfl dX11_drives_34 rfl ?_
              refine x_iload_n F dX11_drives_37 rfl rfl rfl ?_
              refine x_iload_n F dX11_drives_38 rfl rfl rfl ?_
              refine x_iload_n F dX11_drives_39 rfl rfl rfl ?_
              refine s_callV F [vI a1, vI a2, vI a3] [] lkX11_325 mX9_drive rfl (tf11_9 ha0).1 rfl hnE hn0 hd (tX9_drive cx.l x hi G ((rf a0 9)) a1 a2 a3 (tf11_9 ha0).1) rfl rfl dX11_drives_40 rfl rfl (fun v1 G2 => ?_)
              exact x_iret F hnE hQ dX11_drives_43
theorem dX11_work_0 : decode cX11_work 0 = .ok (.aload_n 0, 1) := by decide +kernel
theorem dX11_work_1 : decode cX11_work 1 = .ok (.getfield 39, 3) := by decide +kernel
theorem dX11_work_4 : decode cX11_work 4 = .ok (.aload_n 0, 1) := by decide +kernel
theorem dX11_work_5 : decode cX11_work 5 = .ok (.getfield 10, 3) := by decide +kernel
theorem dX11_work_8 : decode cX11_work 8 = .ok (.aload_n 0, 1) := by decide +kernel
theorem dX11_work_9 : decode cX11_work 9 = .ok (.getfield 19, 3) := by decide +kernel
theorem dX11_work_12 : decode cX11_work 12 = .ok (.invokevirtual 122, 3) := by decide +kernel
theorem dX11_work_15 : decode cX11_work 15 = .ok (.istore_n 1, 1) := by decide +kernel
theorem dX11_work_16 : decode cX11_work 16 = .ok (.aload_n 0, 1) := by decide +kernel
theorem dX11_work_17 : decode cX11_work 17 = .ok (.getfield 10, 3) := by decide +kernel
theorem dX11_work_20 : decode cX11_work 20 = .ok (.invokevirtual 109, 3) := by decide +kernel
theorem dX11_work_23 : decode cX11_work 23 = .ok (.iload_n 1, 1) := by decide +kernel
theorem dX11_work_24 : decode cX11_work 24 = .ok (.ifCond .ne 14, 3) := by decide +kernel
theorem dX11_work_27 : decode cX11_work 27 = .ok (.aload_n 0, 1) := by decide +kernel
theorem dX11_work_28 : decode cX11_work 28 = .ok (.getfield 35, 3) := by decide +kernel
theorem dX11_work_31 : decode cX11_work 31 = .ok (.aload_n 0, 1) := by decide +kernel
theorem dX11_work_32 : decode cX11_work 32 = .ok (.getfield 39, 3) := by decide +kernel
theorem dX11_work_35 : decode cX11_work 35 = .ok (.invokevirtual 126, 3) := by decide +kernel
theorem dX11_work_38 : decode cX11_work 38 = .ok (.iload_n 1, 1) := by decide +kernel
theorem dX11_work_39 : decode cX11_work 39 = .ok (.ireturn, 1) := by decide +kernel
def fX11_work (a0 : Nat) (G : Hp) : RT := bn (fX10_readWork ((rf a0 4)) ((rf a0 0)) ((rf a0 1)) G) fun v1 G2 => bd v1 fun v3 => bn (fX7_clear ((rf a0 0)) G2) fun _ G4 => if v3 = 0 then (bn (fX10_copyFrom ((rf a0 3)) ((rf a0 4)) G4) fun _ G5 => rt v3 G5) else rt v3 G4
set_option maxRecDepth 20000 in
set_option maxHeartbeats 4000000 in
theorem tX11_work (l : Launch) (x : WX) (hi : Inj x.2.2) (G : Hp) (a0 : Nat) (ha0 : kd a0 = 11) : Ct l x yX11_work cX11_work 2 (some .int) 8 129 129 [vR a0] G (fX11_work a0 G) := by
  refine ct_of (plainFor_of_name (by decide)) hi (Nat.le_refl _) (Nat.le_refl _) (Nat.le_of_ble_eq_true rfl) (fun cx F hd hn0 hnE hl hQ => ?_)
  subst hl
  have F : Fx cx x RX11 cX11_work 2 (some .int) := F
  show Y cx x 2 (some .int) 129 0 [(0, vR a0)] [] G _
  unfold fX11_work
  refine x_aload_n F dX11_work_0 rfl rfl rfl ?_
  refine x_getR F flX11_39 ha0 rfl dX11_work_1 rfl ?_
  refine x_aload_n F dX11_work_4 rfl rfl rfl ?_
  refine x_getR F flX11_10 ha0 rfl dX11_work_5 rfl ?_
  refine x_aload_n F dX11_work_8 rfl rfl rfl ?_
  refine x_getR F flX11_19 ha0 rfl dX11_work_9 rfl ?_
  refine s_callV F [vR ((rf a0 0)), vR ((rf a0 1))] [] lkX11_122 mX10_readWork rfl (tf11_4 ha0).1 rfl hnE hn0 hd (tX10_readWork cx.l x hi G ((rf a0 4)) ((rf a0 0)) ((rf a0 1)) (tf11_4 ha0).1 (tf11_0 ha0).1 (tf11_1 ha0).1) rfl rfl dX11_work_12 rfl rfl (fun v1 G2 => ?_)
  refine x_istore_n F dX11_work_15 rfl (by decide) rfl rfl (fun v3 => ?_)
  show Y cx x _ _ _ _ [(0, vR a0), (1, vI v3)] _ _ _
  refine x_aload_n F dX11_work_16 rfl rfl rfl ?_
  refine x_getR F flX11_10 ha0 rfl dX11_work_17 rfl ?_
  refine s_callVv F [] [] lkX11_109 mX7_clear rfl (tf11_0 ha0).1 rfl hnE hn0 hd (tX7_clear cx.l x hi G2 ((rf a0 0)) (tf11_0 ha0).1) rfl rfl dX11_work_20 rfl rfl (fun _ G4 => ?_)
  refine x_iload_n F dX11_work_23 rfl rfl rfl ?_
  refine x_ifne (pt := 38) F dX11_work_24 rfl rfl ?_ ?_
  · refine x_aload_n F dX11_work_27 rfl rfl rfl ?_
    refine x_getR F flX11_35 ha0 rfl dX11_work_28 rfl ?_
    refine x_aload_n F dX11_work_31 rfl rfl rfl ?_
    refine x_getR F flX11_39 ha0 rfl dX11_work_32 rfl ?_
    refine s_callVv F [vR ((rf a0 4))] [] lkX11_126 mX10_copyFrom rfl (tf11_3 ha0).1 rfl hnE hn0 hd (tX10_copyFrom cx.l x hi G4 ((rf a0 3)) ((rf a0 4)) (tf11_3 ha0).1 (tf11_4 ha0).1) rfl rfl dX11_work_35 rfl rfl (fun _ G5 => ?_)
    refine x_iload_n F dX11_work_38 rfl rfl rfl ?_
    exact x_iret F hnE hQ dX11_work_39
  · refine x_iload_n F dX11_work_38 rfl rfl rfl ?_
    exact x_iret F hnE hQ dX11_work_39
