theorem dX12_readLine_0 : decode cX12_readLine 0 = .ok (.aload_n 0, 1) := by decide +kernel
theorem dX12_readLine_1 : decode cX12_readLine 1 = .ok (.iconst 0, 1) := by decide +kernel
theorem dX12_readLine_2 : decode cX12_readLine 2 = .ok (.invokevirtual 166, 3) := by decide +kernel
theorem dX12_readLine_5 : decode cX12_readLine 5 = .ok (.ifCond .eq 42, 3) := by decide +kernel
theorem dX12_readLine_8 : decode cX12_readLine 8 = .ok (.aload_n 0, 1) := by decide +kernel
theorem dX12_readLine_9 : decode cX12_readLine 9 = .ok (.aload_n 0, 1) := by decide +kernel
theorem dX12_readLine_10 : decode cX12_readLine 10 = .ok (.iconst 0, 1) := by decide +kernel
theorem dX12_readLine_11 : decode cX12_readLine 11 = .ok (.invokevirtual 201, 3) := by decide +kernel
theorem dX12_readLine_14 : decode cX12_readLine 14 = .ok (.ifCond .le 7, 3) := by decide +kernel
theorem dX12_readLine_17 : decode cX12_readLine 17 = .ok (.iconst 1, 1) := by decide +kernel
theorem dX12_readLine_18 : decode cX12_readLine 18 = .ok (.goto 4, 3) := by decide +kernel
theorem dX12_readLine_21 : decode cX12_readLine 21 = .ok (.iconst 0, 1) := by decide +kernel
theorem dX12_readLine_22 : decode cX12_readLine 22 = .ok (.invokevirtual 204, 3) := by decide +kernel
theorem dX12_readLine_25 : decode cX12_readLine 25 = .ok (.ifCond .eq 211, 3) := by decide +kernel
theorem dX12_readLine_28 : decode cX12_readLine 28 = .ok (.aload_n 0, 1) := by decide +kernel
theorem dX12_readLine_29 : decode cX12_readLine 29 = .ok (.getfield 87, 3) := by decide +kernel
theorem dX12_readLine_32 : decode cX12_readLine 32 = .ok (.bipush 32, 2) := by decide +kernel
theorem dX12_readLine_34 : decode cX12_readLine 34 = .ok (.aload_n 0, 1) := by decide +kernel
theorem dX12_readLine_35 : decode cX12_readLine 35 = .ok (.bipush 8, 2) := by decide +kernel
theorem dX12_readLine_37 : decode cX12_readLine 37 = .ok (.sipush 256, 3) := by decide +kernel
theorem dX12_readLine_40 : decode cX12_readLine 40 = .ok (.invokevirtual 175, 3) := by decide +kernel
theorem dX12_readLine_43 : decode cX12_readLine 43 = .ok (.iastore, 1) := by decide +kernel
theorem dX12_readLine_44 : decode cX12_readLine 44 = .ok (.goto 192, 3) := by decide +kernel
theorem dX12_readLine_47 : decode cX12_readLine 47 = .ok (.aload_n 0, 1) := by decide +kernel
theorem dX12_readLine_48 : decode cX12_readLine 48 = .ok (.iconst 1, 1) := by decide +kernel
theorem dX12_readLine_49 : decode cX12_readLine 49 = .ok (.invokevirtual 166, 3) := by decide +kernel
theorem dX12_readLine_52 : decode cX12_readLine 52 = .ok (.ifCond .eq 47, 3) := by decide +kernel
theorem dX12_readLine_55 : decode cX12_readLine 55 = .ok (.aload_n 0, 1) := by decide +kernel
theorem dX12_readLine_56 : decode cX12_readLine 56 = .ok (.aload_n 0, 1) := by decide +kernel
theorem dX12_readLine_57 : decode cX12_readLine 57 = .ok (.iconst 5, 1) := by decide +kernel
theorem dX12_readLine_58 : decode cX12_readLine 58 = .ok (.invokevirtual 201, 3) := by decide +kernel
theorem dX12_readLine_61 : decode cX12_readLine 61 = .ok (.ifCond .le 7, 3) := by decide +kernel
theorem dX12_readLine_64 : decode cX12_readLine 64 = .ok (.iconst 1, 1) := by decide +kernel
theorem dX12_readLine_65 : decode cX12_readLine 65 = .ok (.goto 4, 3) := by decide +kernel
theorem dX12_readLine_68 : decode cX12_readLine 68 = .ok (.iconst 0, 1) := by decide +kernel
theorem dX12_readLine_69 : decode cX12_readLine 69 = .ok (.invokevirtual 204, 3) := by decide +kernel
theorem dX12_readLine_72 : decode cX12_readLine 72 = .ok (.ifCond .eq 164, 3) := by decide +kernel
theorem dX12_readLine_75 : decode cX12_readLine 75 = .ok (.aload_n 0, 1) := by decide +kernel
theorem dX12_readLine_76 : decode cX12_readLine 76 = .ok (.getfield 87, 3) := by decide +kernel
theorem dX12_readLine_79 : decode cX12_readLine 79 = .ok (.bipush 33, 2) := by decide +kernel
theorem dX12_readLine_81 : decode cX12_readLine 81 = .ok (.aload_n 0, 1) := by decide +kernel
theorem dX12_readLine_82 : decode cX12_readLine 82 = .ok (.iconst 1, 1) := by decide +kernel
theorem dX12_readLine_83 : decode cX12_readLine 83 = .ok (.iconst 4, 1) := by decide +kernel
theorem dX12_readLine_84 : decode cX12_readLine 84 = .ok (.invokevirtual 175, 3) := by decide +kernel
theorem dX12_readLine_87 : decode cX12_readLine 87 = .ok (.iastore, 1) := by decide +kernel
theorem dX12_readLine_88 : decode cX12_readLine 88 = .ok (.aload_n 0, 1) := by decide +kernel
theorem dX12_readLine_89 : decode cX12_readLine 89 = .ok (.getfield 87, 3) := by decide +kernel
theorem dX12_readLine_92 : decode cX12_readLine 92 = .ok (.bipush 37, 2) := by decide +kernel
theorem dX12_readLine_94 : decode cX12_readLine 94 = .ok (.iconst 1, 1) := by decide +kernel
theorem dX12_readLine_95 : decode cX12_readLine 95 = .ok (.iastore, 1) := by decide +kernel
theorem dX12_readLine_96 : decode cX12_readLine 96 = .ok (.goto 140, 3) := by decide +kernel
theorem dX12_readLine_99 : decode cX12_readLine 99 = .ok (.aload_n 0, 1) := by decide +kernel
theorem dX12_readLine_100 : decode cX12_readLine 100 = .ok (.iconst 2, 1) := by decide +kernel
theorem dX12_readLine_101 : decode cX12_readLine 101 = .ok (.invokevirtual 166, 3) := by decide +kernel
theorem dX12_readLine_104 : decode cX12_readLine 104 = .ok (.ifCond .eq 10, 3) := by decide +kernel
theorem dX12_readLine_107 : decode cX12_readLine 107 = .ok (.aload_n 0, 1) := by decide +kernel
theorem dX12_readLine_108 : decode cX12_readLine 108 = .ok (.invokevirtual 208, 3) := by decide +kernel
theorem dX12_readLine_111 : decode cX12_readLine 111 = .ok (.goto 125, 3) := by decide +kernel
theorem dX12_readLine_114 : decode cX12_readLine 114 = .ok (.aload_n 0, 1) := by decide +kernel
theorem dX12_readLine_115 : decode cX12_readLine 115 = .ok (.iconst 3, 1) := by decide +kernel
theorem dX12_readLine_116 : decode cX12_readLine 116 = .ok (.invokevirtual 166, 3) := by decide +kernel
theorem dX12_readLine_119 : decode cX12_readLine 119 = .ok (.ifCond .eq 59, 3) := by decide +kernel
theorem dX12_readLine_122 : decode cX12_readLine 122 = .ok (.aload_n 0, 1) := by decide +kernel
theorem dX12_readLine_123 : decode cX12_readLine 123 = .ok (.iconst 3, 1) := by decide +kernel
theorem dX12_readLine_124 : decode cX12_readLine 124 = .ok (.invokevirtual 201, 3) := by decide +kernel
theorem dX12_readLine_127 : decode cX12_readLine 127 = .ok (.istore_n 1, 1) := by decide +kernel
theorem dX12_readLine_128 : decode cX12_readLine 128 = .ok (.aload_n 0, 1) := by decide +kernel
theorem dX12_readLine_129 : decode cX12_readLine 129 = .ok (.bipush 8, 2) := by decide +kernel
theorem dX12_readLine_131 : decode cX12_readLine 131 = .ok (.iload_n 1, 1) := by decide +kernel
theorem dX12_readLine_132 : decode cX12_readLine 132 = .ok (.bipush 10, 2) := by decide +kernel
theorem dX12_readLine_134 : decode cX12_readLine 134 = .ok (.invokevirtual 211, 3) := by decide +kernel
theorem dX12_readLine_137 : decode cX12_readLine 137 = .ok (.aload_n 0, 1) := by decide +kernel
theorem dX12_readLine_138 : decode cX12_readLine 138 = .ok (.iconst 4, 1) := by decide +kernel
theorem dX12_readLine_139 : decode cX12_readLine 139 = .ok (.iconst 0, 1) := by decide +kernel
theorem dX12_readLine_140 : decode cX12_readLine 140 = .ok (.sipush 999, 3) := by decide +kernel
theorem dX12_readLine_143 : decode cX12_readLine 143 = .ok (.invokevirtual 215, 3) := by decide +kernel
theorem dX12_readLine_146 : decode cX12_readLine 146 = .ok (.istore_n 2, 1) := by decide +kernel
theorem dX12_readLine_147 : decode cX12_readLine 147 = .ok (.aload_n 0, 1) := by decide +kernel
theorem dX12_readLine_148 : decode cX12_readLine 148 = .ok (.getfield 157, 3) := by decide +kernel
theorem dX12_readLine_151 : decode cX12_readLine 151 = .ok (.ifCond .ne 24, 3) := by decide +kernel
theorem dX12_readLine_154 : decode cX12_readLine 154 = .ok (.aload_n 0, 1) := by decide +kernel
theorem dX12_readLine_155 : decode cX12_readLine 155 = .ok (.getfield 87, 3) := by decide +kernel
theorem dX12_readLine_158 : decode cX12_readLine 158 = .ok (.bipush 54, 2) := by decide +kernel
theorem dX12_readLine_160 : decode cX12_readLine 160 = .ok (.iload_n 1, 1) := by decide +kernel
theorem dX12_readLine_161 : decode cX12_readLine 161 = .ok (.iadd, 1) := by decide +kernel
theorem dX12_readLine_162 : decode cX12_readLine 162 = .ok (.iload_n 2, 1) := by decide +kernel
theorem dX12_readLine_163 : decode cX12_readLine 163 = .ok (.iastore, 1) := by decide +kernel
theorem dX12_readLine_164 : decode cX12_readLine 164 = .ok (.aload_n 0, 1) := by decide +kernel
theorem dX12_readLine_165 : decode cX12_readLine 165 = .ok (.getfield 87, 3) := by decide +kernel
theorem dX12_readLine_168 : decode cX12_readLine 168 = .ok (.bipush 35, 2) := by decide +kernel
theorem dX12_readLine_170 : decode cX12_readLine 170 = .ok (.dup2, 1) := by decide +kernel
theorem dX12_readLine_171 : decode cX12_readLine 171 = .ok (.iaload, 1) := by decide +kernel
theorem dX12_readLine_172 : decode cX12_readLine 172 = .ok (.iconst 1, 1) := by decide +kernel
theorem dX12_readLine_173 : decode cX12_readLine 173 = .ok (.iadd, 1) := by decide +kernel
theorem dX12_readLine_174 : decode cX12_readLine 174 = .ok (.iastore, 1) := by decide +kernel
theorem dX12_readLine_175 : decode cX12_readLine 175 = .ok (.goto 61, 3) := by decide +kernel
theorem dX12_readLine_178 : decode cX12_readLine 178 = .ok (.aload_n 0, 1) := by decide +kernel
theorem dX12_readLine_179 : decode cX12_readLine 179 = .ok (.iconst 5, 1) := by decide +kernel
theorem dX12_readLine_180 : decode cX12_readLine 180 = .ok (.invokevirtual 166, 3) := by decide +kernel
theorem dX12_readLine_183 : decode cX12_readLine 183 = .ok (.ifCond .ne 11, 3) := by decide +kernel
theorem dX12_readLine_186 : decode cX12_readLine 186 = .ok (.aload_n 0, 1) := by decide +kernel
theorem dX12_readLine_187 : decode cX12_readLine 187 = .ok (.iconst 1, 1) := by decide +kernel
theorem dX12_readLine_188 : decode cX12_readLine 188 = .ok (.invokevirtual 163, 3) := by decide +kernel
theorem dX12_readLine_191 : decode cX12_readLine 191 = .ok (.goto 45, 3) := by decide +kernel
theorem dX12_readLine_194 : decode cX12_readLine 194 = .ok (.aload_n 0, 1) := by decide +kernel
theorem dX12_readLine_195 : decode cX12_readLine 195 = .ok (.aload_n 0, 1) := by decide +kernel
theorem dX12_readLine_196 : decode cX12_readLine 196 = .ok (.iconst 4, 1) := by decide +kernel
theorem dX12_readLine_197 : decode cX12_readLine 197 = .ok (.invokevirtual 201, 3) := by decide +kernel
theorem dX12_readLine_200 : decode cX12_readLine 200 = .ok (.ifCond .lt 7, 3) := by decide +kernel
theorem dX12_readLine_203 : decode cX12_readLine 203 = .ok (.iconst 1, 1) := by decide +kernel
theorem dX12_readLine_204 : decode cX12_readLine 204 = .ok (.goto 4, 3) := by decide +kernel
theorem dX12_readLine_207 : decode cX12_readLine 207 = .ok (.iconst 0, 1) := by decide +kernel
theorem dX12_readLine_208 : decode cX12_readLine 208 = .ok (.invokevirtual 204, 3) := by decide +kernel
theorem dX12_readLine_211 : decode cX12_readLine 211 = .ok (.ifCond .eq 25, 3) := by decide +kernel
theorem dX12_readLine_214 : decode cX12_readLine 214 = .ok (.aload_n 0, 1) := by decide +kernel
theorem dX12_readLine_215 : decode cX12_readLine 215 = .ok (.getfield 87, 3) := by decide +kernel
theorem dX12_readLine_218 : decode cX12_readLine 218 = .ok (.bipush 36, 2) := by decide +kernel
theorem dX12_readLine_220 : decode cX12_readLine 220 = .ok (.aload_n 0, 1) := by decide +kernel
theorem dX12_readLine_221 : decode cX12_readLine 221 = .ok (.getfield 192, 3) := by decide +kernel
theorem dX12_readLine_224 : decode cX12_readLine 224 = .ok (.iastore, 1) := by decide +kernel
theorem dX12_readLine_225 : decode cX12_readLine 225 = .ok (.aload_n 0, 1) := by decide +kernel
theorem dX12_readLine_226 : decode cX12_readLine 226 = .ok (.iconst 0, 1) := by decide +kernel
theorem dX12_readLine_227 : decode cX12_readLine 227 = .ok (.invokevirtual 219, 3) := by decide +kernel
theorem dX12_readLine_230 : decode cX12_readLine 230 = .ok (.aload_n 0, 1) := by decide +kernel
theorem dX12_readLine_231 : decode cX12_readLine 231 = .ok (.iconst 0, 1) := by decide +kernel
theorem dX12_readLine_232 : decode cX12_readLine 232 = .ok (.iconst 0, 1) := by decide +kernel
theorem dX12_readLine_233 : decode cX12_readLine 233 = .ok (.invokevirtual 222, 3) := by decide +kernel
theorem dX12_readLine_236 : decode cX12_readLine 236 = .ok (.return_, 1) := by decide +kernel
def fX12_readLine (a0 : Nat) (G : Hp) : RT := bp (fX12_isWord a0 0 G) fun v1 => if v1 = 0 then (bp (fX12_isWord a0 1 G) fun v2 => if v2 = 0 then (bp (fX12_isWord a0 2 G) fun v3 => if v3 = 0 then (bp (fX12_isWord a0 3 G) fun v4 => if v4 = 0 then (bp (fX12_isWord a0 5 G) fun v5 => if v5 = 0 then (bn (fX12_wrong a0 1 G) fun _ G16 => rt 0 G16) else (bp (fX12_told a0 4 G) fun v6 => jn (fun (v7 : Int) => bn (fX12_readOnce a0 v7 G) fun v9 G10 => if v9 = 0 then rt 0 G10 else (bs (wr G10 ((rf a0 10)) 64 36 (G10 a0 12)) fun G11 => bn (fX12_allOf a0 0 G11) fun _ G12 => bn (fX12_emit a0 0 0 G12) fun _ G13 => rt 0 G13)) fun (K8 : Int → RT) => if v6 < 0 then K8 0 else K8 1)) else (bp (fX12_told a0 3 G) fun v18 => bd v18 fun v19 => bn (fX12_readName a0 8 v19 10 G) fun _ G20 => bn (fX12_takeAfter a0 4 0 999 G20) fun v21 G22 => bd v21 fun v23 => jn (fun (G24 : Hp) => rt 0 G24) fun (K25 : Hp → RT) => if (G22 a0 8) = 0 then (bs (wr G22 ((rf a0 10)) 64 (iadd 54 v19) v23) fun G26 => br (rd G26 ((rf a0 10)) 64 35) fun v27 => bs (wr G26 ((rf a0 10)) 64 35 (iadd v27 1)) fun G28 => K25 G28) else K25 G22)) else (bn (fX12_readNode a0 G) fun _ G30 => rt 0 G30)) else (bp (fX12_told a0 5 G) fun v32 => jn (fun (v33 : Int) => bn (fX12_readOnce a0 v33 G) fun v35 G36 => if v35 = 0 then rt 0 G36 else (bn (fX12_takeNumber a0 1 4 G36) fun v37 G38 => bs (wr G38 ((rf a0 10)) 64 33 v37) fun G39 => bs (wr G39 ((rf a0 10)) 64 37 1) fun G40 => rt 0 G40)) fun (K34 : Int → RT) => if 0 < v32 then K34 1 else K34 0)) else (bp (fX12_told a0 0 G) fun v41 => jn (fun (v42 : Int) => bn (fX12_readOnce a0 v42 G) fun v44 G45 => if v44 = 0 then rt 0 G45 else (bn (fX12_takeNumber a0 8 256 G45) fun v46 G47 => bs (wr G47 ((rf a0 10)) 64 32 v46) fun G48 => rt 0 G48)) fun (K43 : Int → RT) => if 0 < v41 then K43 1 else K43 0)
set_option maxRecDepth 20000 in
set_option maxHeartbeats 4000000 in
theorem tX12_readLine (l : Launch) (x : WX) (hi : Inj x.2.2) (G : Hp) (a0 : Nat) (ha0 : kd a0 = 12) : Ct l x yX12_readLine cX12_readLine 3 none 63 129 129 [vR a0] G (fX12_readLine a0 G) := by
  refine ct_of (plainFor_of_name (by decide)) hi (Nat.le_refl _) (Nat.le_refl _) (Nat.le_of_ble_eq_true rfl) (fun cx F hd hn0 hnE hl hQ => ?_)
  subst hl
  have F : Fx cx x RX12 cX12_readLine 3 none := F
  show Y cx x 3 none 129 0 [(0, vR a0)] [] G _
  unfold fX12_readLine
  refine x_aload_n F dX12_readLine_0 rfl rfl rfl ?_
  refine x_iconst F dX12_readLine_1 ⟨by decide, by decide⟩ rfl ?_
  refine s_callVP F [vI 0] [] lkX12_166 mX12_isWord rfl ha0 rfl hnE hn0 hd pX12_isWord (tX12_isWord cx.l x hi G a0 0 ha0) rfl rfl dX12_readLine_2 rfl rfl (fun v1 => ?_)
  refine x_ifeq (pt := 47) F dX12_readLine_5 rfl rfl ?_ ?_
  · refine x_aload_n F dX12_readLine_47 rfl rfl rfl ?_
    refine x_iconst F dX12_readLine_48 ⟨by decide, by decide⟩ rfl ?_
    refine s_callVP F [vI 1] [] lkX12_166 mX12_isWord rfl ha0 rfl hnE hn0 hd pX12_isWord (tX12_isWord cx.l x hi G a0 1 ha0) rfl rfl dX12_readLine_49 rfl rfl (fun v2 => ?_)
    refine x_ifeq (pt := 99) F dX12_readLine_52 rfl rfl ?_ ?_
    · refine x_aload_n F dX12_readLine_99 rfl rfl rfl ?_
      refine x_iconst F dX12_readLine_100 ⟨by decide, by decide⟩ rfl ?_
      refine s_callVP F [vI 2] [] lkX12_166 mX12_isWord rfl ha0 rfl hnE hn0 hd pX12_isWord (tX12_isWord cx.l x hi G a0 2 ha0) rfl rfl dX12_readLine_101 rfl rfl (fun v3 => ?_)
      refine x_ifeq (pt := 114) F dX12_readLine_104 rfl rfl ?_ ?_
      · refine x_aload_n F dX12_readLine_114 rfl rfl rfl ?_
        refine x_iconst F dX12_readLine_115 ⟨by decide, by decide⟩ rfl ?_
        refine s_callVP F [vI 3] [] lkX12_166 mX12_isWord rfl ha0 rfl hnE hn0 hd pX12_isWord (tX12_isWord cx.l x hi G a0 3 ha0) rfl rfl dX12_readLine_116 rfl rfl (fun v4 => ?_)
        refine x_ifeq (pt := 178) F dX12_readLine_119 rfl rfl ?_ ?_
        · refine x_aload_n F dX12_readLine_178 rfl rfl rfl ?_
          refine x_iconst F dX12_readLine_179 ⟨by decide, by decide⟩ rfl ?_
          refine s_callVP F [vI 5] [] lkX12_166 mX12_isWord rfl ha0 rfl hnE hn0 hd pX12_isWord (tX12_isWord cx.l x hi G a0 5 ha0) rfl rfl dX12_readLine_180 rfl rfl (fun v5 => ?_)
          refine x_ifne (pt := 194) F dX12_readLine_183 rfl rfl ?_ ?_
          · refine x_aload_n F dX12_readLine_186 rfl rfl rfl ?_
            refine x_iconst F dX12_readLine_187 ⟨by decide, by decide⟩ rfl ?_
            refine s_callVv F [vI 1] [] lkX12_163 mX12_wrong rfl ha0 rfl hnE hn0 hd (tX12_wrong cx.l x hi G a0 1 ha0) rfl rfl dX12_readLine_188 rfl rfl (fun _ G16 => ?_)
            refine x_goto (pc' := 236) F dX12_readLine_191 rfl ?_
            exact x_vret F hnE hQ dX12_readLine_236
          · refine x_aload_n F dX12_readLine_194 rfl rfl rfl ?_
            refine x_aload_n F dX12_readLine_195 rfl rfl rfl ?_
            refine x_iconst F dX12_readLine_196 ⟨by decide, by decide⟩ rfl ?_
            refine s_callVP F [vI 4] [vR a0] lkX12_201 mX12_told rfl ha0 rfl hnE hn0 hd pX12_told (tX12_told cx.l x hi G a0 4 ha0) rfl rfl dX12_readLine_197 rfl rfl (fun v6 => ?_)
            refine x_jn (fun (K8 : Int → RT) => ∀ (v7 : Int), Y cx x 3 none 129 208 [(0, vR a0)] [vI v7, vR a0] G (K8 v7)) ?_ (fun K8 hK8 => ?_)
            · intro v7
              refine s_callV F [vI v7] [] lkX12_204 mX12_readOnce rfl ha0 rfl hnE hn0 hd (tX12_readOnce cx.l x hi G a0 v7 ha0) rfl rfl dX12_readLine_208 rfl rfl (fun v9 G10 => ?_)
              refine x_ifeq (pt := 236) F dX12_readLine_211 rfl rfl ?_ ?_
              · exact x_vret F hnE hQ dX12_readLine_236
              · refine x_aload_n F dX12_readLine_214 rfl rfl rfl ?_
                refine x_getR F flX12_87 ha0 rfl dX12_readLine_215 rfl ?_
                refine x_bipush F dX12_readLine_218 ⟨by decide, by decide⟩ (by decide) rfl ?_
                refine x_aload_n F dX12_readLine_220 rfl rfl rfl ?_
                refine s_getI F flX12_192 ha0 rfl dX12_readLine_221 rfl ?_
                refine s_iast F (tf12_10 ha0).1 (tf12_10 ha0).2 dX12_readLine_224 rfl (fun G11 => ?_)
                refine x_aload_n F dX12_readLine_225 rfl rfl rfl ?_
                refine x_iconst F dX12_readLine_226 ⟨by decide, by decide⟩ rfl ?_
                refine s_callVv F [vI 0] [] lkX12_219 mX12_allOf rfl ha0 rfl hnE hn0 hd (tX12_allOf cx.l x hi G11 a0 0 ha0) rfl rfl dX12_readLine_227 rfl rfl (fun _ G12 => ?_)
                refine x_aload_n F dX12_readLine_230 rfl rfl rfl ?_
                refine x_iconst F dX12_readLine_231 ⟨by decide, by decide⟩ rfl ?_
                refine x_iconst F dX12_readLine_232 ⟨by decide, by decide⟩ rfl ?_
                refine s_callVv F [vI 0, vI 0] [] lkX12_222 mX12_emit rfl ha0 rfl hnE hn0 hd (tX12_emit cx.l x hi G12 a0 0 0 ha0) rfl rfl dX12_readLine_233 rfl rfl (fun _ G13 => ?_)
                exact x_vret F hnE hQ dX12_readLine_236
            · refine x_iflt (pt := 207) F dX12_readLine_200 rfl rfl ?_ ?_
              · refine x_iconst F dX12_readLine_207 ⟨by decide, by decide⟩ rfl ?_
                exact hK8 0
              · refine x_iconst F dX12_readLine_203 ⟨by decide, by decide⟩ rfl ?_
                refine x_goto (pc' := 208) F dX12_readLine_204 rfl ?_
                exact hK8 1
        · refine x_aload_n F dX12_readLine_122 rfl rfl rfl ?_
          refine x_iconst F dX12_readLine_123 ⟨by decide, by decide⟩ rfl ?_
          refine s_callVP F [vI 3] [] lkX12_201 mX12_told rfl ha0 rfl hnE hn0 hd pX12_told (tX12_told cx.l x hi G a0 3 ha0) rfl rfl dX12_readLine_124 rfl rfl (fun v18 => ?_)
          refine x_istore_n F dX12_readLine_127 rfl (by decide) rfl rfl (fun v19 => ?_)
          show Y cx x _ _ _ _ [(0, vR a0), (1, vI v19)] _ _ _
          refine x_aload_n F dX12_readLine_128 rfl rfl rfl ?_
          refine x_bipush F dX12_readLine_129 ⟨by decide, by decide⟩ (by decide) rfl ?_
          refine x_iload_n F dX12_readLine_131 rfl rfl rfl ?_
          refine x_bipush F dX12_readLine_132 ⟨by decide, by decide⟩ (by decide) rfl ?_
          refine s_callVv F [vI 8, vI v19, vI 10] [] lkX12_211 mX12_readName rfl ha0 rfl hnE hn0 hd (tX12_readName cx.l x hi G a0 8 v19 10 ha0) rfl rfl dX12_readLine_134 rfl rfl (fun _ G20 => ?_)
          refine x_aload_n F dX12_readLine_137 rfl rfl rfl ?_
          refine x_iconst F dX12_readLine_138 ⟨by decide, by decide⟩ rfl ?_
          refine x_iconst F dX12_readLine_139 ⟨by decide, by decide⟩ rfl ?_
          refine x_sipush F dX12_readLine_140 ⟨by decide, by decide⟩ (by decide) rfl ?_
          refine s_callV F [vI 4, vI 0, vI 999] [] lkX12_215 mX12_takeAfter rfl ha0 rfl hnE hn0 hd (tX12_takeAfter cx.l x hi G20 a0 4 0 999 ha0) rfl rfl dX12_readLine_143 rfl rfl (fun v21 G22 => ?_)
          refine x_istore_n F dX12_readLine_146 rfl (by decide) rfl rfl (fun v23 => ?_)
          show Y cx x _ _ _ _ [(0, vR a0), (1, vI v19), (2, vI v23)] _ _ _
          refine x_aload_n F dX12_readLine_147 rfl rfl rfl ?_
          refine s_getI F flX12_157 ha0 rfl dX12_readLine_148 rfl ?_
          refine x_jn (fun (K25 : Hp → RT) => ∀ (G24 : Hp), Y cx x 3 none 129 175 [] [] G24 (K25 G24)) ?_ (fun K25 hK25 => ?_)
          · intro G24
            refine x_goto (pc' := 236) F dX12_readLine_175 rfl ?_
            exact x_vret F hnE hQ dX12_readLine_236
          · refine x_ifne (pt := 175) F dX12_readLine_151 rfl rfl ?_ ?_
            · refine x_aload_n F dX12_readLine_154 rfl rfl rfl ?_
              refine x_getR F flX12_87 ha0 rfl dX12_readLine_155 rfl ?_
              refine x_bipush F dX12_readLine_158 ⟨by decide, by decide⟩ (by decide) rfl ?_
              refine x_iload_n F dX12_readLine_160 rfl rfl rfl ?_
              refine x_iadd F dX12_readLine_161 rfl ?_
              refine x_iload_n F dX12_readLine_162 rfl rfl rfl ?_
              refine s_iast F (tf12_10 ha0).1 (tf12_10 ha0).2 dX12_readLine_163 rfl (fun G26 => ?_)
              refine x_aload_n F dX12_readLine_164 rfl rfl rfl ?_
              refine x_getR F flX12_87 ha0 rfl dX12_readLine_165 rfl ?_
              refine x_bipush F dX12_readLine_168 ⟨by decide, by decide⟩ (by decide) rfl ?_
              refine x_dup2 F dX12_readLine_170 rfl rfl rfl ?_
              refine s_iald F (tf12_10 ha0).1 (tf12_10 ha0).2 dX12_readLine_171 rfl (fun v27 => ?_)
              refine x_iconst F dX12_readLine_172 ⟨by decide, by decide⟩ rfl ?_
              refine x_iadd F dX12_readLine_173 rfl ?_
              refine s_iast F (tf12_10 ha0).1 (tf12_10 ha0).2 dX12_readLine_174 rfl (fun G28 => ?_)
              refine x_dp (L' := []) [] rfl ?_
              exact hK25 G28
            · refine x_dp (L' := []) [] rfl ?_
              exact hK25 G22
      · refine x_aload_n F dX12_readLine_107 rfl rfl rfl ?_
        refine s_callVv F [] [] lkX12_208 mX12_readNode rfl ha0 rfl hnE hn0 hd (tX12_readNode cx.l x hi G a0 ha0) rfl rfl dX12_readLine_108 rfl rfl (fun _ G30 => ?_)
        refine x_goto (pc' := 236) F dX12_readLine_111 rfl ?_
        exact x_vret F hnE hQ dX12_readLine_236
    · refine x_aload_n F dX12_readLine_55 rfl rfl rfl ?_
      refine x_aload_n F dX12_readLine_56 rfl rfl rfl ?_
      refine x_iconst F dX12_readLine_57 ⟨by decide, by decide⟩ rfl ?_
      refine s_callVP F [vI 5] [vR a0] lkX12_201 mX12_told rfl ha0 rfl hnE hn0 hd pX12_told (tX12_told cx.l x hi G a0 5 ha0) rfl rfl dX12_readLine_58 rfl rfl (fun v32 => ?_)
      refine x_jn (fun (K34 : Int → RT) => ∀ (v33 : Int), Y cx x 3 none 129 69 [(0, vR a0)] [vI v33, vR a0] G (K34 v33)) ?_ (fun K34 hK34 => ?_)
      · intro v33
        refine s_callV F [vI v33] [] lkX12_204 mX12_readOnce rfl ha0 rfl hnE hn0 hd (tX12_readOnce cx.l x hi G a0 v33 ha0) rfl rfl dX12_readLine_69 rfl rfl (fun v35 G36 => ?_)
        refine x_ifeq (pt := 236) F dX12_readLine_72 rfl rfl ?_ ?_
        · exact x_vret F hnE hQ dX12_readLine_236
        · refine x_aload_n F dX12_readLine_75 rfl rfl rfl ?_
          refine x_getR F flX12_87 ha0 rfl dX12_readLine_76 rfl ?_
          refine x_bipush F dX12_readLine_79 ⟨by decide, by decide⟩ (by decide) rfl ?_
          refine x_aload_n F dX12_readLine_81 rfl rfl rfl ?_
          refine x_iconst F dX12_readLine_82 ⟨by decide, by decide⟩ rfl ?_
          refine x_iconst F dX12_readLine_83 ⟨by decide, by decide⟩ rfl ?_
          refine s_callV F [vI 1, vI 4] [vI 33, vR ((rf a0 10))] lkX12_175 mX12_takeNumber rfl ha0 rfl hnE hn0 hd (tX12_takeNumber cx.l x hi G36 a0 1 4 ha0) rfl rfl dX12_readLine_84 rfl rfl (fun v37 G38 => ?_)
          refine s_iast F (tf12_10 ha0).1 (tf12_10 ha0).2 dX12_readLine_87 rfl (fun G39 => ?_)
          refine x_aload_n F dX12_readLine_88 rfl rfl rfl ?_
          refine x_getR F flX12_87 ha0 rfl dX12_readLine_89 rfl ?_
          refine x_bipush F dX12_readLine_92 ⟨by decide, by decide⟩ (by decide) rfl ?_
          refine x_iconst F dX12_readLine_94 ⟨by decide, by decide⟩ rfl ?_
          refine s_iast F (tf12_10 ha0).1 (tf12_10 ha0).2 dX12_readLine_95 rfl (fun G40 => ?_)
          refine x_goto (pc' := 236) F dX12_readLine_96 rfl ?_
          exact x_vret F hnE hQ dX12_readLine_236
      · refine x_ifle (pt := 68) F dX12_readLine_61 rfl rfl ?_ ?_
        · refine x_iconst F dX12_readLine_64 ⟨by decide, by decide⟩ rfl ?_
          refine x_goto (pc' := 69) F dX12_readLine_65 rfl ?_
          exact hK34 1
        · refine x_iconst F dX12_readLine_68 ⟨by decide, by decide⟩ rfl ?_
          exact hK34 0
  · refine x_aload_n F dX12_readLine_8 rfl rfl rfl ?_
    refine x_aload_n F dX12_readLine_9 rfl rfl rfl ?_
    refine x_iconst F dX12_readLine_10 ⟨by decide, by decide⟩ rfl ?_
    refine s_callVP F [vI 0] [vR a0] lkX12_201 mX12_told rfl ha0 rfl hnE hn0 hd pX12_told (tX12_told cx.l x hi G a0 0 ha0) rfl rfl dX12_readLine_11 rfl rfl (fun v41 => ?_)
    refine x_jn (fun (K43 : Int → RT) => ∀ (v42 : Int), Y cx x 3 none 129 22 [(0, vR a0)] [vI v42, vR a0] G (K43 v42)) ?_ (fun K43 hK43 => ?_)
    · intro v42
      refine s_callV F [vI v42] [] lkX12_204 mX12_readOnce rfl ha0 rfl hnE hn0 hd (tX12_readOnce cx.l x hi G a0 v42 ha0) rfl rfl dX12_readLine_22 rfl rfl (fun v44 G45 => ?_)
      refine x_ifeq (pt := 236) F dX12_readLine_25 rfl rfl ?_ ?_
      · exact x_vret F hnE hQ dX12_readLine_236
      · refine x_aload_n F dX12_readLine_28 rfl rfl rfl ?_
        refine x_getR F flX12_87 ha0 rfl dX12_readLine_29 rfl ?_
        refine x_bipush F dX12_readLine_32 ⟨by decide, by decide⟩ (by decide) rfl ?_
        refine x_aload_n F dX12_readLine_34 rfl rfl rfl ?_
        refine x_bipush F dX12_readLine_35 ⟨by decide, by decide⟩ (by decide) rfl ?_
        refine x_sipush F dX12_readLine_37 ⟨by decide, by decide⟩ (by decide) rfl ?_
        refine s_callV F [vI 8, vI 256] [vI 32, vR ((rf a0 10))] lkX12_175 mX12_takeNumber rfl ha0 rfl hnE hn0 hd (tX12_takeNumber cx.l x hi G45 a0 8 256 ha0) rfl rfl dX12_readLine_40 rfl rfl (fun v46 G47 => ?_)
        refine s_iast F (tf12_10 ha0).1 (tf12_10 ha0).2 dX12_readLine_43 rfl (fun G48 => ?_)
        refine x_goto (pc' := 236) F dX12_readLine_44 rfl ?_
        exact x_vret F hnE hQ dX12_readLine_236
    · refine x_ifle (pt := 21) F dX12_readLine_14 rfl rfl ?_ ?_
      · refine x_iconst F dX12_readLine_17 ⟨by decide, by decide⟩ rfl ?_
        refine x_goto (pc' := 22) F dX12_readLine_18 rfl ?_
        exact hK43 1
      · refine x_iconst F dX12_readLine_21 ⟨by decide, by decide⟩ rfl ?_
        exact hK43 0
theorem dX12_ring_0 : decode cX12_ring 0 = .ok (.aload_n 0, 1) := by decide +kernel
theorem dX12_ring_1 : decode cX12_ring 1 = .ok (.iconst 0, 1) := by decide +kernel
theorem dX12_ring_2 : decode cX12_ring 2 = .ok (.putfield 1, 3) := by decide +kernel
theorem dX12_ring_5 : decode cX12_ring 5 = .ok (.aload_n 0, 1) := by decide +kernel
theorem dX12_ring_6 : decode cX12_ring 6 = .ok (.invokevirtual 189, 3) := by decide +kernel
theorem dX12_ring_9 : decode cX12_ring 9 = .ok (.aload_n 0, 1) := by decide +kernel
theorem dX12_ring_10 : decode cX12_ring 10 = .ok (.iconst 0, 1) := by decide +kernel
theorem dX12_ring_11 : decode cX12_ring 11 = .ok (.putfield 192, 3) := by decide +kernel
theorem dX12_ring_14 : decode cX12_ring 14 = .ok (.aload_n 0, 1) := by decide +kernel
theorem dX12_ring_15 : decode cX12_ring 15 = .ok (.bipush 32, 2) := by decide +kernel
theorem dX12_ring_17 : decode cX12_ring 17 = .ok (.invokevirtual 124, 3) := by decide +kernel
theorem dX12_ring_20 : decode cX12_ring 20 = .ok (.aload_n 0, 1) := by decide +kernel
theorem dX12_ring_21 : decode cX12_ring 21 = .ok (.getfield 157, 3) := by decide +kernel
theorem dX12_ring_24 : decode cX12_ring 24 = .ok (.ifCond .ne 28, 3) := by decide +kernel
theorem dX12_ring_27 : decode cX12_ring 27 = .ok (.aload_n 0, 1) := by decide +kernel
theorem dX12_ring_28 : decode cX12_ring 28 = .ok (.getfield 24, 3) := by decide +kernel
theorem dX12_ring_31 : decode cX12_ring 31 = .ok (.aload_n 0, 1) := by decide +kernel
theorem dX12_ring_32 : decode cX12_ring 32 = .ok (.getfield 154, 3) := by decide +kernel
theorem dX12_ring_35 : decode cX12_ring 35 = .ok (.iaload, 1) := by decide +kernel
theorem dX12_ring_36 : decode cX12_ring 36 = .ok (.ifCond .eq 16, 3) := by decide +kernel
theorem dX12_ring_39 : decode cX12_ring 39 = .ok (.aload_n 0, 1) := by decide +kernel
theorem dX12_ring_40 : decode cX12_ring 40 = .ok (.invokevirtual 195, 3) := by decide +kernel
theorem dX12_ring_43 : decode cX12_ring 43 = .ok (.aload_n 0, 1) := by decide +kernel
theorem dX12_ring_44 : decode cX12_ring 44 = .ok (.bipush 59, 2) := by decide +kernel
theorem dX12_ring_46 : decode cX12_ring 46 = .ok (.invokevirtual 198, 3) := by decide +kernel
theorem dX12_ring_49 : decode cX12_ring 49 = .ok (.goto (-29), 3) := by decide +kernel
theorem dX12_ring_52 : decode cX12_ring 52 = .ok (.aload_n 0, 1) := by decide +kernel
theorem dX12_ring_53 : decode cX12_ring 53 = .ok (.getfield 157, 3) := by decide +kernel
theorem dX12_ring_56 : decode cX12_ring 56 = .ok (.ifCond .le 8, 3) := by decide +kernel
theorem dX12_ring_59 : decode cX12_ring 59 = .ok (.aload_n 0, 1) := by decide +kernel
theorem dX12_ring_60 : decode cX12_ring 60 = .ok (.getfield 157, 3) := by decide +kernel
theorem dX12_ring_63 : decode cX12_ring 63 = .ok (.ireturn, 1) := by decide +kernel
theorem dX12_ring_64 : decode cX12_ring 64 = .ok (.iconst 0, 1) := by decide +kernel
theorem dX12_ring_65 : decode cX12_ring 65 = .ok (.istore_n 1, 1) := by decide +kernel
theorem dX12_ring_66 : decode cX12_ring 66 = .ok (.iload_n 1, 1) := by decide +kernel
theorem dX12_ring_67 : decode cX12_ring 67 = .ok (.bipush 32, 2) := by decide +kernel
theorem dX12_ring_69 : decode cX12_ring 69 = .ok (.if_icmp .ge 24, 3) := by decide +kernel
theorem dX12_ring_72 : decode cX12_ring 72 = .ok (.aload_n 0, 1) := by decide +kernel
theorem dX12_ring_73 : decode cX12_ring 73 = .ok (.getfield 87, 3) := by decide +kernel
theorem dX12_ring_76 : decode cX12_ring 76 = .ok (.iload_n 1, 1) := by decide +kernel
theorem dX12_ring_77 : decode cX12_ring 77 = .ok (.aload_n 0, 1) := by decide +kernel
theorem dX12_ring_78 : decode cX12_ring 78 = .ok (.getfield 87, 3) := by decide +kernel
theorem dX12_ring_81 : decode cX12_ring 81 = .ok (.bipush 32, 2) := by decide +kernel
theorem dX12_ring_83 : decode cX12_ring 83 = .ok (.iload_n 1, 1) := by decide +kernel
theorem dX12_ring_84 : decode cX12_ring 84 = .ok (.iadd, 1) := by decide +kernel
theorem dX12_ring_85 : decode cX12_ring 85 = .ok (.iaload, 1) := by decide +kernel
theorem dX12_ring_86 : decode cX12_ring 86 = .ok (.iastore, 1) := by decide +kernel
theorem dX12_ring_87 : decode cX12_ring 87 = .ok (.iinc 1 1, 3) := by decide +kernel
theorem dX12_ring_90 : decode cX12_ring 90 = .ok (.goto (-24), 3) := by decide +kernel
theorem dX12_ring_93 : decode cX12_ring 93 = .ok (.iconst 0, 1) := by decide +kernel
theorem dX12_ring_94 : decode cX12_ring 94 = .ok (.istore_n 1, 1) := by decide +kernel
theorem dX12_ring_95 : decode cX12_ring 95 = .ok (.iload_n 1, 1) := by decide +kernel
theorem dX12_ring_96 : decode cX12_ring 96 = .ok (.aload_n 0, 1) := by decide +kernel
theorem dX12_ring_97 : decode cX12_ring 97 = .ok (.getfield 192, 3) := by decide +kernel
theorem dX12_ring_100 : decode cX12_ring 100 = .ok (.if_icmp .ge 25, 3) := by decide +kernel
theorem dX12_ring_103 : decode cX12_ring 103 = .ok (.aload_n 0, 1) := by decide +kernel
theorem dX12_ring_104 : decode cX12_ring 104 = .ok (.getfield 90, 3) := by decide +kernel
theorem dX12_ring_107 : decode cX12_ring 107 = .ok (.iload_n 1, 1) := by decide +kernel
theorem dX12_ring_108 : decode cX12_ring 108 = .ok (.aload_n 0, 1) := by decide +kernel
theorem dX12_ring_109 : decode cX12_ring 109 = .ok (.getfield 90, 3) := by decide +kernel
theorem dX12_ring_112 : decode cX12_ring 112 = .ok (.sipush 1100, 3) := by decide +kernel
theorem dX12_ring_115 : decode cX12_ring 115 = .ok (.iload_n 1, 1) := by decide +kernel
theorem dX12_ring_116 : decode cX12_ring 116 = .ok (.iadd, 1) := by decide +kernel
theorem dX12_ring_117 : decode cX12_ring 117 = .ok (.iaload, 1) := by decide +kernel
theorem dX12_ring_118 : decode cX12_ring 118 = .ok (.iastore, 1) := by decide +kernel
theorem dX12_ring_119 : decode cX12_ring 119 = .ok (.iinc 1 1, 3) := by decide +kernel
theorem dX12_ring_122 : decode cX12_ring 122 = .ok (.goto (-27), 3) := by decide +kernel
theorem dX12_ring_125 : decode cX12_ring 125 = .ok (.iconst 0, 1) := by decide +kernel
theorem dX12_ring_126 : decode cX12_ring 126 = .ok (.istore_n 1, 1) := by decide +kernel
theorem dX12_ring_127 : decode cX12_ring 127 = .ok (.iload_n 1, 1) := by decide +kernel
theorem dX12_ring_128 : decode cX12_ring 128 = .ok (.bipush 18, 2) := by decide +kernel
theorem dX12_ring_130 : decode cX12_ring 130 = .ok (.if_icmp .ge 24, 3) := by decide +kernel
theorem dX12_ring_133 : decode cX12_ring 133 = .ok (.aload_n 0, 1) := by decide +kernel
theorem dX12_ring_134 : decode cX12_ring 134 = .ok (.getfield 93, 3) := by decide +kernel
theorem dX12_ring_137 : decode cX12_ring 137 = .ok (.iload_n 1, 1) := by decide +kernel
theorem dX12_ring_138 : decode cX12_ring 138 = .ok (.aload_n 0, 1) := by decide +kernel
theorem dX12_ring_139 : decode cX12_ring 139 = .ok (.getfield 93, 3) := by decide +kernel
theorem dX12_ring_142 : decode cX12_ring 142 = .ok (.bipush 18, 2) := by decide +kernel
theorem dX12_ring_144 : decode cX12_ring 144 = .ok (.iload_n 1, 1) := by decide +kernel
theorem dX12_ring_145 : decode cX12_ring 145 = .ok (.iadd, 1) := by decide +kernel
theorem dX12_ring_146 : decode cX12_ring 146 = .ok (.laload, 1) := by decide +kernel
theorem dX12_ring_147 : decode cX12_ring 147 = .ok (.lastore, 1) := by decide +kernel
theorem dX12_ring_148 : decode cX12_ring 148 = .ok (.iinc 1 1, 3) := by decide +kernel
theorem dX12_ring_151 : decode cX12_ring 151 = .ok (.goto (-24), 3) := by decide +kernel
theorem dX12_ring_154 : decode cX12_ring 154 = .ok (.aload_n 0, 1) := by decide +kernel
theorem dX12_ring_155 : decode cX12_ring 155 = .ok (.invokevirtual 128, 3) := by decide +kernel
theorem dX12_ring_158 : decode cX12_ring 158 = .ok (.iconst 0, 1) := by decide +kernel
theorem dX12_ring_159 : decode cX12_ring 159 = .ok (.ireturn, 1) := by decide +kernel
def fX12_ring (a0 : Nat) (G : Hp) : RT := bh (up G a0 0 0) fun G1 => bn (fX12_cutAll a0 G1) fun _ G2 => bh (up G2 a0 12 0) fun G3 => bn (fX12_standsAsAlways a0 32 G3) fun _ G4 => (lp (fun (_ : Hp) => (none : RT)) 5000 (fun (rc6 : Hp → RT) (G5 : Hp) => jn (if 0 < (G5 a0 8) then (rt (G5 a0 8) G5) else (bd 0 fun v8 => (lp (fun (_ : Int) (_ : Hp) => (none : RT)) 5000 (fun (rc11 : Int → Hp → RT) (v9 : Int) (G10 : Hp) => if v9 < 32 then (br (rd G10 ((rf a0 10)) 64 (iadd 32 v9)) fun v28 => bs (wr G10 ((rf a0 10)) 64 v9 v28) fun G29 => bd (iadd v9 1) fun v30 => rc11 v30 G29) else (bd 0 fun v12 => (lp (fun (_ : Int) (_ : Hp) => (none : RT)) 5000 (fun (rc15 : Int → Hp → RT) (v13 : Int) (G14 : Hp) => if v13 < (G14 a0 12) then (br (rd G14 ((rf a0 11)) 2200 (iadd 1100 v13)) fun v25 => bs (wr G14 ((rf a0 11)) 2200 v13 v25) fun G26 => bd (iadd v13 1) fun v27 => rc15 v27 G26) else (bd 0 fun v16 => (lp (fun (_ : Int) (_ : Hp) => (none : RT)) 5000 (fun (rc19 : Int → Hp → RT) (v17 : Int) (G18 : Hp) => if v17 < 18 then (br (rd G18 ((rf a0 13)) 36 (iadd 18 v17)) fun v22 => bs (wr G18 ((rf a0 13)) 36 v17 v22) fun G23 => bd (iadd v17 1) fun v24 => rc19 v24 G23) else (bn (fX12_begins a0 G18) fun _ G20 => rt 0 G20))) v16 G14))) v12 G10))) v8 G5)) fun (K7 : RT) => if (G5 a0 8) = 0 then (br (rd G5 ((rf a0 4)) 1002 (G5 a0 7)) fun v31 => if v31 = 0 then K7 else (bn (fX12_readLine a0 G5) fun _ G32 => bn (fX12_takeSign a0 59 G32) fun _ G33 => rc6 G33)) else K7)) G4
set_option maxRecDepth 20000 in
set_option maxHeartbeats 4000000 in
theorem tX12_ring (l : Launch) (x : WX) (hi : Inj x.2.2) (G : Hp) (a0 : Nat) (ha0 : kd a0 = 12) : Ct l x yX12_ring cX12_ring 2 (some .int) 64 129 129 [vR a0] G (fX12_ring a0 G) := by
  refine ct_of (plainFor_of_name (by decide)) hi (Nat.le_refl _) (Nat.le_refl _) (Nat.le_of_ble_eq_true rfl) (fun cx F hd hn0 hnE hl hQ => ?_)
  subst hl
  have F : Fx cx x RX12 cX12_ring 2 (some .int) := F
  show Y cx x 2 (some .int) 129 0 [(0, vR a0)] [] G _
  unfold fX12_ring
  refine x_aload_n F dX12_ring_0 rfl rfl rfl ?_
  refine x_iconst F dX12_ring_1 ⟨by decide, by decide⟩ rfl ?_
  refine s_putI F fpX12_1 ha0 rfl dX12_ring_2 rfl (fun G1 => ?_)
  refine x_aload_n F dX12_ring_5 rfl rfl rfl ?_
  refine s_callVv F [] [] lkX12_189 mX12_cutAll rfl ha0 rfl hnE hn0 hd (tX12_cutAll cx.l x hi G1 a0 ha0) rfl rfl dX12_ring_6 rfl rfl (fun _ G2 => ?_)
  refine x_aload_n F dX12_ring_9 rfl rfl rfl ?_
  refine x_iconst F dX12_ring_10 ⟨by decide, by decide⟩ rfl ?_
  refine s_putI F fpX12_192 ha0 rfl dX12_ring_11 rfl (fun G3 => ?_)
  refine x_aload_n F dX12_ring_14 rfl rfl rfl ?_
  refine x_bipush F dX12_ring_15 ⟨by decide, by decide⟩ (by decide) rfl ?_
  refine s_callVv F [vI 32] [] lkX12_124 mX12_standsAsAlways rfl ha0 rfl hnE hn0 hd (tX12_standsAsAlways cx.l x hi G3 a0 32 ha0) rfl rfl dX12_ring_17 rfl rfl (fun _ G4 => ?_)
  refine x_lp (fun (rc6 : Hp → RT) => ∀ (G5 : Hp), Y cx x 2 (some .int) 129 20 [(0, vR a0)] [] G5 (rc6 G5)) (fun _ => Y_none) (fun rc6 hrc6 G5 => ?_) 5000 G4
  refine x_aload_n F dX12_ring_20 rfl rfl rfl ?_
  refine s_getI F flX12_157 ha0 rfl dX12_ring_21 rfl ?_
  refine x_jn (fun (K7 : RT) => Y cx x 2 (some .int) 129 52 [(0, vR a0)] [] G5 K7) ?_ (fun K7 hK7 => ?_)
  · refine x_aload_n F dX12_ring_52 rfl rfl rfl ?_
    refine s_getI F flX12_157 ha0 rfl dX12_ring_53 rfl ?_
    refine x_ifle (pt := 64) F dX12_ring_56 rfl rfl ?_ ?_
    · refine x_aload_n F dX12_ring_59 rfl rfl rfl ?_
      refine s_getI F flX12_157 ha0 rfl dX12_ring_60 rfl ?_
      exact x_iret F hnE hQ dX12_ring_63
    · refine x_iconst F dX12_ring_64 ⟨by decide, by decide⟩ rfl ?_
      refine x_istore_n F dX12_ring_65 rfl (by decide) rfl rfl (fun v8 => ?_)
      show Y cx x _ _ _ _ [(0, vR a0), (1, vI v8)] _ _ _
      refine x_lp (fun (rc11 : Int → Hp → RT) => ∀ (v9 : Int) (G10 : Hp), Y cx x 2 (some .int) 129 66 [(0, vR a0), (1, vI v9)] [] G10 (rc11 v9 G10)) (fun _ _ => Y_none) (fun rc11 hrc11 v9 G10 => ?_) 5000 v8 G5
      refine x_iload_n F dX12_ring_66 rfl rfl rfl ?_
      refine x_bipush F dX12_ring_67 ⟨by decide, by decide⟩ (by decide) rfl ?_
      refine x_icmpge (pt := 93) F dX12_ring_69 rfl rfl ?_ ?_
      · refine x_aload_n F dX12_ring_72 rfl rfl rfl ?_
        refine x_getR F flX12_87 ha0 rfl dX12_ring_73 rfl ?_
        refine x_iload_n F dX12_ring_76 rfl rfl rfl ?_
        refine x_aload_n F dX12_ring_77 rfl rfl rfl ?_
        refine x_getR F flX12_87 ha0 rfl dX12_ring_78 rfl ?_
        refine x_bipush F dX12_ring_81 ⟨by decide, by decide⟩ (by decide) rfl ?_
        refine x_iload_n F dX12_ring_83 rfl rfl rfl ?_
        refine x_iadd F dX12_ring_84 rfl ?_
        refine s_iald F (tf12_10 ha0).1 (tf12_10 ha0).2 dX12_ring_85 rfl (fun v28 => ?_)
        refine s_iast F (tf12_10 ha0).1 (tf12_10 ha0).2 dX12_ring_86 rfl (fun G29 => ?_)
        refine x_iinc F dX12_ring_87 rfl (by decide) rfl rfl (fun v30 => ?_)
        show Y cx x _ _ _ _ [(0, vR a0), (1, vI v30)] _ _ _
        refine x_goto (pc' := 66) F dX12_ring_90 rfl ?_
        exact hrc11 v30 G29
      · refine x_iconst F dX12_ring_93 ⟨by decide, by decide⟩ rfl ?_
        refine x_istore_n F dX12_ring_94 rfl (by decide) rfl rfl (fun v12 => ?_)
        show Y cx x _ _ _ _ [(0, vR a0), (1, vI v12)] _ _ _
        refine x_lp (fun (rc15 : Int → Hp → RT) => ∀ (v13 : Int) (G14 : Hp), Y cx x 2 (some .int) 129 95 [(0, vR a0), (1, vI v13)] [] G14 (rc15 v13 G14)) (fun _ _ => Y_none) (fun rc15 hrc15 v13 G14 => ?_) 5000 v12 G10
        refine x_iload_n F dX12_ring_95 rfl rfl rfl ?_
        refine x_aload_n F dX12_ring_96 rfl rfl rfl ?_
        refine s_getI F flX12_192 ha0 rfl dX12_ring_97 rfl ?_
        refine x_icmpge (pt := 125) F dX12_ring_100 rfl rfl ?_ ?_
        · refine x_aload_n F dX12_ring_103 rfl rfl rfl ?_
          refine x_getR F flX12_90 ha0 rfl dX12_ring_104 rfl ?_
          refine x_iload_n F dX12_ring_107 rfl rfl rfl ?_
          refine x_aload_n F dX12_ring_108 rfl rfl rfl ?_
          refine x_getR F flX12_90 ha0 rfl dX12_ring_109 rfl ?_
          refine x_sipush F dX12_ring_112 ⟨by decide, by decide⟩ (by decide) rfl ?_
          refine x_iload_n F dX12_ring_115 rfl rfl rfl ?_
          refine x_iadd F dX12_ring_116 rfl ?_
          refine s_iald F (tf12_11 ha0).1 (tf12_11 ha0).2 dX12_ring_117 rfl (fun v25 => ?_)
          refine s_iast F (tf12_11 ha0).1 (tf12_11 ha0).2 dX12_ring_118 rfl (fun G26 => ?_)
          refine x_iinc F dX12_ring_119 rfl (by decide) rfl rfl (fun v27 => ?_)
          show Y cx x _ _ _ _ [(0, vR a0), (1, vI v27)] _ _ _
          refine x_goto (pc' := 95) F dX12_ring_122 rfl ?_
          exact hrc15 v27 G26
        · refine x_iconst F dX12_ring_125 ⟨by decide, by decide⟩ rfl ?_
          refine x_istore_n F dX12_ring_126 rfl (by decide) rfl rfl (fun v16 => ?_)
          show Y cx x _ _ _ _ [(0, vR a0), (1, vI v16)] _ _ _
          refine x_lp (fun (rc19 : Int → Hp → RT) => ∀ (v17 : Int) (G18 : Hp), Y cx x 2 (some .int) 129 127 [(0, vR a0), (1, vI v17)] [] G18 (rc19 v17 G18)) (fun _ _ => Y_none) (fun rc19 hrc19 v17 G18 => ?_) 5000 v16 G14
          refine x_iload_n F dX12_ring_127 rfl rfl rfl ?_
          refine x_bipush F dX12_ring_128 ⟨by decide, by decide⟩ (by decide) rfl ?_
          refine x_icmpge (pt := 154) F dX12_ring_130 rfl rfl ?_ ?_
          · refine x_aload_n F dX12_ring_133 rfl rfl rfl ?_
            refine x_getR F flX12_93 ha0 rfl dX12_ring_134 rfl ?_
            refine x_iload_n F dX12_ring_137 rfl rfl rfl ?_
            refine x_aload_n F dX12_ring_138 rfl rfl rfl ?_
            refine x_getR F flX12_93 ha0 rfl dX12_ring_139 rfl ?_
            refine x_bipush F dX12_ring_142 ⟨by decide, by decide⟩ (by decide) rfl ?_
            refine x_iload_n F dX12_ring_144 rfl rfl rfl ?_
            refine x_iadd F dX12_ring_145 rfl ?_
            refine s_lald F (tf12_13 ha0).1 (tf12_13 ha0).2 dX12_ring_146 rfl (fun v22 => ?_)
            refine s_last F (tf12_13 ha0).1 (tf12_13 ha0).2 dX12_ring_147 rfl (fun G23 => ?_)
            refine x_iinc F dX12_ring_148 rfl (by decide) rfl rfl (fun v24 => ?_)
            show Y cx x _ _ _ _ [(0, vR a0), (1, vI v24)] _ _ _
            refine x_goto (pc' := 127) F dX12_ring_151 rfl ?_
            exact hrc19 v24 G23
          · refine x_aload_n F dX12_ring_154 rfl rfl rfl ?_
            refine s_callVv F [] [] lkX12_128 mX12_begins rfl ha0 rfl hnE hn0 hd (tX12_begins cx.l x hi G18 a0 ha0) rfl rfl dX12_ring_155 rfl rfl (fun _ G20 => ?_)
            refine x_iconst F dX12_ring_158 ⟨by decide, by decide⟩ rfl ?_
            exact x_iret F hnE hQ dX12_ring_159
  · refine x_ifne (pt := 52) F dX12_ring_24 rfl rfl ?_ ?_
    · refine x_aload_n F dX12_ring_27 rfl rfl rfl ?_
      refine x_getR F flX12_24 ha0 rfl dX12_ring_28 rfl ?_
      refine x_aload_n F dX12_ring_31 rfl rfl rfl ?_
      refine s_getI F flX12_154 ha0 rfl dX12_ring_32 rfl ?_
      refine s_iald F (tf12_4 ha0).1 (tf12_4 ha0).2 dX12_ring_35 rfl (fun v31 => ?_)
      refine x_ifeq (pt := 52) F dX12_ring_36 rfl rfl ?_ ?_
      · exact hK7
      · refine x_aload_n F dX12_ring_39 rfl rfl rfl ?_
        refine s_callVv F [] [] lkX12_195 mX12_readLine rfl ha0 rfl hnE hn0 hd (tX12_readLine cx.l x hi G5 a0 ha0) rfl rfl dX12_ring_40 rfl rfl (fun _ G32 => ?_)
        refine x_aload_n F dX12_ring_43 rfl rfl rfl ?_
        refine x_bipush F dX12_ring_44 ⟨by decide, by decide⟩ (by decide) rfl ?_
        refine s_callVv F [vI 59] [] lkX12_198 mX12_takeSign rfl ha0 rfl hnE hn0 hd (tX12_takeSign cx.l x hi G32 a0 59 ha0) rfl rfl dX12_ring_46 rfl rfl (fun _ G33 => ?_)
        refine x_goto (pc' := 20) F dX12_ring_49 rfl ?_
        exact hrc6 G33
    · exact hK7
