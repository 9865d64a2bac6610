theorem dJ3_checkIndex_8e157_0 : decode cJ3_checkIndex_8e157 0 = .ok (.iload_n 0, 1) := by decide +kernel
theorem dJ3_checkIndex_8e157_1 : decode cJ3_checkIndex_8e157 1 = .ok (.ifCond .lt 8, 3) := by decide +kernel
theorem dJ3_checkIndex_8e157_4 : decode cJ3_checkIndex_8e157 4 = .ok (.iload_n 0, 1) := by decide +kernel
theorem dJ3_checkIndex_8e157_5 : decode cJ3_checkIndex_8e157 5 = .ok (.iload_n 1, 1) := by decide +kernel
theorem dJ3_checkIndex_8e157_6 : decode cJ3_checkIndex_8e157 6 = .ok (.if_icmp .lt 10, 3) := by decide +kernel
theorem dJ3_checkIndex_8e157_9 : decode cJ3_checkIndex_8e157 9 = .ok (.aload_n 2, 1) := by decide +kernel
theorem dJ3_checkIndex_8e157_10 : decode cJ3_checkIndex_8e157 10 = .ok (.iload_n 0, 1) := by decide +kernel
theorem dJ3_checkIndex_8e157_11 : decode cJ3_checkIndex_8e157 11 = .ok (.iload_n 1, 1) := by decide +kernel
theorem dJ3_checkIndex_8e157_12 : decode cJ3_checkIndex_8e157 12 = .ok (.invokestatic 95, 3) := by decide +kernel
theorem dJ3_checkIndex_8e157_15 : decode cJ3_checkIndex_8e157 15 = .ok (.athrow, 1) := by decide +kernel
theorem dJ3_checkIndex_8e157_16 : decode cJ3_checkIndex_8e157 16 = .ok (.iload_n 0, 1) := by decide +kernel
theorem dJ3_checkIndex_8e157_17 : decode cJ3_checkIndex_8e157 17 = .ok (.ireturn, 1) := by decide +kernel
theorem dJ0_checkIndex_df160_0 : decode cJ0_checkIndex_df160 0 = .ok (.iload_n 0, 1) := by decide +kernel
theorem dJ0_checkIndex_df160_1 : decode cJ0_checkIndex_df160 1 = .ok (.iload_n 1, 1) := by decide +kernel
theorem dJ0_checkIndex_df160_2 : decode cJ0_checkIndex_df160 2 = .ok (.getstatic 1053, 3) := by decide +kernel
theorem dJ0_checkIndex_df160_5 : decode cJ0_checkIndex_df160 5 = .ok (.invokestatic 1059, 3) := by decide +kernel
theorem dJ0_checkIndex_df160_8 : decode cJ0_checkIndex_df160 8 = .ok (.pop, 1) := by decide +kernel
theorem dJ0_checkIndex_df160_9 : decode cJ0_checkIndex_df160 9 = .ok (.return_, 1) := by decide +kernel
set_option maxHeartbeats 4000000 in
/-- Preconditions.checkIndex, of an index that is in -/
theorem mJ3 (l : Launch) (a b : Int) (v : Value) (hv : v.category = 1) (ha : okI a) (hb : okI b) (h : 0 ≤ a ∧ a < b) : Met l yJ3_checkIndex_8e157 (Cond.code yJ3_checkIndex_8e157 cJ3_checkIndex_8e157 3 (some .int) :: gw) (rmd 0 0 0) (va_Pc [.int (Int32.ofInt a), .int (Int32.ofInt b), v] (fun _ => True)) (va_Qi (S := Unit) (fun _ _ => True) (fun _ _ => True) (fun _ => False)) 0 0 (fun _ => False) := by
  refine Met_ofF (cc := cJ3_checkIndex_8e157) (maxL := 3) (ret := some .int) (by decide +kernel) rfl ?_
  intro p e s m args below meth c s₁ B hml hv9
  obtain ⟨rfl, -⟩ := hv9
  have hx := B.exec
  have hbb := B.bytes
  have hr := B.returns
  have hlocks := B.notSynchronized
  have hS : va_S (fun _ => False) s.heap s.heap [] := va_S.rf
  have hl := lv_entry ([.int (Int32.ofInt a), .int (Int32.ofInt b), v]) (n := 3) (by rw [show lg_sl [.int (Int32.ofInt a), .int (Int32.ofInt b), v] = [.val (.int (Int32.ofInt a))] ++ ([.val (.int (Int32.ofInt b))] ++ ((if v.category = 2 then [.val v, .second] else [.val v]) ++ [])) from rfl, hv]; exact Nat.le_of_ble_eq_true rfl)
  rw [lg_entry_eq]
  generalize (lg_sl ([.int (Int32.ofInt a), .int (Int32.ofInt b), v]) ++ List.replicate (3 - (lg_sl ([.int (Int32.ofInt a), .int (Int32.ofInt b), v])).length) Slot.unset).toArray = ls at hl ⊢
  have hl0 : ls[0]? = some (.val (.int (Int32.ofInt a))) := hl.2.2 (0, _) List.mem_cons_self
  have hl1 : ls[1]? = some (.val (.int (Int32.ofInt b))) := hl.2.2 (1, _) (List.mem_cons_of_mem _ List.mem_cons_self)
  refine lv_iload_n hx hbb dJ3_checkIndex_8e157_0 rfl hl0 ?_
  refine lv_if_lt (tgt := 9) hx hbb dJ3_checkIndex_8e157_1 (by decide) (fun q => absurd ((o32_lt ha zok).mp q) (by omega)) (fun _ => ?_)
  refine lv_iload_n hx hbb dJ3_checkIndex_8e157_4 rfl hl0 ?_
  refine lv_iload_n hx hbb dJ3_checkIndex_8e157_5 rfl hl1 ?_
  refine lv_icmp_lt (tgt := 16) hx hbb dJ3_checkIndex_8e157_6 (by decide) (fun _ => ?_) (fun q => absurd ((o32_lt ha hb).mpr h.2) q)
  refine lv_iload_n hx hbb dJ3_checkIndex_8e157_16 rfl hl0 ?_
  exact W.iret (v := Int32.ofInt a) hx hbb hr (fun t ht hW => ⟨⟨_, (), rfl, trivial, trivial⟩, hS.F ht⟩) (fun _ hq => by cases hq) dJ3_checkIndex_8e157_17
def fJ0_checkIndex_df160 (a0 a1 : Int) (G : Hp) : RT := if 0 ≤ a0 ∧ a0 < a1 then rt 0 G else none
set_option maxHeartbeats 4000000 in
theorem tJ0_checkIndex_df160 {n : Nat} (hn9 : n ≤ 129) (l : Launch) (x : WX) (hi : Inj x.2.2) (G : Hp) (a0 : Int) (a1 : Int) : Ct l x yJ0_checkIndex_df160 cJ0_checkIndex_df160 2 none 1 n n [vI a0, vI a1] G (fJ0_checkIndex_df160 a0 a1 G) := by
  refine ct_of (by decide +kernel) hi (Nat.le_refl _) hn9 (Nat.le_of_ble_eq_true rfl) (fun cx F hd hn0 hnE hl hQ => ?_)
  subst hl
  have F : Fx cx x RJ0 cJ0_checkIndex_df160 2 none := F
  show Y cx x 2 none n 0 [(0, vI a0), (1, vI a1)] [] G _
  unfold fJ0_checkIndex_df160
  refine x_ite (fun h9 => ?_) (fun _ => Y_none)
  refine x_iload_n F dJ0_checkIndex_df160_0 rfl rfl rfl ?_
  refine x_iload_n F dJ0_checkIndex_df160_1 rfl rfl rfl ?_
  intro r G' ho hS hL hG H locs ls hP hV hl
  have fin : ∀ (v : Value), v.category = 1 → W cx.p cx.l cx.e cx.r cx.s cx.m cx.a cx.b cx.t cx.c H locs (n - cx.n0 + cx.kc) (sz n - sz cx.n0 + cx.ks) (cx.q r G') (F0 cx.m 5 ls (v :: .int (Int32.ofInt a1) :: .int (Int32.ofInt a0) :: [])) := by
    intro v hv
    have cb : CallB cx.r cx.s cx.a RJ0 1059 yJ3_checkIndex_8e157 cJ3_checkIndex_8e157 3 (some .int) (Cond.code yJ3_checkIndex_8e157 cJ3_checkIndex_8e157 3 (some .int) :: gw) (rmd 0 0 0) 0 0 3 := callB_of 3 F.2.2.2.2.2.1 (gw_code wd_1_69) rfl rfl rfl (F.2.2.2.2.2.1 _ wd_1_5) (F.2.2.2.2.2.1 _ wd_1_67) (by decide +kernel) ⟨by have hro := F.2.2.2.2.2.2.2.2.2.2.1; show 0 + 1 ≤ cx.r.frames; omega, by have hro := F.2.2.2.2.2.2.2.2.2.2.1; show 8 + (3 + 11) + 64 * 0 ≤ cx.r.locals; omega⟩
    have run := va_runS (e := cx.e) (below := cx.b) (meth := cx.t) (H := H) (locs := locs) (cells := n - cx.n0 + cx.kc) (slots := sz n - sz cx.n0 + cx.ks) (As := [.int (Int32.ofInt a0), .int (Int32.ofInt a1), v]) (rest := []) (g := F0 cx.m 5 ls (v :: .int (Int32.ofInt a1) :: .int (Int32.ofInt a0) :: [])) (Ts := gw) ⟨F.1, F.2.1, F.2.2.2.1, F.2.2.2.2.1, F.2.2.2.2.2.1⟩ (mJ3 cx.l a0 a1 v hv hS.2.1 hS.1 h9) ⟨cb, F.2.2.2.2.2.1 _ wd_1_68⟩ ⟨fun _ _ _ _ q => q, fun U hU hW => ⟨rfl, trivial⟩⟩ rfl rfl hl.1 rfl (lv_room (Nat.zero_le _)) dJ0_checkIndex_df160_5 ⟨by have hro := F.2.2.2.2.2.2.2.2.2.2.1; show n - cx.n0 + cx.kc + 0 ≤ cx.r.cells; omega, by have hro := F.2.2.2.2.2.2.2.2.2.2.1; show sz n - sz cx.n0 + cx.ks + 0 ≤ cx.r.slots; rw [hnE, hn0] at hro; rw [hn0]; omega⟩
    refine va_calli (a := #[]) run hV (fun q _ h => h.elim) (fun q h => h.elim) (fun v1 u t1 H1 locs1 ht1 hvm hpost hB hz hk1 hV1 => ?_)
    have hP1 : va_P x.1 vwCl (wo x n G) H1 := hP.kept (fun k q hk => hk1 q.1 (hP k q hk).lt (fun z => z))
    have y : Y cx x 2 none n 8 [(0, vI a0), (1, vI a1)] [vI v1.toInt] G (rt 0 G) := by
      refine x_pop F dJ0_checkIndex_df160_8 rfl rfl ?_
      exact x_vret F hnE hQ dJ0_checkIndex_df160_9
    have y' := y r G' ho ⟨toInt_ok _, trivial⟩ hL hG H1 locs1 ls hP1 hV1 hl
    rw [show cS x.2.2 [vI v1.toInt] = [.int v1] from by show [Value.int _] = _; rw [o32_toInt]] at y'
    exact y'
  rcases F.2.2.2.2.2.2.2.2.2.2.2.2.2.2.1 with hz | ⟨t9, hz⟩
  · exact va_gets F.1 F.2.1 hz hV F.2.2.2.2.1 (F.2.2.2.2.2.1 _ wd_1_65) (fun _ h9 => h9) dJ0_checkIndex_df160_2 (fin .null rfl)
  · exact va_gets F.1 F.2.1 hz hV F.2.2.2.2.1 (F.2.2.2.2.2.1 _ wd_1_65) (fun _ h9 => h9) dJ0_checkIndex_df160_2 (fin (.ref t9) rfl)
theorem dJ1_charAt_3b067_0 : decode cJ1_charAt_3b067 0 = .ok (.iload_n 1, 1) := by decide +kernel
theorem dJ1_charAt_3b067_1 : decode cJ1_charAt_3b067 1 = .ok (.aload_n 0, 1) := by decide +kernel
theorem dJ1_charAt_3b067_2 : decode cJ1_charAt_3b067 2 = .ok (.arraylength, 1) := by decide +kernel
theorem dJ1_charAt_3b067_3 : decode cJ1_charAt_3b067 3 = .ok (.invokestatic 9, 3) := by decide +kernel
theorem dJ1_charAt_3b067_6 : decode cJ1_charAt_3b067 6 = .ok (.aload_n 0, 1) := by decide +kernel
theorem dJ1_charAt_3b067_7 : decode cJ1_charAt_3b067 7 = .ok (.iload_n 1, 1) := by decide +kernel
theorem dJ1_charAt_3b067_8 : decode cJ1_charAt_3b067 8 = .ok (.baload, 1) := by decide +kernel
theorem dJ1_charAt_3b067_9 : decode cJ1_charAt_3b067 9 = .ok (.sipush 255, 3) := by decide +kernel
theorem dJ1_charAt_3b067_12 : decode cJ1_charAt_3b067 12 = .ok (.iand, 1) := by decide +kernel
theorem dJ1_charAt_3b067_13 : decode cJ1_charAt_3b067 13 = .ok (.i2c, 1) := by decide +kernel
theorem dJ1_charAt_3b067_14 : decode cJ1_charAt_3b067 14 = .ok (.ireturn, 1) := by decide +kernel
def fJ1_charAt_3b067 (a0 : Nat) (a1 : Int) (G : Hp) : RT := bn (fJ0_checkIndex_df160 a1 (((sLen.getD a0 0 : Nat) : Int)) G) fun _ G1 => br (rdS a0 a1) fun v3 => rch (i2c (iand v3 255)) G1
set_option maxRecDepth 20000 in
set_option maxHeartbeats 4000000 in
theorem tJ1_charAt_3b067 {n : Nat} (hn9 : n ≤ 129) (l : Launch) (x : WX) (hi : Inj x.2.2) (G : Hp) (a0 : Nat) (a1 : Int) (ha0 : a0 < 2) : Ct l x yJ1_charAt_3b067 cJ1_charAt_3b067 2 (some .char) 2 n n [vR ((300 + a0)), vI a1] G (fJ1_charAt_3b067 a0 a1 G) := by
  refine ct_of (by decide +kernel) hi (Nat.le_refl _) hn9 (Nat.le_of_ble_eq_true rfl) (fun cx F hd hn0 hnE hl hQ => ?_)
  subst hl
  have F : Fx cx x RJ1 cJ1_charAt_3b067 2 (some .char) := F
  show Y cx x 2 (some .char) n 0 [(0, vR ((300 + a0))), (1, vI a1)] [] G _
  unfold fJ1_charAt_3b067
  refine x_iload_n F dJ1_charAt_3b067_0 rfl rfl rfl ?_
  refine x_aload_n F dJ1_charAt_3b067_1 rfl rfl rfl ?_
  refine x_slen F ha0 dJ1_charAt_3b067_2 rfl ?_
  refine x_callSv (ty := .int) (as := [vI a1, vI (((sLen.getD a0 0 : Nat) : Int))]) (S := []) F lkJ1_9 mJ0_checkIndex_df160 (Nat.le_refl _) (Nat.le_of_eq hnE.symm) (Nat.le_of_eq hn0) (tJ0_checkIndex_df160 hn9 cx.l x hi G a1 (((sLen.getD a0 0 : Nat) : Int))) (le_d hd rfl) (Nat.le_of_ble_eq_true rfl) dJ1_charAt_3b067_3 rfl rfl (fun _ G1 => ?_)
  refine x_aload_n F dJ1_charAt_3b067_6 rfl rfl rfl ?_
  refine x_iload_n F dJ1_charAt_3b067_7 rfl rfl rfl ?_
  refine x_sbald F ha0 dJ1_charAt_3b067_8 rfl (fun v3 => ?_)
  refine x_sipush F dJ1_charAt_3b067_9 ⟨by decide, by decide⟩ (by decide) rfl ?_
  refine x_iand F dJ1_charAt_3b067_12 rfl ?_
  refine x_i2c F dJ1_charAt_3b067_13 rfl ?_
  exact x_cret F hnE hQ dJ1_charAt_3b067_14
theorem dJ0_charAt_5068e_0 : decode cJ0_charAt_5068e 0 = .ok (.aload_n 0, 1) := by decide +kernel
theorem dJ0_charAt_5068e_1 : decode cJ0_charAt_5068e 1 = .ok (.invokevirtual 492, 3) := by decide +kernel
theorem dJ0_charAt_5068e_4 : decode cJ0_charAt_5068e 4 = .ok (.ifCond .eq 12, 3) := by decide +kernel
theorem dJ0_charAt_5068e_7 : decode cJ0_charAt_5068e 7 = .ok (.aload_n 0, 1) := by decide +kernel
theorem dJ0_charAt_5068e_8 : decode cJ0_charAt_5068e 8 = .ok (.getfield 9, 3) := by decide +kernel
theorem dJ0_charAt_5068e_11 : decode cJ0_charAt_5068e 11 = .ok (.iload_n 1, 1) := by decide +kernel
theorem dJ0_charAt_5068e_12 : decode cJ0_charAt_5068e 12 = .ok (.invokestatic 495, 3) := by decide +kernel
theorem dJ0_charAt_5068e_15 : decode cJ0_charAt_5068e 15 = .ok (.ireturn, 1) := by decide +kernel
theorem dJ0_charAt_5068e_16 : decode cJ0_charAt_5068e 16 = .ok (.aload_n 0, 1) := by decide +kernel
theorem dJ0_charAt_5068e_17 : decode cJ0_charAt_5068e 17 = .ok (.getfield 9, 3) := by decide +kernel
theorem dJ0_charAt_5068e_20 : decode cJ0_charAt_5068e 20 = .ok (.iload_n 1, 1) := by decide +kernel
theorem dJ0_charAt_5068e_21 : decode cJ0_charAt_5068e 21 = .ok (.invokestatic 498, 3) := by decide +kernel
theorem dJ0_charAt_5068e_24 : decode cJ0_charAt_5068e 24 = .ok (.ireturn, 1) := by decide +kernel
def fJ0_charAt_5068e (a0 : Nat) (a1 : Int) (G : Hp) : RT := bp (fJ0_isLatin1_aae02 a0 G) fun v1 => if v1 = 0 then none else (bn (fJ1_charAt_3b067 a0 a1 G) fun v3 G2 => rch v3 G2)
set_option maxRecDepth 20000 in
set_option maxHeartbeats 4000000 in
theorem tJ0_charAt_5068e {n : Nat} (hn9 : n ≤ 129) (l : Launch) (x : WX) (hi : Inj x.2.2) (G : Hp) (a0 : Nat) (a1 : Int) (ha0 : a0 < 2) : Ct l x yJ0_charAt_5068e cJ0_charAt_5068e 2 (some .char) 3 n n [vR ((200 + a0)), vI a1] G (fJ0_charAt_5068e a0 a1 G) := by
  refine ct_of (by decide +kernel) hi (Nat.le_refl _) hn9 (Nat.le_of_ble_eq_true rfl) (fun cx F hd hn0 hnE hl hQ => ?_)
  subst hl
  have F : Fx cx x RJ0 cJ0_charAt_5068e 2 (some .char) := F
  show Y cx x 2 (some .char) n 0 [(0, vR ((200 + a0))), (1, vI a1)] [] G _
  unfold fJ0_charAt_5068e
  refine x_aload_n F dJ0_charAt_5068e_0 rfl rfl rfl ?_
  refine s_callTP F [] [] lkJ0_492 mJ0_isLatin1_aae02 rfl ha0 hnE hn0 hd pJ0_isLatin1_aae02 (tJ0_isLatin1_aae02 hn9 cx.l x hi G a0 ha0) rfl rfl dJ0_charAt_5068e_1 rfl rfl (fun v1 => ?_)
  refine x_ifeq (pt := 16) F dJ0_charAt_5068e_4 rfl rfl ?_ ?_
  · refine x_aload_n F dJ0_charAt_5068e_16 rfl rfl rfl ?_
    refine x_getVl F ha0 wd_9_226 dJ0_charAt_5068e_17 rfl ?_
    refine x_iload_n F dJ0_charAt_5068e_20 rfl rfl rfl ?_
    exact Y_none
  · refine x_aload_n F dJ0_charAt_5068e_7 rfl rfl rfl ?_
    refine x_getVl F ha0 wd_9_226 dJ0_charAt_5068e_8 rfl ?_
    refine x_iload_n F dJ0_charAt_5068e_11 rfl rfl rfl ?_
    refine x_callS (as := [vR ((300 + a0)), vI a1]) (S := []) F lkJ0_495 mJ1_charAt_3b067 (Nat.le_refl _) (Nat.le_of_eq hnE.symm) (Nat.le_of_eq hn0) (tJ1_charAt_3b067 hn9 cx.l x hi G a0 a1 ha0) (le_d hd rfl) (Nat.le_of_ble_eq_true rfl) dJ0_charAt_5068e_12 rfl rfl (fun v3 G2 => ?_)
    exact x_cret F hnE hQ dJ0_charAt_5068e_15
theorem dX7_init_0 : decode cX7_init 0 = .ok (.aload_n 0, 1) := by decide +kernel
theorem dX7_init_1 : decode cX7_init 1 = .ok (.invokespecial 3, 3) := by decide +kernel
theorem dX7_init_4 : decode cX7_init 4 = .ok (.aload_n 0, 1) := by decide +kernel
theorem dX7_init_5 : decode cX7_init 5 = .ok (.sipush 1000, 3) := by decide +kernel
theorem dX7_init_8 : decode cX7_init 8 = .ok (.newarray .char, 2) := by decide +kernel
theorem dX7_init_10 : decode cX7_init 10 = .ok (.putfield 9, 3) := by decide +kernel
theorem dX7_init_13 : decode cX7_init 13 = .ok (.aload_n 0, 1) := by decide +kernel
theorem dX7_init_14 : decode cX7_init 14 = .ok (.bipush 25, 2) := by decide +kernel
theorem dX7_init_16 : decode cX7_init 16 = .ok (.newarray .long, 2) := by decide +kernel
theorem dX7_init_18 : decode cX7_init 18 = .ok (.putfield 15, 3) := by decide +kernel
theorem dX7_init_21 : decode cX7_init 21 = .ok (.iconst 0, 1) := by decide +kernel
theorem dX7_init_22 : decode cX7_init 22 = .ok (.istore_n 1, 1) := by decide +kernel
theorem dX7_init_23 : decode cX7_init 23 = .ok (.iconst 0, 1) := by decide +kernel
theorem dX7_init_24 : decode cX7_init 24 = .ok (.istore_n 2, 1) := by decide +kernel
theorem dX7_init_25 : decode cX7_init 25 = .ok (.iload_n 2, 1) := by decide +kernel
theorem dX7_init_26 : decode cX7_init 26 = .ok (.ldc 19, 2) := by decide +kernel
theorem dX7_init_28 : decode cX7_init 28 = .ok (.invokevirtual 21, 3) := by decide +kernel
theorem dX7_init_31 : decode cX7_init 31 = .ok (.if_icmp .ge 58, 3) := by decide +kernel
theorem dX7_init_34 : decode cX7_init 34 = .ok (.iload_n 1, 1) := by decide +kernel
theorem dX7_init_35 : decode cX7_init 35 = .ok (.bipush 25, 2) := by decide +kernel
theorem dX7_init_37 : decode cX7_init 37 = .ok (.if_icmp .ge 52, 3) := by decide +kernel
theorem dX7_init_40 : decode cX7_init 40 = .ok (.ldc 19, 2) := by decide +kernel
theorem dX7_init_42 : decode cX7_init 42 = .ok (.iload_n 2, 1) := by decide +kernel
theorem dX7_init_43 : decode cX7_init 43 = .ok (.invokevirtual 27, 3) := by decide +kernel
theorem dX7_init_46 : decode cX7_init 46 = .ok (.istore_n 3, 1) := by decide +kernel
theorem dX7_init_47 : decode cX7_init 47 = .ok (.iload_n 3, 1) := by decide +kernel
theorem dX7_init_48 : decode cX7_init 48 = .ok (.bipush 32, 2) := by decide +kernel
theorem dX7_init_50 : decode cX7_init 50 = .ok (.if_icmp .ne 9, 3) := by decide +kernel
theorem dX7_init_53 : decode cX7_init 53 = .ok (.iinc 1 1, 3) := by decide +kernel
theorem dX7_init_56 : decode cX7_init 56 = .ok (.goto 27, 3) := by decide +kernel
theorem dX7_init_59 : decode cX7_init 59 = .ok (.aload_n 0, 1) := by decide +kernel
theorem dX7_init_60 : decode cX7_init 60 = .ok (.getfield 15, 3) := by decide +kernel
theorem dX7_init_63 : decode cX7_init 63 = .ok (.iload_n 1, 1) := by decide +kernel
theorem dX7_init_64 : decode cX7_init 64 = .ok (.aload_n 0, 1) := by decide +kernel
theorem dX7_init_65 : decode cX7_init 65 = .ok (.getfield 15, 3) := by decide +kernel
theorem dX7_init_68 : decode cX7_init 68 = .ok (.iload_n 1, 1) := by decide +kernel
theorem dX7_init_69 : decode cX7_init 69 = .ok (.laload, 1) := by decide +kernel
theorem dX7_init_70 : decode cX7_init 70 = .ok (.ldc2_w 31, 3) := by decide +kernel
theorem dX7_init_73 : decode cX7_init 73 = .ok (.lmul, 1) := by decide +kernel
theorem dX7_init_74 : decode cX7_init 74 = .ok (.iload_n 3, 1) := by decide +kernel
theorem dX7_init_75 : decode cX7_init 75 = .ok (.bipush 97, 2) := by decide +kernel
theorem dX7_init_77 : decode cX7_init 77 = .ok (.isub, 1) := by decide +kernel
theorem dX7_init_78 : decode cX7_init 78 = .ok (.iconst 1, 1) := by decide +kernel
theorem dX7_init_79 : decode cX7_init 79 = .ok (.iadd, 1) := by decide +kernel
theorem dX7_init_80 : decode cX7_init 80 = .ok (.i2l, 1) := by decide +kernel
theorem dX7_init_81 : decode cX7_init 81 = .ok (.ladd, 1) := by decide +kernel
theorem dX7_init_82 : decode cX7_init 82 = .ok (.lastore, 1) := by decide +kernel
theorem dX7_init_83 : decode cX7_init 83 = .ok (.iinc 2 1, 3) := by decide +kernel
theorem dX7_init_86 : decode cX7_init 86 = .ok (.goto (-61), 3) := by decide +kernel
theorem dX7_init_89 : decode cX7_init 89 = .ok (.return_, 1) := by decide +kernel
noncomputable def iX7_init (a0 : Nat) (n : Nat) (G : Hp) : RT := na n 22 1000 (bh (clr G n) fun G1 => pf a0 0 n (bh (up G1 a0 0 1) fun G4 => na (n + 1) 21 25 (bh (clr G4 (n + 1)) fun G5 => pf a0 1 ((n + 1)) (bh (up G5 a0 1 1) fun G8 => bd 0 fun v9 => bd 0 fun v10 => (lp (fun (_ : Int) (_ : Int) (_ : Hp) => (none : RT)) 5000 (fun (rc14 : Int → Int → Hp → RT) (v11 : Int) (v12 : Int) (G13 : Hp) => bn (fJ0_length_8abf5 0 G13) fun v15 G16 => if v12 < v15 then (if v11 < 25 then (bn (fJ0_charAt_5068e 0 v12 G16) fun v17 G18 => bd v17 fun v19 => jn (fun (v20 : Int) (G21 : Hp) => bd (iadd v12 1) fun v23 => rc14 v20 v23 G21) fun (K22 : Int → Hp → RT) => if v19 = 32 then (bd (iadd v11 1) fun v28 => K22 v28 G18) else (gr G18 a0 1 (gr G18 a0 1 (if (rf a0 1) < (n + 2) then (br (rd G18 ((rf a0 1)) 25 v11) fun v24 => if (rf a0 1) < (n + 2) then (bs (wr G18 ((rf a0 1)) 25 v11 (ladd (lmul v24 32) (iadd (isub v19 97) 1))) fun G25 => K22 v11 G25) else none) else none)))) else (ve (n + 2) (n + 2) G16)) else (ve (n + 2) (n + 2) G16))) v9 v10 G8))))
set_option maxRecDepth 20000 in
set_option maxHeartbeats 4000000 in
theorem kX7_init (l : Launch) (x : WX) (hi : Inj x.2.2) (had : ∀ c, c ≤ 129 → x.2.2 c = x.2.2 0 + c) (n : Nat) (G : Hp) (a0 : Nat) (ha0 : kd a0 = 7) (hl0 : a0 < n) (hn : n + 2 < 129) : CtC l x yX7_init cX7_init 4 4 n (n + 2) [vR a0] G (iX7_init a0 n G) := by
  refine ctc_of (plainFor_of_name (by decide)) rfl hi had (by omega) (by omega) (Nat.le_of_ble_eq_true rfl) (fun cx F hd hn0 hnE hl hQ hB hI => ?_)
  subst hl
  have F : Fx cx x RX7 cX7_init 4 none := F
  show Y cx x 4 none n 0 [(0, vR a0)] [] G _
  unfold iX7_init
  refine x_aload_n F dX7_init_0 rfl rfl rfl ?_
  refine x_objI F lkX7_3 wd_1_32 wd_1_33 (le_d (d' := 0) hd rfl) (Nat.le_of_ble_eq_true rfl) dX7_init_1 rfl ?_
  refine x_aload_n F dX7_init_4 rfl rfl rfl ?_
  refine x_sipush F dX7_init_5 ⟨by decide, by decide⟩ (by decide) rfl ?_
  refine x_newaC F hB (by omega) (by omega) (by omega) wd_1_128 dX7_init_8 rfl (fun h2 h3 G1 => ?_)
  refine x_putFR F hI ffX7_9 ha0 (by omega) (by omega) rfl rfl dX7_init_10 rfl (fun G4 => ?_)
  refine x_aload_n F dX7_init_13 rfl rfl rfl ?_
  refine x_bipush F dX7_init_14 ⟨by decide, by decide⟩ (by decide) rfl ?_
  refine x_newaJ F hB (by omega) (by omega) (by omega) wd_1_129 dX7_init_16 rfl (fun h6 h7 G5 => ?_)
  refine x_putFR F hI ffX7_15 ha0 (by omega) (by omega) rfl rfl dX7_init_18 rfl (fun G8 => ?_)
  refine x_iconst F dX7_init_21 ⟨by decide, by decide⟩ rfl ?_
  refine x_istore_n F dX7_init_22 rfl (by decide) rfl rfl (fun v9 => ?_)
  show Y cx x _ _ _ _ [(0, vR a0), (1, vI v9)] _ _ _
  refine x_iconst F dX7_init_23 ⟨by decide, by decide⟩ rfl ?_
  refine x_istore_n F dX7_init_24 rfl (by decide) rfl rfl (fun v10 => ?_)
  show Y cx x _ _ _ _ [(0, vR a0), (1, vI v9), (2, vI v10)] _ _ _
  refine x_lp (fun (rc14 : Int → Int → Hp → RT) => ∀ (v11 : Int) (v12 : Int) (G13 : Hp), Y cx x 4 none (n + 2) 25 [(0, vR a0), (1, vI v11), (2, vI v12)] [] G13 (rc14 v11 v12 G13)) (fun _ _ _ => Y_none) (fun rc14 hrc14 v11 v12 G13 => ?_) 5000 v9 v10 G8
  refine x_iload_n F dX7_init_25 rfl rfl rfl ?_
  refine x_ldcS F 0 (by decide) rfl dX7_init_26 rfl ?_
  refine x_callT (t := 200 + 0) (as := []) (S := [vI v12]) F lkX7_21 mJ0_length_8abf5 (fun H locs hV => vk_recv (adK := fun i => x.2.2 (200 + i)) (i := 0) F.2.2.2.2.2.2.2.2.2.2.2.1 (by decide) hV) (Nat.le_refl _) (by omega) (by omega) (tJ0_length_8abf5 (by omega) cx.l x hi G13 0 (by decide)) (le_d hd rfl) (Nat.le_of_ble_eq_true rfl) dX7_init_28 rfl rfl (fun v15 G16 => ?_)
  refine x_icmpge (pt := 89) F dX7_init_31 rfl rfl ?_ ?_
  · refine x_iload_n F dX7_init_34 rfl rfl rfl ?_
    refine x_bipush F dX7_init_35 ⟨by decide, by decide⟩ (by decide) rfl ?_
    refine x_icmpge (pt := 89) F dX7_init_37 rfl rfl ?_ ?_
    · refine x_ldcS F 0 (by decide) rfl dX7_init_40 rfl ?_
      refine x_iload_n F dX7_init_42 rfl rfl rfl ?_
      refine x_callT (t := 200 + 0) (as := [vI v12]) (S := []) F lkX7_27 mJ0_charAt_5068e (fun H locs hV => vk_recv (adK := fun i => x.2.2 (200 + i)) (i := 0) F.2.2.2.2.2.2.2.2.2.2.2.1 (by decide) hV) (Nat.le_refl _) (by omega) (by omega) (tJ0_charAt_5068e (by omega) cx.l x hi G16 0 v12 (by decide)) (le_d hd rfl) (Nat.le_of_ble_eq_true rfl) dX7_init_43 rfl rfl (fun v17 G18 => ?_)
      refine x_istore_n F dX7_init_46 rfl (by decide) rfl rfl (fun v19 => ?_)
      show Y cx x _ _ _ _ [(0, vR a0), (1, vI v11), (2, vI v12), (3, vI v19)] _ _ _
      refine x_iload_n F dX7_init_47 rfl rfl rfl ?_
      refine x_bipush F dX7_init_48 ⟨by decide, by decide⟩ (by decide) rfl ?_
      refine x_jn (fun (K22 : Int → Hp → RT) => ∀ (v20 : Int) (G21 : Hp), Y cx x 4 none (n + 2) 83 [(0, vR a0), (1, vI v20), (2, vI v12)] [] G21 (K22 v20 G21)) ?_ (fun K22 hK22 => ?_)
      · intro v20 G21
        refine x_iinc F dX7_init_83 rfl (by decide) rfl rfl (fun v23 => ?_)
        show Y cx x _ _ _ _ [(0, vR a0), (1, vI v20), (2, vI v23)] _ _ _
        refine x_goto (pc' := 25) F dX7_init_86 rfl ?_
        exact hrc14 v20 v23 G21
      · refine x_icmpne (pt := 59) F dX7_init_50 rfl rfl ?_ ?_
        · refine x_iinc F dX7_init_53 rfl (by decide) rfl rfl (fun v28 => ?_)
          show Y cx x _ _ _ _ [(0, vR a0), (1, vI v28), (2, vI v12), (3, vI v19)] _ _ _
          refine x_goto (pc' := 83) F dX7_init_56 rfl ?_
          refine x_dp (L' := [(0, vR a0), (1, vI v28), (2, vI v12)]) [0, 1, 2] rfl ?_
          exact hK22 v28 G18
        · refine x_aload_n F dX7_init_59 rfl rfl rfl ?_
          refine x_getRc F flX7_15 ha0 (by omega) (by omega) rfl dX7_init_60 rfl ?_
          refine x_iload_n F dX7_init_63 rfl rfl rfl ?_
          refine x_aload_n F dX7_init_64 rfl rfl rfl ?_
          refine x_getRc F flX7_15 ha0 (by omega) (by omega) rfl dX7_init_65 rfl ?_
          refine x_iload_n F dX7_init_68 rfl rfl rfl ?_
          refine x_ite (fun h27 => ?_) (fun _ => Y_none)
          refine x_lald F (tf7_1 ha0).1 (tf7_1 ha0).2 (by omega) dX7_init_69 rfl (fun v24 => ?_)
          refine x_ldc2 (v := 32) F kjX7_31 dX7_init_70 ⟨by decide, by decide⟩ (by decide) rfl ?_
          refine x_lmul F dX7_init_73 rfl ?_
          refine x_iload_n F dX7_init_74 rfl rfl rfl ?_
          refine x_bipush F dX7_init_75 ⟨by decide, by decide⟩ (by decide) rfl ?_
          refine x_isub F dX7_init_77 rfl ?_
          refine x_iconst F dX7_init_78 ⟨by decide, by decide⟩ rfl ?_
          refine x_iadd F dX7_init_79 rfl ?_
          refine x_i2l F dX7_init_80 rfl ?_
          refine x_ladd F dX7_init_81 rfl ?_
          refine x_ite (fun h26 => ?_) (fun _ => Y_none)
          refine x_last F (tf7_1 ha0).1 (tf7_1 ha0).2 (by omega) (by omega) dX7_init_82 rfl (fun G25 => ?_)
          refine x_dp (L' := [(0, vR a0), (1, vI v11), (2, vI v12)]) [0, 1, 2] rfl ?_
          exact hK22 v11 G25
    · exact x_vretC F hQ hnE dX7_init_89
  · exact x_vretC F hQ hnE dX7_init_89
theorem dX11_init_0 : decode cX11_init 0 = .ok (.aload_n 0, 1) := by decide +kernel
theorem dX11_init_1 : decode cX11_init 1 = .ok (.invokespecial 1, 3) := by decide +kernel
theorem dX11_init_4 : decode cX11_init 4 = .ok (.aload_n 0, 1) := by decide +kernel
theorem dX11_init_5 : decode cX11_init 5 = .ok (.new 7, 3) := by decide +kernel
theorem dX11_init_8 : decode cX11_init 8 = .ok (.dup, 1) := by decide +kernel
theorem dX11_init_9 : decode cX11_init 9 = .ok (.invokespecial 9, 3) := by decide +kernel
theorem dX11_init_12 : decode cX11_init 12 = .ok (.putfield 10, 3) := by decide +kernel
theorem dX11_init_15 : decode cX11_init 15 = .ok (.aload_n 0, 1) := by decide +kernel
theorem dX11_init_16 : decode cX11_init 16 = .ok (.new 16, 3) := by decide +kernel
theorem dX11_init_19 : decode cX11_init 19 = .ok (.dup, 1) := by decide +kernel
theorem dX11_init_20 : decode cX11_init 20 = .ok (.invokespecial 18, 3) := by decide +kernel
theorem dX11_init_23 : decode cX11_init 23 = .ok (.putfield 19, 3) := by decide +kernel
theorem dX11_init_26 : decode cX11_init 26 = .ok (.aload_n 0, 1) := by decide +kernel
theorem dX11_init_27 : decode cX11_init 27 = .ok (.new 23, 3) := by decide +kernel
theorem dX11_init_30 : decode cX11_init 30 = .ok (.dup, 1) := by decide +kernel
theorem dX11_init_31 : decode cX11_init 31 = .ok (.aload_n 0, 1) := by decide +kernel
theorem dX11_init_32 : decode cX11_init 32 = .ok (.getfield 10, 3) := by decide +kernel
theorem dX11_init_35 : decode cX11_init 35 = .ok (.invokespecial 25, 3) := by decide +kernel
theorem dX11_init_38 : decode cX11_init 38 = .ok (.putfield 28, 3) := by decide +kernel
theorem dX11_init_41 : decode cX11_init 41 = .ok (.aload_n 0, 1) := by decide +kernel
theorem dX11_init_42 : decode cX11_init 42 = .ok (.new 32, 3) := by decide +kernel
theorem dX11_init_45 : decode cX11_init 45 = .ok (.dup, 1) := by decide +kernel
theorem dX11_init_46 : decode cX11_init 46 = .ok (.invokespecial 34, 3) := by decide +kernel
theorem dX11_init_49 : decode cX11_init 49 = .ok (.putfield 35, 3) := by decide +kernel
theorem dX11_init_52 : decode cX11_init 52 = .ok (.aload_n 0, 1) := by decide +kernel
theorem dX11_init_53 : decode cX11_init 53 = .ok (.new 32, 3) := by decide +kernel
theorem dX11_init_56 : decode cX11_init 56 = .ok (.dup, 1) := by decide +kernel
theorem dX11_init_57 : decode cX11_init 57 = .ok (.invokespecial 34, 3) := by decide +kernel
theorem dX11_init_60 : decode cX11_init 60 = .ok (.putfield 39, 3) := by decide +kernel
theorem dX11_init_63 : decode cX11_init 63 = .ok (.aload_n 0, 1) := by decide +kernel
theorem dX11_init_64 : decode cX11_init 64 = .ok (.new 42, 3) := by decide +kernel
theorem dX11_init_67 : decode cX11_init 67 = .ok (.dup, 1) := by decide +kernel
theorem dX11_init_68 : decode cX11_init 68 = .ok (.invokespecial 44, 3) := by decide +kernel
theorem dX11_init_71 : decode cX11_init 71 = .ok (.putfield 45, 3) := by decide +kernel
theorem dX11_init_74 : decode cX11_init 74 = .ok (.aload_n 0, 1) := by decide +kernel
theorem dX11_init_75 : decode cX11_init 75 = .ok (.new 49, 3) := by decide +kernel
theorem dX11_init_78 : decode cX11_init 78 = .ok (.dup, 1) := by decide +kernel
theorem dX11_init_79 : decode cX11_init 79 = .ok (.aload_n 0, 1) := by decide +kernel
theorem dX11_init_80 : decode cX11_init 80 = .ok (.getfield 19, 3) := by decide +kernel
theorem dX11_init_83 : decode cX11_init 83 = .ok (.aload_n 0, 1) := by decide +kernel
theorem dX11_init_84 : decode cX11_init 84 = .ok (.getfield 45, 3) := by decide +kernel
theorem dX11_init_87 : decode cX11_init 87 = .ok (.invokespecial 51, 3) := by decide +kernel
theorem dX11_init_90 : decode cX11_init 90 = .ok (.putfield 54, 3) := by decide +kernel
theorem dX11_init_93 : decode cX11_init 93 = .ok (.aload_n 0, 1) := by decide +kernel
theorem dX11_init_94 : decode cX11_init 94 = .ok (.new 58, 3) := by decide +kernel
theorem dX11_init_97 : decode cX11_init 97 = .ok (.dup, 1) := by decide +kernel
theorem dX11_init_98 : decode cX11_init 98 = .ok (.aload_n 0, 1) := by decide +kernel
theorem dX11_init_99 : decode cX11_init 99 = .ok (.getfield 19, 3) := by decide +kernel
theorem dX11_init_102 : decode cX11_init 102 = .ok (.aload_n 0, 1) := by decide +kernel
theorem dX11_init_103 : decode cX11_init 103 = .ok (.getfield 45, 3) := by decide +kernel
theorem dX11_init_106 : decode cX11_init 106 = .ok (.aload_n 0, 1) := by decide +kernel
theorem dX11_init_107 : decode cX11_init 107 = .ok (.getfield 54, 3) := by decide +kernel
theorem dX11_init_110 : decode cX11_init 110 = .ok (.invokespecial 60, 3) := by decide +kernel
theorem dX11_init_113 : decode cX11_init 113 = .ok (.putfield 63, 3) := by decide +kernel
theorem dX11_init_116 : decode cX11_init 116 = .ok (.aload_n 0, 1) := by decide +kernel
theorem dX11_init_117 : decode cX11_init 117 = .ok (.new 67, 3) := by decide +kernel
theorem dX11_init_120 : decode cX11_init 120 = .ok (.dup, 1) := by decide +kernel
theorem dX11_init_121 : decode cX11_init 121 = .ok (.aload_n 0, 1) := by decide +kernel
theorem dX11_init_122 : decode cX11_init 122 = .ok (.getfield 19, 3) := by decide +kernel
theorem dX11_init_125 : decode cX11_init 125 = .ok (.aload_n 0, 1) := by decide +kernel
theorem dX11_init_126 : decode cX11_init 126 = .ok (.getfield 45, 3) := by decide +kernel
theorem dX11_init_129 : decode cX11_init 129 = .ok (.aload_n 0, 1) := by decide +kernel
theorem dX11_init_130 : decode cX11_init 130 = .ok (.getfield 54, 3) := by decide +kernel
theorem dX11_init_133 : decode cX11_init 133 = .ok (.invokespecial 69, 3) := by decide +kernel
theorem dX11_init_136 : decode cX11_init 136 = .ok (.putfield 70, 3) := by decide +kernel
theorem dX11_init_139 : decode cX11_init 139 = .ok (.aload_n 0, 1) := by decide +kernel
theorem dX11_init_140 : decode cX11_init 140 = .ok (.new 74, 3) := by decide +kernel
theorem dX11_init_143 : decode cX11_init 143 = .ok (.dup, 1) := by decide +kernel
theorem dX11_init_144 : decode cX11_init 144 = .ok (.aload_n 0, 1) := by decide +kernel
theorem dX11_init_145 : decode cX11_init 145 = .ok (.getfield 19, 3) := by decide +kernel
theorem dX11_init_148 : decode cX11_init 148 = .ok (.aload_n 0, 1) := by decide +kernel
theorem dX11_init_149 : decode cX11_init 149 = .ok (.getfield 45, 3) := by decide +kernel
theorem dX11_init_152 : decode cX11_init 152 = .ok (.aload_n 0, 1) := by decide +kernel
theorem dX11_init_153 : decode cX11_init 153 = .ok (.getfield 63, 3) := by decide +kernel
theorem dX11_init_156 : decode cX11_init 156 = .ok (.aload_n 0, 1) := by decide +kernel
theorem dX11_init_157 : decode cX11_init 157 = .ok (.getfield 70, 3) := by decide +kernel
theorem dX11_init_160 : decode cX11_init 160 = .ok (.invokespecial 76, 3) := by decide +kernel
theorem dX11_init_163 : decode cX11_init 163 = .ok (.putfield 79, 3) := by decide +kernel
theorem dX11_init_166 : decode cX11_init 166 = .ok (.aload_n 0, 1) := by decide +kernel
theorem dX11_init_167 : decode cX11_init 167 = .ok (.new 83, 3) := by decide +kernel
theorem dX11_init_170 : decode cX11_init 170 = .ok (.dup, 1) := by decide +kernel
theorem dX11_init_171 : decode cX11_init 171 = .ok (.invokespecial 85, 3) := by decide +kernel
theorem dX11_init_174 : decode cX11_init 174 = .ok (.putfield 86, 3) := by decide +kernel
theorem dX11_init_177 : decode cX11_init 177 = .ok (.aload_n 0, 1) := by decide +kernel
theorem dX11_init_178 : decode cX11_init 178 = .ok (.new 90, 3) := by decide +kernel
theorem dX11_init_181 : decode cX11_init 181 = .ok (.dup, 1) := by decide +kernel
theorem dX11_init_182 : decode cX11_init 182 = .ok (.invokespecial 92, 3) := by decide +kernel
theorem dX11_init_185 : decode cX11_init 185 = .ok (.putfield 93, 3) := by decide +kernel
theorem dX11_init_188 : decode cX11_init 188 = .ok (.return_, 1) := by decide +kernel
noncomputable def iX11_init (a0 : Nat) (n : Nat) (G : Hp) : RT := no n 7 (bh (clr G n) fun G1 => bn (iX7_init n (n + 1) G1) fun _ G3 => pf a0 0 n (bh (up G3 a0 0 1) fun G4 => no (n + 3) 8 (bh (clr G4 (n + 3)) fun G5 => bn (iX8_init ((n + 3)) (n + 4) G5) fun _ G7 => pf a0 1 ((n + 3)) (bh (up G7 a0 1 1) fun G8 => no (n + 10) 4 (bh (clr G8 (n + 10)) fun G9 => gr G9 a0 0 (if (rf a0 0) < (n + 11) then (bn (iX4_init ((n + 10)) ((rf a0 0)) (n + 11) G9) fun _ G11 => pf a0 2 ((n + 10)) (bh (up G11 a0 2 1) fun G12 => no (n + 18) 10 (bh (clr G12 (n + 18)) fun G13 => bn (iX10_init ((n + 18)) (n + 19) G13) fun _ G15 => pf a0 3 ((n + 18)) (bh (up G15 a0 3 1) fun G16 => no (n + 22) 10 (bh (clr G16 (n + 22)) fun G17 => bn (iX10_init ((n + 22)) (n + 23) G17) fun _ G19 => pf a0 4 ((n + 22)) (bh (up G19 a0 4 1) fun G20 => no (n + 26) 6 (bh (clr G20 (n + 26)) fun G21 => bn (iX6_init ((n + 26)) (n + 27) G21) fun _ G23 => pf a0 5 ((n + 26)) (bh (up G23 a0 5 1) fun G24 => no (n + 28) 1 (bh (clr G24 (n + 28)) fun G25 => gr G25 a0 1 (gr G25 a0 5 (if (rf a0 1) < (n + 29) then (if (rf a0 5) < (n + 29) then (bn (iX1_init ((n + 28)) ((rf a0 1)) ((rf a0 5)) (n + 29) G25) fun _ G27 => pf a0 6 ((n + 28)) (bh (up G27 a0 6 1) fun G28 => no (n + 30) 0 (bh (clr G28 (n + 30)) fun G29 => gr G29 a0 1 (gr G29 a0 5 (gr G29 a0 6 (if (rf a0 1) < (n + 31) then (if (rf a0 5) < (n + 31) then (if (rf a0 6) < (n + 31) then (bn (iX0_init ((n + 30)) ((rf a0 1)) ((rf a0 5)) ((rf a0 6)) (n + 31) G29) fun _ G31 => pf a0 7 ((n + 30)) (bh (up G31 a0 7 1) fun G32 => no (n + 32) 2 (bh (clr G32 (n + 32)) fun G33 => gr G33 a0 1 (gr G33 a0 5 (gr G33 a0 6 (if (rf a0 1) < (n + 33) then (if (rf a0 5) < (n + 33) then (if (rf a0 6) < (n + 33) then (bn (iX2_init ((n + 32)) ((rf a0 1)) ((rf a0 5)) ((rf a0 6)) (n + 33) G33) fun _ G35 => pf a0 8 ((n + 32)) (bh (up G35 a0 8 1) fun G36 => no (n + 33) 9 (bh (clr G36 (n + 33)) fun G37 => gr G37 a0 1 (gr G37 a0 5 (gr G37 a0 7 (gr G37 a0 8 (if (rf a0 1) < (n + 34) then (if (rf a0 5) < (n + 34) then (if (rf a0 7) < (n + 34) then (if (rf a0 8) < (n + 34) then (bn (iX9_init ((n + 33)) ((rf a0 1)) ((rf a0 5)) ((rf a0 7)) ((rf a0 8)) (n + 34) G37) fun _ G39 => pf a0 9 ((n + 33)) (bh (up G39 a0 9 1) fun G40 => no (n + 38) 5 (bh (clr G40 (n + 38)) fun G41 => bn (iX5_init ((n + 38)) (n + 39) G41) fun _ G43 => pf a0 10 ((n + 38)) (bh (up G43 a0 10 1) fun G44 => no (n + 43) 3 (bh (clr G44 (n + 43)) fun G45 => bn (iX3_init ((n + 43)) (n + 44) G45) fun _ G47 => pf a0 11 ((n + 43)) (bh (up G47 a0 11 1) fun G48 => ve (n + 110) (n + 110) G48)))))) else none) else none) else none) else none))))))) else none) else none) else none)))))) else none) else none) else none)))))) else none) else none))))))))))) else none))))))
set_option maxRecDepth 20000 in
set_option maxHeartbeats 4000000 in
theorem kX11_init (l : Launch) (x : WX) (hi : Inj x.2.2) (had : ∀ c, c ≤ 129 → x.2.2 c = x.2.2 0 + c) (n : Nat) (G : Hp) (a0 : Nat) (ha0 : kd a0 = 11) (hl0 : a0 < n) (hn : n + 110 < 129) : CtC l x yX11_init cX11_init 1 5 n (n + 110) [vR a0] G (iX11_init a0 n G) := by
  refine ctc_of (plainFor_of_name (by decide)) rfl hi had (by omega) (by omega) (Nat.le_of_ble_eq_true rfl) (fun cx F hd hn0 hnE hl hQ hB hI => ?_)
  subst hl
  have F : Fx cx x RX11 cX11_init 1 none := F
  show Y cx x 1 none n 0 [(0, vR a0)] [] G _
  unfold iX11_init
  refine x_aload_n F dX11_init_0 rfl rfl rfl ?_
  refine x_objI F lkX11_1 wd_1_32 wd_1_33 (le_d (d' := 0) hd rfl) (Nat.le_of_ble_eq_true rfl) dX11_init_1 rfl ?_
  refine x_aload_n F dX11_init_4 rfl rfl rfl ?_
  refine x_newO F hB nwX11_7 (by omega) (by omega) (by omega) dX11_init_5 rfl (fun h2 G1 => ?_)
  refine x_dup F dX11_init_8 rfl rfl ?_
  refine x_callC (f := fun G3 => _) (as := []) (S := [vR n, vR a0]) F hB lkX11_9 rfl wd_1_37 wd_1_2 mcX7_init (by decide +kernel : yX7_init.cls ≠ "java/lang/invoke/MethodHandle" ∧ yX7_init.cls ≠ "java/lang/invoke/VarHandle" ∧ (parseMethodDescriptor yX7_init.desc).map (fun d => d.parameters.length) = some 0) (by decide) (by omega) (by omega) (by omega) (by omega) (kX7_init cx.l x hi had (n + 1) G1 n h2 (by omega) (by omega)) (le_d hd rfl) (Nat.le_of_ble_eq_true rfl) dX11_init_9 rfl rfl (fun G3 => ?_)
  refine x_putFR F hI ffX11_10 ha0 (by omega) (by omega) rfl rfl dX11_init_12 rfl (fun G4 => ?_)
  refine x_aload_n F dX11_init_15 rfl rfl rfl ?_
  refine x_newO F hB nwX11_16 (by omega) (by omega) (by omega) dX11_init_16 rfl (fun h6 G5 => ?_)
  refine x_dup F dX11_init_19 rfl rfl ?_
  refine x_callC (f := fun G7 => _) (as := []) (S := [vR ((n + 3)), vR a0]) F hB lkX11_18 rfl wd_1_134 wd_1_7 mcX8_init (by decide +kernel : yX8_init.cls ≠ "java/lang/invoke/MethodHandle" ∧ yX8_init.cls ≠ "java/lang/invoke/VarHandle" ∧ (parseMethodDescriptor yX8_init.desc).map (fun d => d.parameters.length) = some 0) (by decide) (by omega) (by omega) (by omega) (by omega) (kX8_init cx.l x hi had (n + 4) G5 ((n + 3)) h6 (by omega) (by omega)) (le_d hd rfl) (Nat.le_of_ble_eq_true rfl) dX11_init_20 rfl rfl (fun G7 => ?_)
  refine x_putFR F hI ffX11_19 ha0 (by omega) (by omega) rfl rfl dX11_init_23 rfl (fun G8 => ?_)
  refine x_aload_n F dX11_init_26 rfl rfl rfl ?_
  refine x_newO F hB nwX11_23 (by omega) (by omega) (by omega) dX11_init_27 rfl (fun h10 G9 => ?_)
  refine x_dup F dX11_init_30 rfl rfl ?_
  refine x_aload_n F dX11_init_31 rfl rfl rfl ?_
  refine x_getRc F flX11_10 ha0 (by omega) (by omega) rfl dX11_init_32 rfl ?_
  refine x_ite (fun h61 => ?_) (fun _ => Y_none)
  refine x_callC (f := fun G11 => _) (as := [vR ((rf a0 0))]) (S := [vR ((n + 10)), vR a0]) F hB lkX11_25 rfl wd_1_201 wd_1_8 mcX4_init (by decide +kernel : yX4_init.cls ≠ "java/lang/invoke/MethodHandle" ∧ yX4_init.cls ≠ "java/lang/invoke/VarHandle" ∧ (parseMethodDescriptor yX4_init.desc).map (fun d => d.parameters.length) = some 1) (by decide) (by omega) (by omega) (by omega) (by omega) (kX4_init cx.l x hi had (n + 11) G9 ((n + 10)) ((rf a0 0)) h10 (tf11_0 ha0).1 (by omega) (by omega) (by omega)) (le_d hd rfl) (Nat.le_of_ble_eq_true rfl) dX11_init_35 rfl rfl (fun G11 => ?_)
  refine x_putFR F hI ffX11_28 ha0 (by omega) (by omega) rfl rfl dX11_init_38 rfl (fun G12 => ?_)
  refine x_aload_n F dX11_init_41 rfl rfl rfl ?_
  refine x_newO F hB nwX11_32 (by omega) (by omega) (by omega) dX11_init_42 rfl (fun h14 G13 => ?_)
  refine x_dup F dX11_init_45 rfl rfl ?_
  refine x_callC (f := fun G15 => _) (as := []) (S := [vR ((n + 18)), vR a0]) F hB lkX11_34 rfl wd_1_226 wd_1_9 mcX10_init (by decide +kernel : yX10_init.cls ≠ "java/lang/invoke/MethodHandle" ∧ yX10_init.cls ≠ "java/lang/invoke/VarHandle" ∧ (parseMethodDescriptor yX10_init.desc).map (fun d => d.parameters.length) = some 0) (by decide) (by omega) (by omega) (by omega) (by omega) (kX10_init cx.l x hi had (n + 19) G13 ((n + 18)) h14 (by omega) (by omega)) (le_d hd rfl) (Nat.le_of_ble_eq_true rfl) dX11_init_46 rfl rfl (fun G15 => ?_)
  refine x_putFR F hI ffX11_35 ha0 (by omega) (by omega) rfl rfl dX11_init_49 rfl (fun G16 => ?_)
  refine x_aload_n F dX11_init_52 rfl rfl rfl ?_
  refine x_newO F hB nwX11_32 (by omega) (by omega) (by omega) dX11_init_53 rfl (fun h18 G17 => ?_)
  refine x_dup F dX11_init_56 rfl rfl ?_
  refine x_callC (f := fun G19 => _) (as := []) (S := [vR ((n + 22)), vR a0]) F hB lkX11_34 rfl wd_1_226 wd_1_9 mcX10_init (by decide +kernel : yX10_init.cls ≠ "java/lang/invoke/MethodHandle" ∧ yX10_init.cls ≠ "java/lang/invoke/VarHandle" ∧ (parseMethodDescriptor yX10_init.desc).map (fun d => d.parameters.length) = some 0) (by decide) (by omega) (by omega) (by omega) (by omega) (kX10_init cx.l x hi had (n + 23) G17 ((n + 22)) h18 (by omega) (by omega)) (le_d hd rfl) (Nat.le_of_ble_eq_true rfl) dX11_init_57 rfl rfl (fun G19 => ?_)
  refine x_putFR F hI ffX11_39 ha0 (by omega) (by omega) rfl rfl dX11_init_60 rfl (fun G20 => ?_)
  refine x_aload_n F dX11_init_63 rfl rfl rfl ?_
  refine x_newO F hB nwX11_42 (by omega) (by omega) (by omega) dX11_init_64 rfl (fun h22 G21 => ?_)
  refine x_dup F dX11_init_67 rfl rfl ?_
  refine x_callC (f := fun G23 => _) (as := []) (S := [vR ((n + 26)), vR a0]) F hB lkX11_44 rfl wd_2_10 wd_1_10 mcX6_init (by decide +kernel : yX6_init.cls ≠ "java/lang/invoke/MethodHandle" ∧ yX6_init.cls ≠ "java/lang/invoke/VarHandle" ∧ (parseMethodDescriptor yX6_init.desc).map (fun d => d.parameters.length) = some 0) (by decide) (by omega) (by omega) (by omega) (by omega) (kX6_init cx.l x hi had (n + 27) G21 ((n + 26)) h22 (by omega) (by omega)) (le_d hd rfl) (Nat.le_of_ble_eq_true rfl) dX11_init_68 rfl rfl (fun G23 => ?_)
  refine x_putFR F hI ffX11_45 ha0 (by omega) (by omega) rfl rfl dX11_init_71 rfl (fun G24 => ?_)
  refine x_aload_n F dX11_init_74 rfl rfl rfl ?_
  refine x_newO F hB nwX11_49 (by omega) (by omega) (by omega) dX11_init_75 rfl (fun h26 G25 => ?_)
  refine x_dup F dX11_init_78 rfl rfl ?_
  refine x_aload_n F dX11_init_79 rfl rfl rfl ?_
  refine x_getRc F flX11_19 ha0 (by omega) (by omega) rfl dX11_init_80 rfl ?_
  refine x_aload_n F dX11_init_83 rfl rfl rfl ?_
  refine x_getRc F flX11_45 ha0 (by omega) (by omega) rfl dX11_init_84 rfl ?_
  refine x_ite (fun h59 => ?_) (fun _ => Y_none)
  refine x_ite (fun h60 => ?_) (fun _ => Y_none)
  refine x_callC (f := fun G27 => _) (as := [vR ((rf a0 1)), vR ((rf a0 5))]) (S := [vR ((n + 28)), vR a0]) F hB lkX11_51 rfl wd_2_27 wd_1_11 mcX1_init (by decide +kernel : yX1_init.cls ≠ "java/lang/invoke/MethodHandle" ∧ yX1_init.cls ≠ "java/lang/invoke/VarHandle" ∧ (parseMethodDescriptor yX1_init.desc).map (fun d => d.parameters.length) = some 2) (by decide) (by omega) (by omega) (by omega) (by omega) (kX1_init cx.l x hi had (n + 29) G25 ((n + 28)) ((rf a0 1)) ((rf a0 5)) h26 (tf11_1 ha0).1 (tf11_5 ha0).1 (by omega) (by omega) (by omega) (by omega)) (le_d hd rfl) (Nat.le_of_ble_eq_true rfl) dX11_init_87 rfl rfl (fun G27 => ?_)
  refine x_putFR F hI ffX11_54 ha0 (by omega) (by omega) rfl rfl dX11_init_90 rfl (fun G28 => ?_)
  refine x_aload_n F dX11_init_93 rfl rfl rfl ?_
  refine x_newO F hB nwX11_58 (by omega) (by omega) (by omega) dX11_init_94 rfl (fun h30 G29 => ?_)
  refine x_dup F dX11_init_97 rfl rfl ?_
  refine x_aload_n F dX11_init_98 rfl rfl rfl ?_
  refine x_getRc F flX11_19 ha0 (by omega) (by omega) rfl dX11_init_99 rfl ?_
  refine x_aload_n F dX11_init_102 rfl rfl rfl ?_
  refine x_getRc F flX11_45 ha0 (by omega) (by omega) rfl dX11_init_103 rfl ?_
  refine x_aload_n F dX11_init_106 rfl rfl rfl ?_
  refine x_getRc F flX11_54 ha0 (by omega) (by omega) rfl dX11_init_107 rfl ?_
  refine x_ite (fun h56 => ?_) (fun _ => Y_none)
  refine x_ite (fun h57 => ?_) (fun _ => Y_none)
  refine x_ite (fun h58 => ?_) (fun _ => Y_none)
  refine x_callC (f := fun G31 => _) (as := [vR ((rf a0 1)), vR ((rf a0 5)), vR ((rf a0 6))]) (S := [vR ((n + 30)), vR a0]) F hB lkX11_60 rfl wd_2_55 wd_1_12 mcX0_init (by decide +kernel : yX0_init.cls ≠ "java/lang/invoke/MethodHandle" ∧ yX0_init.cls ≠ "java/lang/invoke/VarHandle" ∧ (parseMethodDescriptor yX0_init.desc).map (fun d => d.parameters.length) = some 3) (by decide) (by omega) (by omega) (by omega) (by omega) (kX0_init cx.l x hi had (n + 31) G29 ((n + 30)) ((rf a0 1)) ((rf a0 5)) ((rf a0 6)) h30 (tf11_1 ha0).1 (tf11_5 ha0).1 (tf11_6 ha0).1 (by omega) (by omega) (by omega) (by omega) (by omega)) (le_d hd rfl) (Nat.le_of_ble_eq_true rfl) dX11_init_110 rfl rfl (fun G31 => ?_)
  refine x_putFR F hI ffX11_63 ha0 (by omega) (by omega) rfl rfl dX11_init_113 rfl (fun G32 => ?_)
  refine x_aload_n F dX11_init_116 rfl rfl rfl ?_
  refine x_newO F hB nwX11_67 (by omega) (by omega) (by omega) dX11_init_117 rfl (fun h34 G33 => ?_)
  refine x_dup F dX11_init_120 rfl rfl ?_
  refine x_aload_n F dX11_init_121 rfl rfl rfl ?_
  refine x_getRc F flX11_19 ha0 (by omega) (by omega) rfl dX11_init_122 rfl ?_
  refine x_aload_n F dX11_init_125 rfl rfl rfl ?_
  refine x_getRc F flX11_45 ha0 (by omega) (by omega) rfl dX11_init_126 rfl ?_
  refine x_aload_n F dX11_init_129 rfl rfl rfl ?_
  refine x_getRc F flX11_54 ha0 (by omega) (by omega) rfl dX11_init_130 rfl ?_
  refine x_ite (fun h53 => ?_) (fun _ => Y_none)
  refine x_ite (fun h54 => ?_) (fun _ => Y_none)
  refine x_ite (fun h55 => ?_) (fun _ => Y_none)
  refine x_callC (f := fun G35 => _) (as := [vR ((rf a0 1)), vR ((rf a0 5)), vR ((rf a0 6))]) (S := [vR ((n + 32)), vR a0]) F hB lkX11_69 rfl wd_2_74 wd_1_13 mcX2_init (by decide +kernel : yX2_init.cls ≠ "java/lang/invoke/MethodHandle" ∧ yX2_init.cls ≠ "java/lang/invoke/VarHandle" ∧ (parseMethodDescriptor yX2_init.desc).map (fun d => d.parameters.length) = some 3) (by decide) (by omega) (by omega) (by omega) (by omega) (kX2_init cx.l x hi had (n + 33) G33 ((n + 32)) ((rf a0 1)) ((rf a0 5)) ((rf a0 6)) h34 (tf11_1 ha0).1 (tf11_5 ha0).1 (tf11_6 ha0).1 (by omega) (by omega) (by omega) (by omega) (by omega)) (le_d hd rfl) (Nat.le_of_ble_eq_true rfl) dX11_init_133 rfl rfl (fun G35 => ?_)
  refine x_putFR F hI ffX11_70 ha0 (by omega) (by omega) rfl rfl dX11_init_136 rfl (fun G36 => ?_)
  refine x_aload_n F dX11_init_139 rfl rfl rfl ?_
  refine x_newO F hB nwX11_74 (by omega) (by omega) (by omega) dX11_init_140 rfl (fun h38 G37 => ?_)
  refine x_dup F dX11_init_143 rfl rfl ?_
  refine x_aload_n F dX11_init_144 rfl rfl rfl ?_
  refine x_getRc F flX11_19 ha0 (by omega) (by omega) rfl dX11_init_145 rfl ?_
  refine x_aload_n F dX11_init_148 rfl rfl rfl ?_
  refine x_getRc F flX11_45 ha0 (by omega) (by omega) rfl dX11_init_149 rfl ?_
  refine x_aload_n F dX11_init_152 rfl rfl rfl ?_
  refine x_getRc F flX11_63 ha0 (by omega) (by omega) rfl dX11_init_153 rfl ?_
  refine x_aload_n F dX11_init_156 rfl rfl rfl ?_
  refine x_getRc F flX11_70 ha0 (by omega) (by omega) rfl dX11_init_157 rfl ?_
  refine x_ite (fun h49 => ?_) (fun _ => Y_none)
  refine x_ite (fun h50 => ?_) (fun _ => Y_none)
  refine x_ite (fun h51 => ?_) (fun _ => Y_none)
  refine x_ite (fun h52 => ?_) (fun _ => Y_none)
  refine x_callC (f := fun G39 => _) (as := [vR ((rf a0 1)), vR ((rf a0 5)), vR ((rf a0 7)), vR ((rf a0 8))]) (S := [vR ((n + 33)), vR a0]) F hB lkX11_76 rfl wd_2_90 wd_1_14 mcX9_init (by decide +kernel : yX9_init.cls ≠ "java/lang/invoke/MethodHandle" ∧ yX9_init.cls ≠ "java/lang/invoke/VarHandle" ∧ (parseMethodDescriptor yX9_init.desc).map (fun d => d.parameters.length) = some 4) (by decide) (by omega) (by omega) (by omega) (by omega) (kX9_init cx.l x hi had (n + 34) G37 ((n + 33)) ((rf a0 1)) ((rf a0 5)) ((rf a0 7)) ((rf a0 8)) h38 (tf11_1 ha0).1 (tf11_5 ha0).1 (tf11_7 ha0).1 (tf11_8 ha0).1 (by omega) (by omega) (by omega) (by omega) (by omega) (by omega)) (le_d hd rfl) (Nat.le_of_ble_eq_true rfl) dX11_init_160 rfl rfl (fun G39 => ?_)
  refine x_putFR F hI ffX11_79 ha0 (by omega) (by omega) rfl rfl dX11_init_163 rfl (fun G40 => ?_)
  refine x_aload_n F dX11_init_166 rfl rfl rfl ?_
  refine x_newO F hB nwX11_83 (by omega) (by omega) (by omega) dX11_init_167 rfl (fun h42 G41 => ?_)
  refine x_dup F dX11_init_170 rfl rfl ?_
  refine x_callC (f := fun G43 => _) (as := []) (S := [vR ((n + 38)), vR a0]) F hB lkX11_85 rfl wd_2_120 wd_1_15 mcX5_init (by decide +kernel : yX5_init.cls ≠ "java/lang/invoke/MethodHandle" ∧ yX5_init.cls ≠ "java/lang/invoke/VarHandle" ∧ (parseMethodDescriptor yX5_init.desc).map (fun d => d.parameters.length) = some 0) (by decide) (by omega) (by omega) (by omega) (by omega) (kX5_init cx.l x hi had (n + 39) G41 ((n + 38)) h42 (by omega) (by omega)) (le_d hd rfl) (Nat.le_of_ble_eq_true rfl) dX11_init_171 rfl rfl (fun G43 => ?_)
  refine x_putFR F hI ffX11_86 ha0 (by omega) (by omega) rfl rfl dX11_init_174 rfl (fun G44 => ?_)
  refine x_aload_n F dX11_init_177 rfl rfl rfl ?_
  refine x_newO F hB nwX11_90 (by omega) (by omega) (by omega) dX11_init_178 rfl (fun h46 G45 => ?_)
  refine x_dup F dX11_init_181 rfl rfl ?_
  refine x_callC (f := fun G47 => _) (as := []) (S := [vR ((n + 43)), vR a0]) F hB lkX11_92 rfl wd_2_144 wd_1_16 mcX3_init (by decide +kernel : yX3_init.cls ≠ "java/lang/invoke/MethodHandle" ∧ yX3_init.cls ≠ "java/lang/invoke/VarHandle" ∧ (parseMethodDescriptor yX3_init.desc).map (fun d => d.parameters.length) = some 0) (by decide) (by omega) (by omega) (by omega) (by omega) (kX3_init cx.l x hi had (n + 44) G45 ((n + 43)) h46 (by omega) (by omega)) (le_d hd rfl) (Nat.le_of_ble_eq_true rfl) dX11_init_182 rfl rfl (fun G47 => ?_)
  refine x_putFR F hI ffX11_93 ha0 (by omega) (by omega) rfl rfl dX11_init_185 rfl (fun G48 => ?_)
  exact x_vretC F hQ hnE dX11_init_188
theorem dX12_init_0 : decode cX12_init 0 = .ok (.aload_n 0, 1) := by decide +kernel
theorem dX12_init_1 : decode cX12_init 1 = .ok (.invokespecial 18, 3) := by decide +kernel
theorem dX12_init_4 : decode cX12_init 4 = .ok (.aload_n 0, 1) := by decide +kernel
theorem dX12_init_5 : decode cX12_init 5 = .ok (.sipush 1000, 3) := by decide +kernel
theorem dX12_init_8 : decode cX12_init 8 = .ok (.newarray .int, 2) := by decide +kernel
theorem dX12_init_10 : decode cX12_init 10 = .ok (.putfield 14, 3) := by decide +kernel
theorem dX12_init_13 : decode cX12_init 13 = .ok (.aload_n 0, 1) := by decide +kernel
theorem dX12_init_14 : decode cX12_init 14 = .ok (.sipush 1002, 3) := by decide +kernel
theorem dX12_init_17 : decode cX12_init 17 = .ok (.newarray .int, 2) := by decide +kernel
theorem dX12_init_19 : decode cX12_init 19 = .ok (.putfield 24, 3) := by decide +kernel
theorem dX12_init_22 : decode cX12_init 22 = .ok (.aload_n 0, 1) := by decide +kernel
theorem dX12_init_23 : decode cX12_init 23 = .ok (.sipush 1002, 3) := by decide +kernel
theorem dX12_init_26 : decode cX12_init 26 = .ok (.newarray .int, 2) := by decide +kernel
theorem dX12_init_28 : decode cX12_init 28 = .ok (.putfield 27, 3) := by decide +kernel
theorem dX12_init_31 : decode cX12_init 31 = .ok (.aload_n 0, 1) := by decide +kernel
theorem dX12_init_32 : decode cX12_init 32 = .ok (.sipush 1002, 3) := by decide +kernel
theorem dX12_init_35 : decode cX12_init 35 = .ok (.newarray .long, 2) := by decide +kernel
theorem dX12_init_37 : decode cX12_init 37 = .ok (.putfield 30, 3) := by decide +kernel
theorem dX12_init_40 : decode cX12_init 40 = .ok (.aload_n 0, 1) := by decide +kernel
theorem dX12_init_41 : decode cX12_init 41 = .ok (.bipush 26, 2) := by decide +kernel
theorem dX12_init_43 : decode cX12_init 43 = .ok (.newarray .long, 2) := by decide +kernel
theorem dX12_init_45 : decode cX12_init 45 = .ok (.dup, 1) := by decide +kernel
theorem dX12_init_46 : decode cX12_init 46 = .ok (.iconst 0, 1) := by decide +kernel
theorem dX12_init_47 : decode cX12_init 47 = .ok (.ldc2_w 34, 3) := by decide +kernel
theorem dX12_init_50 : decode cX12_init 50 = .ok (.lastore, 1) := by decide +kernel
theorem dX12_init_51 : decode cX12_init 51 = .ok (.dup, 1) := by decide +kernel
theorem dX12_init_52 : decode cX12_init 52 = .ok (.iconst 1, 1) := by decide +kernel
theorem dX12_init_53 : decode cX12_init 53 = .ok (.ldc2_w 36, 3) := by decide +kernel
theorem dX12_init_56 : decode cX12_init 56 = .ok (.lastore, 1) := by decide +kernel
theorem dX12_init_57 : decode cX12_init 57 = .ok (.dup, 1) := by decide +kernel
theorem dX12_init_58 : decode cX12_init 58 = .ok (.iconst 2, 1) := by decide +kernel
theorem dX12_init_59 : decode cX12_init 59 = .ok (.ldc2_w 38, 3) := by decide +kernel
theorem dX12_init_62 : decode cX12_init 62 = .ok (.lastore, 1) := by decide +kernel
theorem dX12_init_63 : decode cX12_init 63 = .ok (.dup, 1) := by decide +kernel
theorem dX12_init_64 : decode cX12_init 64 = .ok (.iconst 3, 1) := by decide +kernel
theorem dX12_init_65 : decode cX12_init 65 = .ok (.ldc2_w 40, 3) := by decide +kernel
theorem dX12_init_68 : decode cX12_init 68 = .ok (.lastore, 1) := by decide +kernel
theorem dX12_init_69 : decode cX12_init 69 = .ok (.dup, 1) := by decide +kernel
theorem dX12_init_70 : decode cX12_init 70 = .ok (.iconst 4, 1) := by decide +kernel
theorem dX12_init_71 : decode cX12_init 71 = .ok (.ldc2_w 42, 3) := by decide +kernel
theorem dX12_init_74 : decode cX12_init 74 = .ok (.lastore, 1) := by decide +kernel
theorem dX12_init_75 : decode cX12_init 75 = .ok (.dup, 1) := by decide +kernel
theorem dX12_init_76 : decode cX12_init 76 = .ok (.iconst 5, 1) := by decide +kernel
theorem dX12_init_77 : decode cX12_init 77 = .ok (.ldc2_w 44, 3) := by decide +kernel
theorem dX12_init_80 : decode cX12_init 80 = .ok (.lastore, 1) := by decide +kernel
theorem dX12_init_81 : decode cX12_init 81 = .ok (.dup, 1) := by decide +kernel
theorem dX12_init_82 : decode cX12_init 82 = .ok (.bipush 6, 2) := by decide +kernel
theorem dX12_init_84 : decode cX12_init 84 = .ok (.ldc2_w 46, 3) := by decide +kernel
theorem dX12_init_87 : decode cX12_init 87 = .ok (.lastore, 1) := by decide +kernel
theorem dX12_init_88 : decode cX12_init 88 = .ok (.dup, 1) := by decide +kernel
theorem dX12_init_89 : decode cX12_init 89 = .ok (.bipush 7, 2) := by decide +kernel
theorem dX12_init_91 : decode cX12_init 91 = .ok (.ldc2_w 48, 3) := by decide +kernel
theorem dX12_init_94 : decode cX12_init 94 = .ok (.lastore, 1) := by decide +kernel
theorem dX12_init_95 : decode cX12_init 95 = .ok (.dup, 1) := by decide +kernel
theorem dX12_init_96 : decode cX12_init 96 = .ok (.bipush 8, 2) := by decide +kernel
theorem dX12_init_98 : decode cX12_init 98 = .ok (.ldc2_w 50, 3) := by decide +kernel
theorem dX12_init_101 : decode cX12_init 101 = .ok (.lastore, 1) := by decide +kernel
theorem dX12_init_102 : decode cX12_init 102 = .ok (.dup, 1) := by decide +kernel
theorem dX12_init_103 : decode cX12_init 103 = .ok (.bipush 9, 2) := by decide +kernel
theorem dX12_init_105 : decode cX12_init 105 = .ok (.ldc2_w 52, 3) := by decide +kernel
theorem dX12_init_108 : decode cX12_init 108 = .ok (.lastore, 1) := by decide +kernel
theorem dX12_init_109 : decode cX12_init 109 = .ok (.dup, 1) := by decide +kernel
theorem dX12_init_110 : decode cX12_init 110 = .ok (.bipush 10, 2) := by decide +kernel
theorem dX12_init_112 : decode cX12_init 112 = .ok (.ldc2_w 54, 3) := by decide +kernel
theorem dX12_init_115 : decode cX12_init 115 = .ok (.lastore, 1) := by decide +kernel
theorem dX12_init_116 : decode cX12_init 116 = .ok (.dup, 1) := by decide +kernel
theorem dX12_init_117 : decode cX12_init 117 = .ok (.bipush 11, 2) := by decide +kernel
theorem dX12_init_119 : decode cX12_init 119 = .ok (.ldc2_w 56, 3) := by decide +kernel
theorem dX12_init_122 : decode cX12_init 122 = .ok (.lastore, 1) := by decide +kernel
theorem dX12_init_123 : decode cX12_init 123 = .ok (.dup, 1) := by decide +kernel
theorem dX12_init_124 : decode cX12_init 124 = .ok (.bipush 12, 2) := by decide +kernel
theorem dX12_init_126 : decode cX12_init 126 = .ok (.ldc2_w 58, 3) := by decide +kernel
theorem dX12_init_129 : decode cX12_init 129 = .ok (.lastore, 1) := by decide +kernel
theorem dX12_init_130 : decode cX12_init 130 = .ok (.dup, 1) := by decide +kernel
theorem dX12_init_131 : decode cX12_init 131 = .ok (.bipush 13, 2) := by decide +kernel
theorem dX12_init_133 : decode cX12_init 133 = .ok (.ldc2_w 60, 3) := by decide +kernel
theorem dX12_init_136 : decode cX12_init 136 = .ok (.lastore, 1) := by decide +kernel
theorem dX12_init_137 : decode cX12_init 137 = .ok (.dup, 1) := by decide +kernel
theorem dX12_init_138 : decode cX12_init 138 = .ok (.bipush 14, 2) := by decide +kernel
theorem dX12_init_140 : decode cX12_init 140 = .ok (.ldc2_w 62, 3) := by decide +kernel
theorem dX12_init_143 : decode cX12_init 143 = .ok (.lastore, 1) := by decide +kernel
theorem dX12_init_144 : decode cX12_init 144 = .ok (.dup, 1) := by decide +kernel
theorem dX12_init_145 : decode cX12_init 145 = .ok (.bipush 15, 2) := by decide +kernel
theorem dX12_init_147 : decode cX12_init 147 = .ok (.ldc2_w 64, 3) := by decide +kernel
theorem dX12_init_150 : decode cX12_init 150 = .ok (.lastore, 1) := by decide +kernel
theorem dX12_init_151 : decode cX12_init 151 = .ok (.dup, 1) := by decide +kernel
theorem dX12_init_152 : decode cX12_init 152 = .ok (.bipush 16, 2) := by decide +kernel
theorem dX12_init_154 : decode cX12_init 154 = .ok (.ldc2_w 66, 3) := by decide +kernel
theorem dX12_init_157 : decode cX12_init 157 = .ok (.lastore, 1) := by decide +kernel
theorem dX12_init_158 : decode cX12_init 158 = .ok (.dup, 1) := by decide +kernel
theorem dX12_init_159 : decode cX12_init 159 = .ok (.bipush 17, 2) := by decide +kernel
theorem dX12_init_161 : decode cX12_init 161 = .ok (.ldc2_w 68, 3) := by decide +kernel
theorem dX12_init_164 : decode cX12_init 164 = .ok (.lastore, 1) := by decide +kernel
theorem dX12_init_165 : decode cX12_init 165 = .ok (.dup, 1) := by decide +kernel
theorem dX12_init_166 : decode cX12_init 166 = .ok (.bipush 18, 2) := by decide +kernel
theorem dX12_init_168 : decode cX12_init 168 = .ok (.ldc2_w 70, 3) := by decide +kernel
theorem dX12_init_171 : decode cX12_init 171 = .ok (.lastore, 1) := by decide +kernel
theorem dX12_init_172 : decode cX12_init 172 = .ok (.dup, 1) := by decide +kernel
theorem dX12_init_173 : decode cX12_init 173 = .ok (.bipush 19, 2) := by decide +kernel
theorem dX12_init_175 : decode cX12_init 175 = .ok (.ldc2_w 72, 3) := by decide +kernel
theorem dX12_init_178 : decode cX12_init 178 = .ok (.lastore, 1) := by decide +kernel
theorem dX12_init_179 : decode cX12_init 179 = .ok (.dup, 1) := by decide +kernel
theorem dX12_init_180 : decode cX12_init 180 = .ok (.bipush 20, 2) := by decide +kernel
theorem dX12_init_182 : decode cX12_init 182 = .ok (.ldc2_w 74, 3) := by decide +kernel
theorem dX12_init_185 : decode cX12_init 185 = .ok (.lastore, 1) := by decide +kernel
theorem dX12_init_186 : decode cX12_init 186 = .ok (.dup, 1) := by decide +kernel
theorem dX12_init_187 : decode cX12_init 187 = .ok (.bipush 21, 2) := by decide +kernel
theorem dX12_init_189 : decode cX12_init 189 = .ok (.ldc2_w 76, 3) := by decide +kernel
theorem dX12_init_192 : decode cX12_init 192 = .ok (.lastore, 1) := by decide +kernel
theorem dX12_init_193 : decode cX12_init 193 = .ok (.dup, 1) := by decide +kernel
theorem dX12_init_194 : decode cX12_init 194 = .ok (.bipush 22, 2) := by decide +kernel
theorem dX12_init_196 : decode cX12_init 196 = .ok (.ldc2_w 78, 3) := by decide +kernel
theorem dX12_init_199 : decode cX12_init 199 = .ok (.lastore, 1) := by decide +kernel
theorem dX12_init_200 : decode cX12_init 200 = .ok (.dup, 1) := by decide +kernel
theorem dX12_init_201 : decode cX12_init 201 = .ok (.bipush 23, 2) := by decide +kernel
theorem dX12_init_203 : decode cX12_init 203 = .ok (.ldc2_w 80, 3) := by decide +kernel
theorem dX12_init_206 : decode cX12_init 206 = .ok (.lastore, 1) := by decide +kernel
theorem dX12_init_207 : decode cX12_init 207 = .ok (.dup, 1) := by decide +kernel
theorem dX12_init_208 : decode cX12_init 208 = .ok (.bipush 24, 2) := by decide +kernel
theorem dX12_init_210 : decode cX12_init 210 = .ok (.ldc2_w 34, 3) := by decide +kernel
theorem dX12_init_213 : decode cX12_init 213 = .ok (.lastore, 1) := by decide +kernel
theorem dX12_init_214 : decode cX12_init 214 = .ok (.dup, 1) := by decide +kernel
theorem dX12_init_215 : decode cX12_init 215 = .ok (.bipush 25, 2) := by decide +kernel
theorem dX12_init_217 : decode cX12_init 217 = .ok (.ldc2_w 82, 3) := by decide +kernel
theorem dX12_init_220 : decode cX12_init 220 = .ok (.lastore, 1) := by decide +kernel
theorem dX12_init_221 : decode cX12_init 221 = .ok (.putfield 84, 3) := by decide +kernel
theorem dX12_init_224 : decode cX12_init 224 = .ok (.aload_n 0, 1) := by decide +kernel
theorem dX12_init_225 : decode cX12_init 225 = .ok (.bipush 64, 2) := by decide +kernel
theorem dX12_init_227 : decode cX12_init 227 = .ok (.newarray .int, 2) := by decide +kernel
theorem dX12_init_229 : decode cX12_init 229 = .ok (.putfield 87, 3) := by decide +kernel
theorem dX12_init_232 : decode cX12_init 232 = .ok (.aload_n 0, 1) := by decide +kernel
theorem dX12_init_233 : decode cX12_init 233 = .ok (.sipush 2200, 3) := by decide +kernel
theorem dX12_init_236 : decode cX12_init 236 = .ok (.newarray .int, 2) := by decide +kernel
theorem dX12_init_238 : decode cX12_init 238 = .ok (.putfield 90, 3) := by decide +kernel
theorem dX12_init_241 : decode cX12_init 241 = .ok (.aload_n 0, 1) := by decide +kernel
theorem dX12_init_242 : decode cX12_init 242 = .ok (.bipush 36, 2) := by decide +kernel
theorem dX12_init_244 : decode cX12_init 244 = .ok (.newarray .long, 2) := by decide +kernel
theorem dX12_init_246 : decode cX12_init 246 = .ok (.putfield 93, 3) := by decide +kernel
theorem dX12_init_249 : decode cX12_init 249 = .ok (.aload_n 0, 1) := by decide +kernel
theorem dX12_init_250 : decode cX12_init 250 = .ok (.sipush 241, 3) := by decide +kernel
theorem dX12_init_253 : decode cX12_init 253 = .ok (.newarray .int, 2) := by decide +kernel
theorem dX12_init_255 : decode cX12_init 255 = .ok (.putfield 96, 3) := by decide +kernel
theorem dX12_init_258 : decode cX12_init 258 = .ok (.aload_n 0, 1) := by decide +kernel
theorem dX12_init_259 : decode cX12_init 259 = .ok (.iconst 4, 1) := by decide +kernel
theorem dX12_init_260 : decode cX12_init 260 = .ok (.newarray .int, 2) := by decide +kernel
theorem dX12_init_262 : decode cX12_init 262 = .ok (.putfield 99, 3) := by decide +kernel
theorem dX12_init_265 : decode cX12_init 265 = .ok (.aload_n 0, 1) := by decide +kernel
theorem dX12_init_266 : decode cX12_init 266 = .ok (.bipush 64, 2) := by decide +kernel
theorem dX12_init_268 : decode cX12_init 268 = .ok (.newarray .int, 2) := by decide +kernel
theorem dX12_init_270 : decode cX12_init 270 = .ok (.putfield 102, 3) := by decide +kernel
theorem dX12_init_273 : decode cX12_init 273 = .ok (.aload_n 0, 1) := by decide +kernel
theorem dX12_init_274 : decode cX12_init 274 = .ok (.sipush 3565, 3) := by decide +kernel
theorem dX12_init_277 : decode cX12_init 277 = .ok (.newarray .int, 2) := by decide +kernel
theorem dX12_init_279 : decode cX12_init 279 = .ok (.putfield 105, 3) := by decide +kernel
theorem dX12_init_282 : decode cX12_init 282 = .ok (.aload_n 0, 1) := by decide +kernel
theorem dX12_init_283 : decode cX12_init 283 = .ok (.iconst 4, 1) := by decide +kernel
theorem dX12_init_284 : decode cX12_init 284 = .ok (.newarray .boolean, 2) := by decide +kernel
theorem dX12_init_286 : decode cX12_init 286 = .ok (.putfield 108, 3) := by decide +kernel
theorem dX12_init_289 : decode cX12_init 289 = .ok (.aload_n 0, 1) := by decide +kernel
theorem dX12_init_290 : decode cX12_init 290 = .ok (.bipush 10, 2) := by decide +kernel
theorem dX12_init_292 : decode cX12_init 292 = .ok (.newarray .int, 2) := by decide +kernel
theorem dX12_init_294 : decode cX12_init 294 = .ok (.putfield 112, 3) := by decide +kernel
theorem dX12_init_297 : decode cX12_init 297 = .ok (.aload_n 0, 1) := by decide +kernel
theorem dX12_init_298 : decode cX12_init 298 = .ok (.bipush 20, 2) := by decide +kernel
theorem dX12_init_300 : decode cX12_init 300 = .ok (.newarray .int, 2) := by decide +kernel
theorem dX12_init_302 : decode cX12_init 302 = .ok (.putfield 115, 3) := by decide +kernel
theorem dX12_init_305 : decode cX12_init 305 = .ok (.aload_n 0, 1) := by decide +kernel
theorem dX12_init_306 : decode cX12_init 306 = .ok (.iconst 4, 1) := by decide +kernel
theorem dX12_init_307 : decode cX12_init 307 = .ok (.newarray .int, 2) := by decide +kernel
theorem dX12_init_309 : decode cX12_init 309 = .ok (.putfield 118, 3) := by decide +kernel
theorem dX12_init_312 : decode cX12_init 312 = .ok (.aload_n 0, 1) := by decide +kernel
theorem dX12_init_313 : decode cX12_init 313 = .ok (.bipush 22, 2) := by decide +kernel
theorem dX12_init_315 : decode cX12_init 315 = .ok (.newarray .int, 2) := by decide +kernel
theorem dX12_init_317 : decode cX12_init 317 = .ok (.putfield 121, 3) := by decide +kernel
theorem dX12_init_320 : decode cX12_init 320 = .ok (.aload_n 0, 1) := by decide +kernel
theorem dX12_init_321 : decode cX12_init 321 = .ok (.iconst 0, 1) := by decide +kernel
theorem dX12_init_322 : decode cX12_init 322 = .ok (.invokevirtual 124, 3) := by decide +kernel
theorem dX12_init_325 : decode cX12_init 325 = .ok (.aload_n 0, 1) := by decide +kernel
theorem dX12_init_326 : decode cX12_init 326 = .ok (.invokevirtual 128, 3) := by decide +kernel
theorem dX12_init_329 : decode cX12_init 329 = .ok (.return_, 1) := by decide +kernel
noncomputable def iX12_init (a0 : Nat) (G : Hp) : RT := na 112 20 1000 (bh (clr G 112) fun G1 => pf a0 1 112 (bh (up G1 a0 1 1) fun G4 => na 113 20 1002 (bh (clr G4 113) fun G5 => pf a0 4 113 (bh (up G5 a0 4 1) fun G8 => na 114 20 1002 (bh (clr G8 114) fun G9 => pf a0 5 114 (bh (up G9 a0 5 1) fun G12 => na 115 21 1002 (bh (clr G12 115) fun G13 => pf a0 6 115 (bh (up G13 a0 6 1) fun G16 => na 116 21 26 (bh (clr G16 116) fun G17 => bs (wr G17 116 26 0 225815630) fun G20 => bs (wr G20 116 26 1 620880) fun G21 => bs (wr G21 116 26 2 729830) fun G22 => bs (wr G22 116 26 3 15269) fun G23 => bs (wr G23 116 26 4 57) fun G24 => bs (wr G24 116 26 5 620361) fun G25 => bs (wr G25 116 26 6 4011517) fun G26 => bs (wr G26 116 26 7 527412) fun G27 => bs (wr G27 116 26 8 22745385) fun G28 => bs (wr G28 116 26 9 305632) fun G29 => bs (wr G29 116 26 10 1025554) fun G30 => bs (wr G30 116 26 11 11882262) fun G31 => bs (wr G31 116 26 12 8571) fun G32 => bs (wr G32 116 26 13 22701) fun G33 => bs (wr G33 116 26 14 407115) fun G34 => bs (wr G34 116 26 15 30596128) fun G35 => bs (wr G35 116 26 16 36035504) fun G36 => bs (wr G36 116 26 17 26332) fun G37 => bs (wr G37 116 26 18 4369001) fun G38 => bs (wr G38 116 26 19 19741) fun G39 => bs (wr G39 116 26 20 1891) fun G40 => bs (wr G40 116 26 21 573) fun G41 => bs (wr G41 116 26 22 1034043) fun G42 => bs (wr G42 116 26 23 43523367) fun G43 => bs (wr G43 116 26 24 225815630) fun G44 => bs (wr G44 116 26 25 27003729) fun G45 => pf a0 9 116 (bh (up G45 a0 9 1) fun G46 => na 117 20 64 (bh (clr G46 117) fun G47 => pf a0 10 117 (bh (up G47 a0 10 1) fun G50 => na 118 20 2200 (bh (clr G50 118) fun G51 => pf a0 11 118 (bh (up G51 a0 11 1) fun G54 => na 119 21 36 (bh (clr G54 119) fun G55 => pf a0 13 119 (bh (up G55 a0 13 1) fun G58 => na 120 20 241 (bh (clr G58 120) fun G59 => pf a0 14 120 (bh (up G59 a0 14 1) fun G62 => na 121 20 4 (bh (clr G62 121) fun G63 => pf a0 15 121 (bh (up G63 a0 15 1) fun G66 => na 122 20 64 (bh (clr G66 122) fun G67 => pf a0 16 122 (bh (up G67 a0 16 1) fun G70 => na 123 20 3565 (bh (clr G70 123) fun G71 => pf a0 17 123 (bh (up G71 a0 17 1) fun G74 => na 124 23 4 (bh (clr G74 124) fun G75 => pf a0 19 124 (bh (up G75 a0 19 1) fun G78 => na 125 20 10 (bh (clr G78 125) fun G79 => pf a0 20 125 (bh (up G79 a0 20 1) fun G82 => na 126 20 20 (bh (clr G82 126) fun G83 => pf a0 22 126 (bh (up G83 a0 22 1) fun G86 => na 127 20 4 (bh (clr G86 127) fun G87 => pf a0 23 127 (bh (up G87 a0 23 1) fun G90 => nl a0 24 22 G90 (fun G91 => bn (fX12_standsAsAlways a0 0 G91) fun _ G92 => bn (fX12_begins a0 G92) fun _ G93 => ve 129 129 G93)))))))))))))))))))))))))))))))))
set_option maxRecDepth 20000 in
set_option maxHeartbeats 4000000 in
theorem kX12_init (l : Launch) (x : WX) (hi : Inj x.2.2) (had : ∀ c, c ≤ 129 → x.2.2 c = x.2.2 0 + c) (G : Hp) (a0 : Nat) (ha0 : kd a0 = 12) (hl0 : a0 < 112)  : CtC l x yX12_init cX12_init 1 4 112 129 [vR a0] G (iX12_init a0 G) := by
  refine ctc_of (plainFor_of_name (by decide)) rfl hi had (by omega) (by omega) (Nat.le_of_ble_eq_true rfl) (fun cx F hd hn0 hnE hl hQ hB hI => ?_)
  subst hl
  have F : Fx cx x RX12 cX12_init 1 none := F
  show Y cx x 1 none 112 0 [(0, vR a0)] [] G _
  unfold iX12_init
  refine x_aload_n F dX12_init_0 rfl rfl rfl ?_
  refine x_objI F lkX12_18 wd_1_32 wd_1_33 (le_d (d' := 0) hd rfl) (Nat.le_of_ble_eq_true rfl) dX12_init_1 rfl ?_
  refine x_aload_n F dX12_init_4 rfl rfl rfl ?_
  refine x_sipush F dX12_init_5 ⟨by decide, by decide⟩ (by decide) rfl ?_
  refine x_newaI F hB (by omega) (by omega) (by omega) wd_1_197 dX12_init_8 rfl (fun h2 h3 G1 => ?_)
  refine x_putFR F hI ffX12_14 ha0 (by omega) (by omega) rfl rfl dX12_init_10 rfl (fun G4 => ?_)
  refine x_aload_n F dX12_init_13 rfl rfl rfl ?_
  refine x_sipush F dX12_init_14 ⟨by decide, by decide⟩ (by decide) rfl ?_
  refine x_newaI F hB (by omega) (by omega) (by omega) wd_1_197 dX12_init_17 rfl (fun h6 h7 G5 => ?_)
  refine x_putFR F hI ffX12_24 ha0 (by omega) (by omega) rfl rfl dX12_init_19 rfl (fun G8 => ?_)
  refine x_aload_n F dX12_init_22 rfl rfl rfl ?_
  refine x_sipush F dX12_init_23 ⟨by decide, by decide⟩ (by decide) rfl ?_
  refine x_newaI F hB (by omega) (by omega) (by omega) wd_1_197 dX12_init_26 rfl (fun h10 h11 G9 => ?_)
  refine x_putFR F hI ffX12_27 ha0 (by omega) (by omega) rfl rfl dX12_init_28 rfl (fun G12 => ?_)
  refine x_aload_n F dX12_init_31 rfl rfl rfl ?_
  refine x_sipush F dX12_init_32 ⟨by decide, by decide⟩ (by decide) rfl ?_
  refine x_newaJ F hB (by omega) (by omega) (by omega) wd_1_129 dX12_init_35 rfl (fun h14 h15 G13 => ?_)
  refine x_putFR F hI ffX12_30 ha0 (by omega) (by omega) rfl rfl dX12_init_37 rfl (fun G16 => ?_)
  refine x_aload_n F dX12_init_40 rfl rfl rfl ?_
  refine x_bipush F dX12_init_41 ⟨by decide, by decide⟩ (by decide) rfl ?_
  refine x_newaJ F hB (by omega) (by omega) (by omega) wd_1_129 dX12_init_43 rfl (fun h18 h19 G17 => ?_)
  refine x_dup F dX12_init_45 rfl rfl ?_
  refine x_iconst F dX12_init_46 ⟨by decide, by decide⟩ rfl ?_
  refine x_ldc2 (v := 225815630) F kjX12_34 dX12_init_47 ⟨by decide, by decide⟩ (by decide) rfl ?_
  refine x_last F h18 (Int.ofNat.inj h19) (by omega) (by omega) dX12_init_50 rfl (fun G20 => ?_)
  refine x_dup F dX12_init_51 rfl rfl ?_
  refine x_iconst F dX12_init_52 ⟨by decide, by decide⟩ rfl ?_
  refine x_ldc2 (v := 620880) F kjX12_36 dX12_init_53 ⟨by decide, by decide⟩ (by decide) rfl ?_
  refine x_last F h18 (Int.ofNat.inj h19) (by omega) (by omega) dX12_init_56 rfl (fun G21 => ?_)
  refine x_dup F dX12_init_57 rfl rfl ?_
  refine x_iconst F dX12_init_58 ⟨by decide, by decide⟩ rfl ?_
  refine x_ldc2 (v := 729830) F kjX12_38 dX12_init_59 ⟨by decide, by decide⟩ (by decide) rfl ?_
  refine x_last F h18 (Int.ofNat.inj h19) (by omega) (by omega) dX12_init_62 rfl (fun G22 => ?_)
  refine x_dup F dX12_init_63 rfl rfl ?_
  refine x_iconst F dX12_init_64 ⟨by decide, by decide⟩ rfl ?_
  refine x_ldc2 (v := 15269) F kjX12_40 dX12_init_65 ⟨by decide, by decide⟩ (by decide) rfl ?_
  refine x_last F h18 (Int.ofNat.inj h19) (by omega) (by omega) dX12_init_68 rfl (fun G23 => ?_)
  refine x_dup F dX12_init_69 rfl rfl ?_
  refine x_iconst F dX12_init_70 ⟨by decide, by decide⟩ rfl ?_
  refine x_ldc2 (v := 57) F kjX12_42 dX12_init_71 ⟨by decide, by decide⟩ (by decide) rfl ?_
  refine x_last F h18 (Int.ofNat.inj h19) (by omega) (by omega) dX12_init_74 rfl (fun G24 => ?_)
  refine x_dup F dX12_init_75 rfl rfl ?_
  refine x_iconst F dX12_init_76 ⟨by decide, by decide⟩ rfl ?_
  refine x_ldc2 (v := 620361) F kjX12_44 dX12_init_77 ⟨by decide, by decide⟩ (by decide) rfl ?_
  refine x_last F h18 (Int.ofNat.inj h19) (by omega) (by omega) dX12_init_80 rfl (fun G25 => ?_)
  refine x_dup F dX12_init_81 rfl rfl ?_
  refine x_bipush F dX12_init_82 ⟨by decide, by decide⟩ (by decide) rfl ?_
  refine x_ldc2 (v := 4011517) F kjX12_46 dX12_init_84 ⟨by decide, by decide⟩ (by decide) rfl ?_
  refine x_last F h18 (Int.ofNat.inj h19) (by omega) (by omega) dX12_init_87 rfl (fun G26 => ?_)
  refine x_dup F dX12_init_88 rfl rfl ?_
  refine x_bipush F dX12_init_89 ⟨by decide, by decide⟩ (by decide) rfl ?_
  refine x_ldc2 (v := 527412) F kjX12_48 dX12_init_91 ⟨by decide, by decide⟩ (by decide) rfl ?_
  refine x_last F h18 (Int.ofNat.inj h19) (by omega) (by omega) dX12_init_94 rfl (fun G27 => ?_)
  refine x_dup F dX12_init_95 rfl rfl ?_
  refine x_bipush F dX12_init_96 ⟨by decide, by decide⟩ (by decide) rfl ?_
  refine x_ldc2 (v := 22745385) F kjX12_50 dX12_init_98 ⟨by decide, by decide⟩ (by decide) rfl ?_
  refine x_last F h18 (Int.ofNat.inj h19) (by omega) (by omega) dX12_init_101 rfl (fun G28 => ?_)
  refine x_dup F dX12_init_102 rfl rfl ?_
  refine x_bipush F dX12_init_103 ⟨by decide, by decide⟩ (by decide) rfl ?_
  refine x_ldc2 (v := 305632) F kjX12_52 dX12_init_105 ⟨by decide, by decide⟩ (by decide) rfl ?_
  refine x_last F h18 (Int.ofNat.inj h19) (by omega) (by omega) dX12_init_108 rfl (fun G29 => ?_)
  refine x_dup F dX12_init_109 rfl rfl ?_
  refine x_bipush F dX12_init_110 ⟨by decide, by decide⟩ (by decide) rfl ?_
  refine x_ldc2 (v := 1025554) F kjX12_54 dX12_init_112 ⟨by decide, by decide⟩ (by decide) rfl ?_
  refine x_last F h18 (Int.ofNat.inj h19) (by omega) (by omega) dX12_init_115 rfl (fun G30 => ?_)
  refine x_dup F dX12_init_116 rfl rfl ?_
  refine x_bipush F dX12_init_117 ⟨by decide, by decide⟩ (by decide) rfl ?_
  refine x_ldc2 (v := 11882262) F kjX12_56 dX12_init_119 ⟨by decide, by decide⟩ (by decide) rfl ?_
  refine x_last F h18 (Int.ofNat.inj h19) (by omega) (by omega) dX12_init_122 rfl (fun G31 => ?_)
  refine x_dup F dX12_init_123 rfl rfl ?_
  refine x_bipush F dX12_init_124 ⟨by decide, by decide⟩ (by decide) rfl ?_
  refine x_ldc2 (v := 8571) F kjX12_58 dX12_init_126 ⟨by decide, by decide⟩ (by decide) rfl ?_
  refine x_last F h18 (Int.ofNat.inj h19) (by omega) (by omega) dX12_init_129 rfl (fun G32 => ?_)
  refine x_dup F dX12_init_130 rfl rfl ?_
  refine x_bipush F dX12_init_131 ⟨by decide, by decide⟩ (by decide) rfl ?_
  refine x_ldc2 (v := 22701) F kjX12_60 dX12_init_133 ⟨by decide, by decide⟩ (by decide) rfl ?_
  refine x_last F h18 (Int.ofNat.inj h19) (by omega) (by omega) dX12_init_136 rfl (fun G33 => ?_)
  refine x_dup F dX12_init_137 rfl rfl ?_
  refine x_bipush F dX12_init_138 ⟨by decide, by decide⟩ (by decide) rfl ?_
  refine x_ldc2 (v := 407115) F kjX12_62 dX12_init_140 ⟨by decide, by decide⟩ (by decide) rfl ?_
  refine x_last F h18 (Int.ofNat.inj h19) (by omega) (by omega) dX12_init_143 rfl (fun G34 => ?_)
  refine x_dup F dX12_init_144 rfl rfl ?_
  refine x_bipush F dX12_init_145 ⟨by decide, by decide⟩ (by decide) rfl ?_
  refine x_ldc2 (v := 30596128) F kjX12_64 dX12_init_147 ⟨by decide, by decide⟩ (by decide) rfl ?_
  refine x_last F h18 (Int.ofNat.inj h19) (by omega) (by omega) dX12_init_150 rfl (fun G35 => ?_)
  refine x_dup F dX12_init_151 rfl rfl ?_
  refine x_bipush F dX12_init_152 ⟨by decide, by decide⟩ (by decide) rfl ?_
  refine x_ldc2 (v := 36035504) F kjX12_66 dX12_init_154 ⟨by decide, by decide⟩ (by decide) rfl ?_
  refine x_last F h18 (Int.ofNat.inj h19) (by omega) (by omega) dX12_init_157 rfl (fun G36 => ?_)
  refine x_dup F dX12_init_158 rfl rfl ?_
  refine x_bipush F dX12_init_159 ⟨by decide, by decide⟩ (by decide) rfl ?_
  refine x_ldc2 (v := 26332) F kjX12_68 dX12_init_161 ⟨by decide, by decide⟩ (by decide) rfl ?_
  refine x_last F h18 (Int.ofNat.inj h19) (by omega) (by omega) dX12_init_164 rfl (fun G37 => ?_)
  refine x_dup F dX12_init_165 rfl rfl ?_
  refine x_bipush F dX12_init_166 ⟨by decide, by decide⟩ (by decide) rfl ?_
  refine x_ldc2 (v := 4369001) F kjX12_70 dX12_init_168 ⟨by decide, by decide⟩ (by decide) rfl ?_
  refine x_last F h18 (Int.ofNat.inj h19) (by omega) (by omega) dX12_init_171 rfl (fun G38 => ?_)
  refine x_dup F dX12_init_172 rfl rfl ?_
  refine x_bipush F dX12_init_173 ⟨by decide, by decide⟩ (by decide) rfl ?_
  refine x_ldc2 (v := 19741) F kjX12_72 dX12_init_175 ⟨by decide, by decide⟩ (by decide) rfl ?_
  refine x_last F h18 (Int.ofNat.inj h19) (by omega) (by omega) dX12_init_178 rfl (fun G39 => ?_)
  refine x_dup F dX12_init_179 rfl rfl ?_
  refine x_bipush F dX12_init_180 ⟨by decide, by decide⟩ (by decide) rfl ?_
  refine x_ldc2 (v := 1891) F kjX12_74 dX12_init_182 ⟨by decide, by decide⟩ (by decide) rfl ?_
  refine x_last F h18 (Int.ofNat.inj h19) (by omega) (by omega) dX12_init_185 rfl (fun G40 => ?_)
  refine x_dup F dX12_init_186 rfl rfl ?_
  refine x_bipush F dX12_init_187 ⟨by decide, by decide⟩ (by decide) rfl ?_
  refine x_ldc2 (v := 573) F kjX12_76 dX12_init_189 ⟨by decide, by decide⟩ (by decide) rfl ?_
  refine x_last F h18 (Int.ofNat.inj h19) (by omega) (by omega) dX12_init_192 rfl (fun G41 => ?_)
  refine x_dup F dX12_init_193 rfl rfl ?_
  refine x_bipush F dX12_init_194 ⟨by decide, by decide⟩ (by decide) rfl ?_
  refine x_ldc2 (v := 1034043) F kjX12_78 dX12_init_196 ⟨by decide, by decide⟩ (by decide) rfl ?_
  refine x_last F h18 (Int.ofNat.inj h19) (by omega) (by omega) dX12_init_199 rfl (fun G42 => ?_)
  refine x_dup F dX12_init_200 rfl rfl ?_
  refine x_bipush F dX12_init_201 ⟨by decide, by decide⟩ (by decide) rfl ?_
  refine x_ldc2 (v := 43523367) F kjX12_80 dX12_init_203 ⟨by decide, by decide⟩ (by decide) rfl ?_
  refine x_last F h18 (Int.ofNat.inj h19) (by omega) (by omega) dX12_init_206 rfl (fun G43 => ?_)
  refine x_dup F dX12_init_207 rfl rfl ?_
  refine x_bipush F dX12_init_208 ⟨by decide, by decide⟩ (by decide) rfl ?_
  refine x_ldc2 (v := 225815630) F kjX12_34 dX12_init_210 ⟨by decide, by decide⟩ (by decide) rfl ?_
  refine x_last F h18 (Int.ofNat.inj h19) (by omega) (by omega) dX12_init_213 rfl (fun G44 => ?_)
  refine x_dup F dX12_init_214 rfl rfl ?_
  refine x_bipush F dX12_init_215 ⟨by decide, by decide⟩ (by decide) rfl ?_
  refine x_ldc2 (v := 27003729) F kjX12_82 dX12_init_217 ⟨by decide, by decide⟩ (by decide) rfl ?_
  refine x_last F h18 (Int.ofNat.inj h19) (by omega) (by omega) dX12_init_220 rfl (fun G45 => ?_)
  refine x_putFR F hI ffX12_84 ha0 (by omega) (by omega) rfl rfl dX12_init_221 rfl (fun G46 => ?_)
  refine x_aload_n F dX12_init_224 rfl rfl rfl ?_
  refine x_bipush F dX12_init_225 ⟨by decide, by decide⟩ (by decide) rfl ?_
  refine x_newaI F hB (by omega) (by omega) (by omega) wd_1_197 dX12_init_227 rfl (fun h48 h49 G47 => ?_)
  refine x_putFR F hI ffX12_87 ha0 (by omega) (by omega) rfl rfl dX12_init_229 rfl (fun G50 => ?_)
  refine x_aload_n F dX12_init_232 rfl rfl rfl ?_
  refine x_sipush F dX12_init_233 ⟨by decide, by decide⟩ (by decide) rfl ?_
  refine x_newaI F hB (by omega) (by omega) (by omega) wd_1_197 dX12_init_236 rfl (fun h52 h53 G51 => ?_)
  refine x_putFR F hI ffX12_90 ha0 (by omega) (by omega) rfl rfl dX12_init_238 rfl (fun G54 => ?_)
  refine x_aload_n F dX12_init_241 rfl rfl rfl ?_
  refine x_bipush F dX12_init_242 ⟨by decide, by decide⟩ (by decide) rfl ?_
  refine x_newaJ F hB (by omega) (by omega) (by omega) wd_1_129 dX12_init_244 rfl (fun h56 h57 G55 => ?_)
  refine x_putFR F hI ffX12_93 ha0 (by omega) (by omega) rfl rfl dX12_init_246 rfl (fun G58 => ?_)
  refine x_aload_n F dX12_init_249 rfl rfl rfl ?_
  refine x_sipush F dX12_init_250 ⟨by decide, by decide⟩ (by decide) rfl ?_
  refine x_newaI F hB (by omega) (by omega) (by omega) wd_1_197 dX12_init_253 rfl (fun h60 h61 G59 => ?_)
  refine x_putFR F hI ffX12_96 ha0 (by omega) (by omega) rfl rfl dX12_init_255 rfl (fun G62 => ?_)
  refine x_aload_n F dX12_init_258 rfl rfl rfl ?_
  refine x_iconst F dX12_init_259 ⟨by decide, by decide⟩ rfl ?_
  refine x_newaI F hB (by omega) (by omega) (by omega) wd_1_197 dX12_init_260 rfl (fun h64 h65 G63 => ?_)
  refine x_putFR F hI ffX12_99 ha0 (by omega) (by omega) rfl rfl dX12_init_262 rfl (fun G66 => ?_)
  refine x_aload_n F dX12_init_265 rfl rfl rfl ?_
  refine x_bipush F dX12_init_266 ⟨by decide, by decide⟩ (by decide) rfl ?_
  refine x_newaI F hB (by omega) (by omega) (by omega) wd_1_197 dX12_init_268 rfl (fun h68 h69 G67 => ?_)
  refine x_putFR F hI ffX12_102 ha0 (by omega) (by omega) rfl rfl dX12_init_270 rfl (fun G70 => ?_)
  refine x_aload_n F dX12_init_273 rfl rfl rfl ?_
  refine x_sipush F dX12_init_274 ⟨by decide, by decide⟩ (by decide) rfl ?_
  refine x_newaI F hB (by omega) (by omega) (by omega) wd_1_197 dX12_init_277 rfl (fun h72 h73 G71 => ?_)
  refine x_putFR F hI ffX12_105 ha0 (by omega) (by omega) rfl rfl dX12_init_279 rfl (fun G74 => ?_)
  refine x_aload_n F dX12_init_282 rfl rfl rfl ?_
  refine x_iconst F dX12_init_283 ⟨by decide, by decide⟩ rfl ?_
  refine x_newaZ F hB (by omega) (by omega) (by omega) wd_2_140 dX12_init_284 rfl (fun h76 h77 G75 => ?_)
  refine x_putFR F hI ffX12_108 ha0 (by omega) (by omega) rfl rfl dX12_init_286 rfl (fun G78 => ?_)
  refine x_aload_n F dX12_init_289 rfl rfl rfl ?_
  refine x_bipush F dX12_init_290 ⟨by decide, by decide⟩ (by decide) rfl ?_
  refine x_newaI F hB (by omega) (by omega) (by omega) wd_1_197 dX12_init_292 rfl (fun h80 h81 G79 => ?_)
  refine x_putFR F hI ffX12_112 ha0 (by omega) (by omega) rfl rfl dX12_init_294 rfl (fun G82 => ?_)
  refine x_aload_n F dX12_init_297 rfl rfl rfl ?_
  refine x_bipush F dX12_init_298 ⟨by decide, by decide⟩ (by decide) rfl ?_
  refine x_newaI F hB (by omega) (by omega) (by omega) wd_1_197 dX12_init_300 rfl (fun h84 h85 G83 => ?_)
  refine x_putFR F hI ffX12_115 ha0 (by omega) (by omega) rfl rfl dX12_init_302 rfl (fun G86 => ?_)
  refine x_aload_n F dX12_init_305 rfl rfl rfl ?_
  refine x_iconst F dX12_init_306 ⟨by decide, by decide⟩ rfl ?_
  refine x_newaI F hB (by omega) (by omega) (by omega) wd_1_197 dX12_init_307 rfl (fun h88 h89 G87 => ?_)
  refine x_putFR F hI ffX12_118 ha0 (by omega) (by omega) rfl rfl dX12_init_309 rfl (fun G90 => ?_)
  refine x_aload_n F dX12_init_312 rfl rfl rfl ?_
  refine x_bipush F dX12_init_313 ⟨by decide, by decide⟩ (by decide) rfl ?_
  refine x_newLast F hB hI ffX12_121 ha0 (by omega) rfl rfl (by omega) (by omega) wd_1_197 dX12_init_315 dX12_init_317 rfl (fun G91 => ?_)
  refine x_aload_n F dX12_init_320 rfl rfl rfl ?_
  refine x_iconst F dX12_init_321 ⟨by decide, by decide⟩ rfl ?_
  refine x_callVv (ty := .int) (as := [vI 0]) (S := []) F lkX12_124 mX12_standsAsAlways rfl ha0 (by decide) (by omega) (Nat.le_refl _) (by omega) (by omega) (tX12_standsAsAlways cx.l x hi G91 a0 0 ha0) (le_d hd rfl) (Nat.le_of_ble_eq_true rfl) dX12_init_322 rfl rfl (fun _ G92 => ?_)
  refine x_aload_n F dX12_init_325 rfl rfl rfl ?_
  refine x_callVv (ty := .int) (as := []) (S := []) F lkX12_128 mX12_begins rfl ha0 (by decide) (by omega) (Nat.le_refl _) (by omega) (by omega) (tX12_begins cx.l x hi G92 a0 ha0) (le_d hd rfl) (Nat.le_of_ble_eq_true rfl) dX12_init_326 rfl rfl (fun _ G93 => ?_)
  exact x_vretC F hQ hnE dX12_init_329
