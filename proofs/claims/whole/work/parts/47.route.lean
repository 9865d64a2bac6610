/-! ROUTE: it may throw; the plain program answers THR then -/
def THR : Int := 1000000000000
def XR (x : WX) (r : Int) (G : Hp) (A : Nat → Prop) : String → State → State → Prop := vx_X (S := Unit) (fun _ => r = THR ∧ okG 129 G) (fun E _ t => E = NSE ∧ va_P x.1 vwCl (wo x 129 G) t.heap ∧ va_K x.1 vwCl (tysO x.2.1) t) A
def rmR (d : Nat) : Room := { frames := d, cells := 1, slots := 6, locals := 64 * d }
def QX (cx : CX) (x : WX) : Prop := cx.kc = 0 ∧ cx.ks = 0 ∧ cx.n0 = 129 ∧ cx.l.stackTraces = false ∧ (∀ z ∈ cx.c.exceptionTable.toList, False) ∧ cx.r.cells = 1 ∧ cx.r.slots = 6 ∧ cx.q = fun r G' => vx_MQ cx.b (QQ x (some .int) 129 r G' (AA x.2.2 cx.s.heap.size)) (XR x r G' (AA x.2.2 cx.s.heap.size)) cx.a cx.s 1 6 (AA x.2.2 cx.s.heap.size)
theorem exW_use {w : Cond} (h : w ∈ exW) {s : State} {args : Array Value} (hz : va_Nw w s) : w.before args s = true := by
  simp only [exW, List.mem_cons, List.not_mem_nil, or_false] at h
  rcases h with rfl | rfl | rfl | rfl <;> exact va_Nw.use rfl hz
theorem nse_link : Cond.classLink RX11 234 NSE ∈ gw := g6 122 rfl rfl
theorem nse_ini : Cond.initialized NSE ∈ gw := g1 25 rfl rfl
theorem nse_good : ∀ w ∈ Cond.classLink RX11 234 NSE :: Cond.initialized NSE :: vx_at0 RX11 236 NSE ["java/lang/RuntimeException", "java/lang/Exception"], vx_ot w = true := by decide +kernel
section XROWS
variable {cx : CX} {x : WX} {cc : ByteArray} {nL pc : Nat} {L : List (Nat × AV)} {S : List AV} {G : Hp}
theorem x_iretX {own : String} (F : Fx cx x own cc nL (some .int)) {v : Int} (hQ : QX cx x) (d : decode cc pc = .ok (.ireturn, 1)) : Y cx x nL (some .int) 129 pc L [vI v] G (rt v G) := by
  intro r G' ho hS hL hG H locs ls hP hV hl
  cases ho
  obtain ⟨h1, h2, h3, h5, h6, h7, h8, hq⟩ := hQ
  have e1 : 129 - cx.n0 + cx.kc = 0 := by omega
  have e2 : sz 129 - sz cx.n0 + cx.ks = 0 := by rw [h3]; omega
  rw [hq, e1, e2]
  refine vx_ret (W.widen (k := 1) (n := 6) (by omega) (by omega) ?_)
  exact W.iret (v := Int32.ofInt v) F.1 F.2.1 F.2.2.1 (fun t ht hW => ⟨⟨_, (), rfl, ⟨rfl, hS.1, hG⟩, by rw [ht]; exact hP, va_K.moved hW.alike F.2.2.2.2.2.2.1⟩, hV.F ht⟩) hV.2.2 d F.2.2.2.2.2.2.2.1
theorem x_throwN (F : Fx cx x RX11 cc nL (some .int)) (hQ : QX cx x) (hd : 6 ≤ cx.d) (d0 : decode cc pc = .ok (.new 234, 3)) (d3 : decode cc (pc + 3) = .ok (.dup, 1)) (d4 : decode cc (pc + 4) = .ok (.invokespecial 236, 3)) (d7 : decode cc (pc + 7) = .ok (.athrow, 1)) : Y cx x nL (some .int) 129 pc L [] G (rt THR G) := by
  intro r G' ho hS hL hG H locs ls hP hV hl
  cases ho
  obtain ⟨h1, h2, h3, h5, h6, h7, h8, hq⟩ := hQ
  have hro := F.2.2.2.2.2.2.2.2.2.2.1
  have hE := F.2.2.2.2.2.2.2.2.2.2.2
  have e1 : 129 - cx.n0 + cx.kc = 0 := by omega
  have e2 : sz 129 - sz cx.n0 + cx.ks = 0 := by rw [h3]; omega
  rw [hq, e1, e2]
  exact vx_throw0 (own := RX11) (cls := NSE) (names := ["java/lang/RuntimeException", "java/lang/Exception"]) (ik := 234) (ic := 236) (A := AA x.2.2 cx.s.heap.size) (rest := []) F.1 F.2.1 h5 F.2.2.2.2.1 (by decide +kernel) (by decide +kernel) (F.2.2.2.2.2.1 _ nse_link) (F.2.2.2.2.2.1 _ nse_ini) (vx_hat (B := exW) (fun w hw => F.2.2.2.2.2.1 w (List.mem_filter.mpr ⟨exW_good w hw, (List.mem_filter.mp hw).2⟩)) exW_in (fun w hw => exW_use hw (hE.2.2.2.2.2.2.2.2 w hw))) nse_good hE.2.2.2.2.1 hE.2.2.2.2.2.1 hV (by rw [F.2.2.2.1]; exact hl.1) d0 d3 d4 d7 (fun z hz => (h6 z hz).elim) (by show 2 + 3 < cx.r.frames; omega) (by show 0 + (13 * (2 + 1) + 42) ≤ cx.r.locals; omega) (by omega) (by omega) F.2.2.2.2.2.2.2.1 (fun t hA hz hq9 => ⟨(), ⟨rfl, hG⟩, ⟨rfl, hP.kept (fun k q hk => hq9 q.1 (hP k q hk).lt), va_K.moved hA F.2.2.2.2.2.2.1⟩, ⟨Nat.le_trans hV.1 hz, fun q h1 h2 => (hq9 q (Nat.lt_of_lt_of_le h1 hV.1)).trans (hV.2.1 q h1 h2)⟩⟩) hV.2.2 (Nat.le_refl _) (Nat.le_refl _)
end XROWS
def CtR (l : Launch) (x : WX) (d : Nat) (av : List AV) (G : Hp) (o : RT) : Prop :=
  ∀ (r : Int) (G' : Hp), o = some (r, G') → okS av → okG 129 G → ∀ z : Nat, vx_Met l yX11_route (Cond.code yX11_route cX11_route 4 (some .int) :: gw) (rmR d) (va_Pc (cS x.2.2 av) (fun U => U.heap.size = z ∧ va_P x.1 vwCl (wo x 129 G) U.heap ∧ va_K x.1 vwCl (tysO x.2.1) U ∧ EX x U)) (QQ x (some .int) 129 r G' (AA x.2.2 z)) (XR x r G' (AA x.2.2 z)) 1 6 (AA x.2.2 z)
theorem ctr_of {l : Launch} {x : WX} {d : Nat} {av : List AV} {G : Hp} {o : RT} (hst : l.stackTraces = false) (hi : Inj x.2.2) (hw : wS av ≤ 4)
    (h : ∀ cx : CX, Fx cx x RX11 cX11_route 4 (some .int) → cx.d = d → cx.n0 = 129 → cx.nE = 129 → cx.l = l → QX cx x → Y cx x 4 (some .int) 129 0 (aL 0 av) [] G o) : CtR l x d av G o := by
  intro r G' ho hav hG z
  refine vx_ofW (cc := cX11_route) (maxL := 4) (ret := some .int) (by decide) rfl ?_
  intro p e s m args below meth c s₁ B hml hno hv
  obtain ⟨rfl, hsz, hP, hK, hE⟩ := hv
  have hts := atoms_spec (ws := Cond.code yX11_route cX11_route 4 (some .int) :: gw) B.pre
  subst hsz
  have k := h (p, l, e, d, s, m, (cS x.2.2 av).toArray, below, meth, c, 129, 129, fun r G' => vx_MQ below (QQ x (some .int) 129 r G' (AA x.2.2 s.heap.size)) (XR x r G' (AA x.2.2 s.heap.size)) (cS x.2.2 av).toArray s 1 6 (AA x.2.2 s.heap.size), rmR d, 0, 0) ⟨B.exec, B.bytes, B.returns, hml, findClass_of_methodNamed B.named, fun w hw => hts w (List.mem_cons_of_mem _ hw), hK, B.notSynchronized, hi, Nat.le_refl _, ⟨Nat.le_refl _, Nat.le_refl _, by show 129 - 129 + 0 ≤ 1; omega, by show sz 129 - sz 129 + 0 ≤ 6; omega⟩, hE⟩ rfl rfl rfl rfl ⟨rfl, rfl, rfl, hst, hno, rfl, rfl, rfl⟩
  have hl := lv_entry (cS x.2.2 av) (n := 4) (by rw [wS_sl]; exact hw)
  rw [aL_args] at hl
  have k2 := k r G' ho trivial (aL_ok av 0 hav) hG s.heap [] _ hP va_S.rf hl
  rw [lg_entry_eq]
  have e1 : 129 - 129 + 0 = 0 := rfl
  have e2 : sz 129 - sz 129 + 0 = 0 := by omega
  simp only [CX.n0, CX.kc, CX.ks, e1, e2] at k2
  exact k2
theorem dX11_route_0 : decode cX11_route 0 = .ok (.aload_n 0, 1) := by decide +kernel
theorem dX11_route_1 : decode cX11_route 1 = .ok (.getfield 54, 3) := by decide +kernel
theorem dX11_route_4 : decode cX11_route 4 = .ok (.iload_n 1, 1) := by decide +kernel
theorem dX11_route_5 : decode cX11_route 5 = .ok (.iload_n 2, 1) := by decide +kernel
theorem dX11_route_6 : decode cX11_route 6 = .ok (.invokevirtual 225, 3) := by decide +kernel
theorem dX11_route_9 : decode cX11_route 9 = .ok (.ifCond .eq 24, 3) := by decide +kernel
theorem dX11_route_12 : decode cX11_route 12 = .ok (.iload_n 3, 1) := by decide +kernel
theorem dX11_route_13 : decode cX11_route 13 = .ok (.ifCond .lt 20, 3) := by decide +kernel
theorem dX11_route_16 : decode cX11_route 16 = .ok (.iload_n 3, 1) := by decide +kernel
theorem dX11_route_17 : decode cX11_route 17 = .ok (.aload_n 0, 1) := by decide +kernel
theorem dX11_route_18 : decode cX11_route 18 = .ok (.getfield 54, 3) := by decide +kernel
theorem dX11_route_21 : decode cX11_route 21 = .ok (.getfield 231, 3) := by decide +kernel
theorem dX11_route_24 : decode cX11_route 24 = .ok (.if_icmp .ge 9, 3) := by decide +kernel
theorem dX11_route_27 : decode cX11_route 27 = .ok (.iload_n 3, 1) := by decide +kernel
theorem dX11_route_28 : decode cX11_route 28 = .ok (.bipush 20, 2) := by decide +kernel
theorem dX11_route_30 : decode cX11_route 30 = .ok (.if_icmp .lt 11, 3) := by decide +kernel
theorem dX11_route_33 : decode cX11_route 33 = .ok (.new 234, 3) := by decide +kernel
theorem dX11_route_36 : decode cX11_route 36 = .ok (.dup, 1) := by decide +kernel
theorem dX11_route_37 : decode cX11_route 37 = .ok (.invokespecial 236, 3) := by decide +kernel
theorem dX11_route_40 : decode cX11_route 40 = .ok (.athrow, 1) := by decide +kernel
theorem dX11_route_41 : decode cX11_route 41 = .ok (.aload_n 0, 1) := by decide +kernel
theorem dX11_route_42 : decode cX11_route 42 = .ok (.getfield 54, 3) := by decide +kernel
theorem dX11_route_45 : decode cX11_route 45 = .ok (.getfield 237, 3) := by decide +kernel
theorem dX11_route_48 : decode cX11_route 48 = .ok (.iload_n 3, 1) := by decide +kernel
theorem dX11_route_49 : decode cX11_route 49 = .ok (.iaload, 1) := by decide +kernel
theorem dX11_route_50 : decode cX11_route 50 = .ok (.ireturn, 1) := by decide +kernel
def fX11_route (a0 : Nat) (a1 a2 a3 : Int) (G : Hp) : RT := bn (fX1_seek ((rf a0 6)) a1 a2 G) fun v1 G2 => if v1 = 0 then rt THR G2 else (if a3 < 0 then rt THR G2 else (if a3 < (G2 ((rf a0 6)) 4) then (if a3 < 20 then (br (rd G2 ((rf ((rf a0 6)) 2)) 20 a3) fun v3 => rt v3 G2) else rt THR G2) else rt THR G2))
set_option maxRecDepth 20000 in
set_option maxHeartbeats 4000000 in
theorem tX11_route (l : Launch) (hst : l.stackTraces = false) (x : WX) (hi : Inj x.2.2) (G : Hp) (a0 : Nat) (a1 a2 a3 : Int) (ha0 : kd a0 = 11) : CtR l x 6 [vR a0, vI a1, vI a2, vI a3] G (fX11_route a0 a1 a2 a3 G) := by
  refine ctr_of hst hi (Nat.le_of_ble_eq_true rfl) (fun cx F hd hn0 hnE hl hQ => ?_)
  subst hl
  show Y cx x 4 (some .int) 129 0 [(0, vR a0), (1, vI a1), (2, vI a2), (3, vI a3)] [] G _
  unfold fX11_route
  refine x_aload_n F dX11_route_0 rfl rfl rfl ?_
  refine x_getR F flX11_54 ha0 rfl dX11_route_1 rfl ?_
  refine x_iload_n F dX11_route_4 rfl rfl rfl ?_
  refine x_iload_n F dX11_route_5 rfl rfl rfl ?_
  refine s_callV F [vI a1, vI a2] [] lkX11_225 mX1_seek rfl (tf11_6 ha0).1 rfl hnE hn0 hd (tX1_seek cx.l x hi G ((rf a0 6)) a1 a2 (tf11_6 ha0).1) rfl rfl dX11_route_6 rfl rfl (fun v1 G2 => ?_)
  refine x_ifeq (pt := 33) F dX11_route_9 rfl rfl ?_ ?_
  · exact x_throwN F hQ (by omega) dX11_route_33 dX11_route_36 dX11_route_37 dX11_route_40
  · refine x_iload_n F dX11_route_12 rfl rfl rfl ?_
    refine x_iflt (pt := 33) F dX11_route_13 rfl rfl ?_ ?_
    · exact x_throwN F hQ (by omega) dX11_route_33 dX11_route_36 dX11_route_37 dX11_route_40
    · refine x_iload_n F dX11_route_16 rfl rfl rfl ?_
      refine x_aload_n F dX11_route_17 rfl rfl rfl ?_
      refine x_getR F flX11_54 ha0 rfl dX11_route_18 rfl ?_
      refine s_getI F flX11_231 (tf11_6 ha0).1 rfl dX11_route_21 rfl ?_
      refine x_icmpge (pt := 33) F dX11_route_24 rfl rfl ?_ ?_
      · refine x_iload_n F dX11_route_27 rfl rfl rfl ?_
        refine x_bipush F dX11_route_28 ⟨by decide, by decide⟩ (by decide) rfl ?_
        refine x_icmplt (pt := 41) F dX11_route_30 rfl rfl ?_ ?_
        · refine x_aload_n F dX11_route_41 rfl rfl rfl ?_
          refine x_getR F flX11_54 ha0 rfl dX11_route_42 rfl ?_
          refine x_getR F flX11_237 (tf11_6 ha0).1 rfl dX11_route_45 rfl ?_
          refine x_iload_n F dX11_route_48 rfl rfl rfl ?_
          refine s_iald F (tf1_2 (tf11_6 ha0).1).1 (tf1_2 (tf11_6 ha0).1).2 dX11_route_49 rfl (fun v3 => ?_)
          exact x_iretX F hQ dX11_route_50
        · exact x_throwN F hQ (by omega) dX11_route_33 dX11_route_36 dX11_route_37 dX11_route_40
      · exact x_throwN F hQ (by omega) dX11_route_33 dX11_route_36 dX11_route_37 dX11_route_40
/-! the law's own route: it catches -/
def mrg (G' G : Hp) : Hp := fun c => if c < 129 then G' c else G c
theorem mrg_lt {G' G : Hp} {c : Nat} (h : c < 129) : mrg G' G c = G' c := by unfold mrg; rw [if_pos h]
theorem mrg_ge {G' G : Hp} {c : Nat} (h : ¬ c < 129) : mrg G' G c = G c := by unfold mrg; rw [if_neg h]
theorem wo_mrg {x : WX} {G' G : Hp} : wo x 129 (mrg G' G) = wo x 129 G' := by
  unfold wo
  apply List.map_congr_left
  intro c hc
  rw [mrg_lt (List.mem_range.mp hc)]
theorem wo_130 {x : WX} {G : Hp} : wo x 130 G = wo x 129 G ++ [(x.2.2 129, ev x 129 (G 129))] := wo_succ
theorem P_pre {x : WX} {G : Hp} {H : Heap} (h : va_P x.1 vwCl (wo x 130 G) H) : va_P x.1 vwCl (wo x 129 G) H := by
  intro k q hk
  have hk2 : k < 129 := by
    have := (List.getElem?_eq_some_iff.mp hk).1
    rw [wo_len] at this; exact this
  refine h k q ?_
  rw [wo_at hk2] at hk
  rw [wo_at (by omega)]; exact hk
theorem P_ext {x : WX} {G' G : Hp} {H H1 : Heap} (h : va_P x.1 vwCl (wo x 130 G) H) (h1 : va_P x.1 vwCl (wo x 129 G') H1) (hk : H1[x.2.2 129]? = H[x.2.2 129]?) : va_P x.1 vwCl (wo x 130 (mrg G' G)) H1 := by
  rw [wo_130, wo_mrg, mrg_ge (by omega)]
  refine h1.app ?_
  intro k q hq
  have hz : k < 1 := (List.getElem?_eq_some_iff.mp hq).1
  have hz : k = 0 := by omega
  subst hz
  cases hq
  exact (h 129 _ (wo_at (by omega))).kept hk
theorem okG_mrg {G' G : Hp} (h : okG 129 G') (h0 : okG 130 G) : okG 130 (mrg G' G) := by
  refine ⟨fun c k => ?_, fun _ c k h1 h2 h3 => ?_⟩
  · by_cases hc : c < 129
    · rw [mrg_lt hc]; exact h.1 c k
    · rw [mrg_ge hc]; exact h0.1 c k
  · rw [mrg_lt h1]; exact h.2 (Nat.le_refl _) c k h1 h2 h3
theorem okG_130 {G : Hp} (h : okG 130 G) : okG 129 G := ⟨h.1, fun _ => h.2 (by omega)⟩
def AB (ad : Nat → Nat) (z : Nat) : Nat → Prop := fun q => AA ad z q ∨ q = ad 129
theorem ev_out {x : WX} {g : Nat → Int} : ev x 129 g = .inl (x.2.1 21, 1, .inr (.inl (fun k => Int64.ofInt (g k)))) := rfl
def fL_route (a0 a1 a2 : Int) (G : Hp) : RT := match fX11_route 0 a0 a1 a2 G with
  | none => none
  | some p => if p.1 = THR then some (1, mrg p.2 G) else some (0, up (mrg p.2 G) 129 0 p.1)
def QL (x : WX) (r : Int) (G : Hp) (A : Nat → Prop) : Array Value → State → Outcome → State → Prop := va_Qi (S := Unit) (fun v _ => v = Int32.ofInt r ∧ okI r ∧ okG 130 G) (fun _ t => va_P x.1 vwCl (wo x 130 G) t.heap ∧ va_K x.1 vwCl (tysO x.2.1) t) A
def hhL : List (Nat × Nat × Nat × Nat) := [(0, 12, 15, 13)]
def wL : List Cond := Cond.codeWith yL_route cL_route 6 (some .int) hhL :: gw
theorem Met_ofH {l : Launch} {y : MethodName} {ws ws' : List Cond} {rm : Room} {Pc : Array Value → State → Prop} {Qc : Array Value → State → Outcome → State → Prop} {mc ms : Nat} {free : Addr → Prop} {cc : ByteArray} {maxL : Nat} {ret : Option FieldType} {hh : List (Nat × Nat × Nat × Nat)}
    (hy : plainName y.cls = true) (hw : ws = Cond.codeWith y cc maxL ret hh :: ws')
    (body : ∀ p e s m args below meth c s₁, BodyLoose p l y (headSpec ws rm) cc maxL ret e s m args below meth c s₁ → c.maxLocals = maxL → c.exceptionTable.toList = tableOf hh → Pc args s →
      W p l e (headSpec ws rm).room s m args below meth c s.heap [] 0 0 (MQ below Qc args s mc ms free) (entryFrame m args maxL)) : Met l y ws rm Pc Qc mc ms free := by
  refine MetFree.of_bodyS (code := cc) (maxLocals := maxL) (ret := ret) hy ?_ ?_
  · intro args s m h hn
    obtain ⟨m9, meth, c, hn9, h1, h2, h3, h4, -, h5, h6, -⟩ := Cond.codeWith_spec (atoms_spec (ws := ws) h _ (by rw [hw]; exact List.mem_cons_self))
    cases hn.symm.trans hn9
    exact ⟨meth, c, h1, h2, h3, h4, h5, h6⟩
  · intro p e s m args below meth c s₁ B hml hP _
    have hh0 : s₁.heap = s.heap := by rw [B.state]; rfl
    obtain ⟨t, a1, o, b1, b2, b3⟩ := body p e s m args below meth c s₁ B hml (vx_table (x := y) B (atoms_spec (ws := ws) B.pre _ (by rw [hw]; exact List.mem_cons_self))) hP s₁ hh0 (Stand.of_body B)
    exact ⟨t, o, a1, b1, b2, ⟨b3.1, b3.2⟩⟩
theorem dL_route_0 : decode cL_route 0 = .ok (.aload 4, 2) := by decide +kernel
theorem dL_route_2 : decode cL_route 2 = .ok (.iconst 0, 1) := by decide +kernel
theorem dL_route_3 : decode cL_route 3 = .ok (.aload_n 0, 1) := by decide +kernel
theorem dL_route_4 : decode cL_route 4 = .ok (.iload_n 1, 1) := by decide +kernel
theorem dL_route_5 : decode cL_route 5 = .ok (.iload_n 2, 1) := by decide +kernel
theorem dL_route_6 : decode cL_route 6 = .ok (.iload_n 3, 1) := by decide +kernel
theorem dL_route_7 : decode cL_route 7 = .ok (.invokevirtual 7, 3) := by decide +kernel
theorem dL_route_10 : decode cL_route 10 = .ok (.i2l, 1) := by decide +kernel
theorem dL_route_11 : decode cL_route 11 = .ok (.lastore, 1) := by decide +kernel
theorem dL_route_12 : decode cL_route 12 = .ok (.goto 7, 3) := by decide +kernel
theorem dL_route_15 : decode cL_route 15 = .ok (.astore 5, 2) := by decide +kernel
theorem dL_route_17 : decode cL_route 17 = .ok (.iconst 1, 1) := by decide +kernel
theorem dL_route_18 : decode cL_route 18 = .ok (.ireturn, 1) := by decide +kernel
theorem dL_route_19 : decode cL_route 19 = .ok (.iconst 0, 1) := by decide +kernel
theorem dL_route_20 : decode cL_route 20 = .ok (.ireturn, 1) := by decide +kernel
set_option maxHeartbeats 4000000 in
theorem tL_route (l : Launch) (hst : l.stackTraces = false) (x : WX) (hi : Inj x.2.2) (G : Hp) (a1 a2 a3 : Int) (r : Int) (G' : Hp) (ho : fL_route a1 a2 a3 G = some (r, G')) (hav : okS [vR 0, vI a1, vI a2, vI a3, vR 129]) (hG : okG 130 G) (z : Nat) : Met l yL_route wL (rmR 7) (va_Pc (cS x.2.2 [vR 0, vI a1, vI a2, vI a3, vR 129]) (fun U => U.heap.size = z ∧ va_P x.1 vwCl (wo x 130 G) U.heap ∧ va_K x.1 vwCl (tysO x.2.1) U ∧ EX x U)) (QL x r G' (AB x.2.2 z)) 1 6 (AB x.2.2 z) := by
  refine Met_ofH (cc := cL_route) (maxL := 6) (ret := some .int) (hh := hhL) (ws' := gw) (by decide) rfl ?_
  intro p e s m args below meth c s₁ B hml htab hv
  obtain ⟨rfl, hsz, hP, hK, hE⟩ := hv
  subst hsz
  have hts : ∀ w ∈ gw, w.before (cS x.2.2 [vR 0, vI a1, vI a2, vI a3, vR 129]).toArray s = true := fun w hw => atoms_spec (ws := wL) B.pre w (List.mem_cons_of_mem _ hw)
  have hx := B.exec
  have hb := B.bytes
  have hr := B.returns
  have hlk := B.notSynchronized
  have hown : s.vm.findClass RL = some m.cls := findClass_of_methodNamed B.named
  have hl := lv_entry (cS x.2.2 [vR 0, vI a1, vI a2, vI a3, vR 129]) (n := 6) (by rw [wS_sl]; exact Nat.le_of_ble_eq_true rfl)
  rw [aL_args] at hl
  rw [lg_entry_eq]
  generalize (lg_sl (cS x.2.2 [vR 0, vI a1, vI a2, vI a3, vR 129]) ++ List.replicate (6 - (lg_sl (cS x.2.2 [vR 0, vI a1, vI a2, vI a3, vR 129])).length) Slot.unset).toArray = ls at hl ⊢
  have hl0 : ls[0]? = some (.val (.ref (x.2.2 0))) := gL_at (ad := x.2.2) (v := vR 0) hl rfl
  have hl1 : ls[1]? = some (.val (.int (Int32.ofInt a1))) := gL_at (ad := x.2.2) (v := vI a1) hl rfl
  have hl2 : ls[2]? = some (.val (.int (Int32.ofInt a2))) := gL_at (ad := x.2.2) (v := vI a2) hl rfl
  have hl3 : ls[3]? = some (.val (.int (Int32.ofInt a3))) := gL_at (ad := x.2.2) (v := vI a3) hl rfl
  have hl4 : ls[4]? = some (.val (.ref (x.2.2 129))) := gL_at (ad := x.2.2) (v := vR 129) hl rfl
  refine lv_aload hx hb dL_route_0 hl4 ?_
  refine lv_iconst hx hb dL_route_2 rfl ?_
  refine lv_aload_n hx hb dL_route_3 rfl hl0 ?_
  refine lv_iload_n hx hb dL_route_4 rfl hl1 ?_
  refine lv_iload_n hx hb dL_route_5 rfl hl2 ?_
  refine lv_iload_n hx hb dL_route_6 rfl hl3 ?_
  unfold fL_route at ho
  cases hf : fX11_route 0 a1 a2 a3 G with
  | none => rw [hf] at ho; cases ho
  | some q =>
    obtain ⟨ro, Go⟩ := q
    rw [hf] at ho
    replace ho : (if ro = THR then some (1, mrg Go G) else some (0, up (mrg Go G) 129 0 ro)) = some (r, G') := ho
    have hct := tX11_route l hst x hi G 0 a1 a2 a3 rfl ro Go hf ⟨trivial, hav.2.1, hav.2.2.1, hav.2.2.2.1, trivial⟩ (okG_130 hG) s.heap.size
    have he := wo_at (x := x) (G := G) (n := 129) (c := 0) (by omega)
    rw [ev_obj (ci := 11) rfl (by omega)] at he
    have hrec := va_recv hK (P_pre hP) (ci := 11) (q0 := 0) rfl he
    have cb : CallB (rmR 7) s (cS x.2.2 [vR 0, vI a1, vI a2, vI a3, vR 129]).toArray RL 7 yX11_route cX11_route 4 (some .int) (Cond.code yX11_route cX11_route 4 (some .int) :: gw) (rmR 6) 1 6 3 := callB_of 3 hts (gw_code mX11_route.2.2.2.1) rfl rfl rfl (hts _ mX11_route.2.2.1) (hts _ lkL_7) mX11_route.2.2.2.2.1 ⟨by show 6 + 1 ≤ 7; omega, by show 8 + (4 + 11) + 64 * 6 ≤ 64 * 7; omega⟩
    have run := vx_runV (l := l) (e := e) (below := below) (meth := meth) (H := s.heap) (locs := []) (cells := 0) (slots := 0) (As := cS x.2.2 [vI a1, vI a2, vI a3]) (rest := [.int (Int32.ofInt 0), .ref (x.2.2 129)]) (g := F0 m 7 ls (.int (Int32.ofInt a3) :: .int (Int32.ofInt a2) :: .int (Int32.ofInt a1) :: .ref (x.2.2 0) :: [.int (Int32.ofInt 0), .ref (x.2.2 129)])) (b := x.2.2 0) (C := yX11_route.cls) (Ts := gw) ⟨hx, hb, hml, hown, hts⟩ hct ⟨cb, hts _ mX11_route.1, hts _ mX11_route.2.1⟩ ⟨blind, hrec, fun U hU hW => ⟨rfl, by rw [hU], by rw [hU]; exact P_pre hP, va_K.moved hW.alike hK, hE.call va_S.rf hU hW⟩⟩ rfl rfl hl.1 rfl (lv_room (by show 1 + (1 + 0) ≤ 8; omega)) dL_route_7 ⟨Nat.le_refl _, Nat.le_refl _⟩
    have h129 : x.2.2 129 < s.heap.size := (hP 129 _ (wo_at (by omega))).lt
    have hnA : ¬ AA x.2.2 s.heap.size (x.2.2 129) := by
      rintro (⟨c, hc, he⟩ | h)
      · have := hi 129 c (by omega) (by omega) he; omega
      · omega
    refine vx_calli (a := #[]) (A0 := AB x.2.2 s.heap.size) (H0 := s.heap) run va_S.rf (fun q _ h => Or.inl h) (fun q h => Or.inl h) (fun q _ h => Or.inl h) ?_ ?_
    · intro E ce q9 u t H1 locs1 ht hAl hp hBX hsz1 hkeep hV1 hce hcv hcl
      obtain ⟨hr9, hG9⟩ := hp
      obtain ⟨hE9, hP9, hK9⟩ := hBX
      subst hE9
      rw [if_pos hr9] at ho
      cases ho
      refine vx_catch (own := RL) (name := NSE) hown [] ⟨0, 12, 15, 13⟩ [] (htab.trans rfl) (fun _ hz => nomatch hz) (by decide) (by decide) (hts _ wd_6_117) (exW_use (by simp [exW]) (hE.2.2.2.2.2.2.2.2 _ (by simp [exW]))) hce hcv hcl ?_
      refine lv_astore hx hb dL_route_15 hl (by decide) rfl (fun ls' hl' => ?_)
      refine lv_iconst hx hb dL_route_17 rfl ?_
      exact W.iret (v := Int32.ofInt 1) hx hb hr (fun t9 ht9 hW9 => ⟨⟨_, (), rfl, ⟨rfl, ⟨by decide, by decide⟩, okG_mrg hG9 hG⟩, by rw [ht9]; exact P_ext hP (by rw [← ht]; exact hP9) (hkeep _ h129 hnA), va_K.moved hW9.alike hK⟩, hV1.F ht9⟩) hV1.2.2 dL_route_18 hlk
    · intro r9 u t H1 locs1 ht hAl hpost hB hsz1 hkeep hV1
      obtain ⟨rfl, hok9, hG9⟩ := hpost
      have hne : ¬ ro = THR := by
        intro h; rw [h] at hok9; exact absurd hok9 (by unfold okI THR; omega)
      rw [if_neg hne] at ho
      cases ho
      have hP2 := P_ext hP (by rw [← ht]; exact hB.1) (hkeep _ h129 hnA)
      refine lv_i2l hx hb dL_route_10 (o32_i2l hok9) ?_
      have hea := wo_at (x := x) (G := mrg Go G) (n := 130) (c := 129) (by omega)
      rw [ev_out] at hea
      refine va_last (D := x.1) (cl := vwCl) hx hb hK hP2 (wo_D (A := AB x.2.2 s.heap.size) (by omega) hi (fun c hc => (Nat.lt_or_ge c 129).elim (fun h => Or.inl (Or.inl ⟨c, h, rfl⟩)) (fun h => Or.inr (by rw [show c = 129 by omega])))) hV1 129 1 hea rfl (o32_in (i := 0) (len := 1) ⟨by decide, by decide⟩ ⟨by decide, by decide⟩) dL_route_11 (fun H2 locs2 hP3 hD3 hV3 => ?_)
      rw [o32_clamp (i := 0) ⟨by decide, by decide⟩, upd_o64, show (fun k => Int64.ofInt (if k = (0 : Int).toNat then ro else mrg Go G 129 k)) = (fun k => Int64.ofInt (up (mrg Go G) 129 0 ro 129 k)) from by rw [up_self]; rfl, ← ev_out, wo_set (by omega) (fun j hj => up_ne hj)] at hP3
      refine lv_goto (tgt := 19) hx hb dL_route_12 rfl ?_
      refine lv_iconst hx hb dL_route_19 rfl ?_
      exact W.iret (v := Int32.ofInt 0) hx hb hr (fun t9 ht9 hW9 => ⟨⟨_, (), rfl, ⟨rfl, zok, okG_up (okG_mrg hG9 hG) (by show okJ ro; have h := hok9; unfold okI at h; unfold okJ; omega) rfl⟩, by rw [ht9]; exact hP3, va_K.moved hW9.alike hK⟩, hV3.F ht9⟩) hV3.2.2 dL_route_20 hlk
