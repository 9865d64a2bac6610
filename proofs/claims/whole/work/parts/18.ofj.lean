/-! a method of a class of the JDK, which no native row is -/
theorem Met_ofF {l : Launch} {y : MethodName} {ws ws' : List Cond} {rm : Room} {Pc : Array Value → State → Prop} {Qc : Array Value → State → Outcome → State → Prop} {mc ms : Nat} {free : Addr → Prop} {cc : ByteArray} {maxL : Nat} {ret : Option FieldType}
    (hy : plainFor y = true) (hw : ws = Cond.code y cc maxL ret :: ws')
    (body : ∀ p e s m args below meth c s₁, BodyLoose p l y (headSpec ws rm) cc maxL ret e s m args below meth c s₁ → c.maxLocals = maxL → Pc args s →
      W p l e (headSpec ws rm).room s m args below meth c s.heap [] 0 0 (MQ below Qc args s mc ms free) (entryFrame m args maxL)) : Met l y ws rm Pc Qc mc ms free := by
  refine MetFree.of_bodySF (code := cc) (maxLocals := maxL) (ret := ret) hy ?_ ?_
  · intro args s m h hn
    obtain ⟨meth, c, h1, h2, h3, h4, h5, h6, -, -⟩ := Cond.code_spec hn (atoms_spec (ws := ws) h _ (by rw [hw]; exact List.mem_cons_self))
    exact ⟨meth, c, h1, h2, h3, h4, h5, h6⟩
  · intro p e s m args below meth c s₁ B hml hP _
    have hh0 : s₁.heap = s.heap := by rw [B.state]; rfl
    obtain ⟨t, a1, o, b1, b2, b3⟩ := body p e s m args below meth c s₁ B hml hP s₁ hh0 (Stand.of_body B)
    exact ⟨t, o, a1, b1, b2, ⟨b3.1, b3.2⟩⟩
theorem ct_ofJ {l : Launch} {x : WX} {y : MethodName} {cc : ByteArray} {nL : Nat} {ret : Option FieldType} {d n n' : Nat} {av : List AV} {G : Hp} {o : Option (Int × Hp)} (hy : plainFor y = true) (hi : Inj x.2.2) (hn : n ≤ n') (hn' : n' ≤ 130) (hw : wS av ≤ nL)
    (h : ∀ cx : CX, Fx cx x y.cls cc nL ret → cx.d = d → cx.n0 = n → cx.nE = n' → cx.l = l → Y cx x nL ret n 0 (aL 0 av) [] G o) : Ct l x y cc nL ret d n n' av G o := by
  intro r G' ho hav hG z
  refine Met_ofF (cc := cc) (maxL := nL) (ret := ret) hy rfl ?_
  intro p e s m args below meth c s₁ B hml hv
  obtain ⟨rfl, hsz, hP, hK⟩ := hv
  have hts := atoms_spec (ws := Cond.code y cc nL ret :: gw) B.pre
  subst hsz
  have k := h (p, l, e, d, s, m, (cS x.2.2 av).toArray, below, meth, c, n, n') ⟨B.exec, B.bytes, B.returns, hml, findClass_of_methodNamed B.named, fun w hw => hts w (List.mem_cons_of_mem _ hw), hK, B.notSynchronized, hi, hn, hn'⟩ rfl rfl rfl rfl
  have hl := lv_entry (cS x.2.2 av) (n := nL) (by rw [wS_sl]; exact hw)
  rw [aL_args] at hl
  have k2 := k r G' ho trivial (aL_ok av 0 hav) hG s.heap [] _ hP va_S.rf hl
  rw [lg_entry_eq]
  have e1 : n - n = 0 := Nat.sub_self n
  have e2 : sz n - sz n = 0 := Nat.sub_self _
  simp only [e1, e2] at k2
  exact k2
theorem x_ldcw {cx : CX} {x : WX} {own : String} {cc : ByteArray} {nL n pc pc' : Nat} {ret : Option FieldType} {L : List (Nat × AV)} {S : List AV} {G : Hp} {o : RT} (F : Fx cx x own cc nL ret) {k : Nat} {v : Int} {v' : Int32} (hw : Cond.constant own k v' ∈ gw) (d : decode cc pc = .ok (.ldc_w k, 3)) (hk : okI v) (hv : v' = Int32.ofInt v) (hp : pc + 3 = pc') (y : Y cx x nL ret n pc' L (vI v :: S) G o) : Y cx x nL ret n pc L S G o := by
  subst hv
  subst hp
  intro r G' ho hS hL hG H locs ls hP hV hl
  exact lv_ldcw F.1 F.2.1 F.2.2.2.2.1 (F.2.2.2.2.2.1 _ hw) d (y r G' ho ⟨hk, hS⟩ hL hG H locs ls hP hV hl)
