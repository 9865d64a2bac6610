/-! ROWS of calls -/
theorem sum_take : ∀ (l : List Nat) (a b : Nat), a ≤ b → (l.take a).sum ≤ (l.take b).sum
  | [], _, _, _ => by simp
  | _ :: _, 0, _, _ => by simp
  | z :: r, a + 1, 0, h => by omega
  | z :: r, a + 1, b + 1, h => by
    have := sum_take r a b (by omega)
    simp only [List.take_succ_cons, List.sum_cons]; omega
theorem sz_mono {a b : Nat} (h : a ≤ b) : sz a ≤ sz b := by
  unfold sz
  rw [List.map_take, List.map_take]
  exact sum_take _ a b h
theorem cS_app (ad : Nat → Nat) : ∀ a b : List AV, cS ad (a ++ b) = cS ad a ++ cS ad b
  | [], _ => rfl
  | v :: r, b => by show cv ad v :: cS ad (r ++ b) = _; rw [cS_app ad r b]; rfl
theorem cS_rev (ad : Nat → Nat) : ∀ a : List AV, cS ad a.reverse = (cS ad a).reverse
  | [] => rfl
  | v :: r => by rw [List.reverse_cons, cS_app, cS_rev ad r]; show _ = (cv ad v :: cS ad r).reverse; rw [List.reverse_cons]; rfl
theorem cS_len (ad : Nat → Nat) : ∀ a : List AV, (cS ad a).length = a.length
  | [] => rfl
  | v :: r => by show (cS ad r).length + 1 = r.length + 1; rw [cS_len ad r]
theorem okS_app : ∀ {a b : List AV}, okS (a ++ b) → okS a ∧ okS b
  | [], _, h => ⟨trivial, h⟩
  | v :: r, b, h => ⟨⟨h.1, (okS_app (a := r) h.2).1⟩, (okS_app (a := r) h.2).2⟩
theorem okS_app2 : ∀ {a b : List AV}, okS a → okS b → okS (a ++ b)
  | [], _, _, h => h
  | v :: r, b, h, h2 => ⟨h.1, okS_app2 (a := r) h.2 h2⟩
theorem okS_rev : ∀ {a : List AV}, okS a.reverse → okS a
  | [], _ => trivial
  | v :: r, h => by rw [List.reverse_cons] at h; exact ⟨(okS_app h).2.1, okS_rev (okS_app h).1⟩
/-- what is known of a method that is called: on an object; without one -/
def MDv (y : MethodName) (bc : ByteArray) (mL : Nat) (rt' : Option FieldType) (np : Nat) : Prop := Cond.instanceMethod y ∈ gw ∧ Cond.selects y.cls y y ∈ gw ∧ Cond.initialized y.cls ∈ gw ∧ Cond.code y bc mL rt' ∈ gw ∧ (y.cls ≠ "java/lang/invoke/MethodHandle" ∧ y.cls ≠ "java/lang/invoke/VarHandle" ∧ (parseMethodDescriptor y.desc).map (fun d => d.parameters.length) = some np) ∧ mL ≤ 40
def MDs (y : MethodName) (bc : ByteArray) (mL : Nat) (rt' : Option FieldType) (np : Nat) : Prop := Cond.static y ∈ gw ∧ Cond.initialized y.cls ∈ gw ∧ Cond.code y bc mL rt' ∈ gw ∧ (y.cls ≠ "java/lang/invoke/MethodHandle" ∧ y.cls ≠ "java/lang/invoke/VarHandle" ∧ (parseMethodDescriptor y.desc).map (fun d => d.parameters.length) = some np) ∧ mL ≤ 40
theorem le_d {c d d' : Nat} (h : c = d) (hb : Nat.ble (d' + 1) d = true) : d' + 1 ≤ c := by rw [h]; exact Nat.le_of_ble_eq_true hb
theorem gw_code {y : MethodName} {bc : ByteArray} {mL : Nat} {rt' : Option FieldType} (h : Cond.code y bc mL rt' ∈ gw) : GoodIn gw (Cond.code y bc mL rt' :: gw) := gw_GoodIn (fun w hw => (List.mem_cons.mp hw).elim (fun e => by rw [e]; exact h) id) (fun _ h => h)
theorem blind {av : List Value} {x : WX} {n z : Nat} {G : Hp} : FrameBlind (va_Pc av (fun U => U.heap.size = z ∧ va_P x.1 vwCl (wo x n G) U.heap ∧ va_K x.1 vwCl (tysO x.2.1) U ∧ EX x U)) := fun a U g mk q => by
  obtain ⟨q0, q1, qP, qK, qE⟩ := q
  exact ⟨q0, q1, qP, va_K.moved (u := U) (U := U.calling g mk a) (Vm.Alike.refl U.vm) qK, qE.same (U := U.calling g mk a) rfl rfl⟩
section CROWS
variable {cx : CX} {x : WX} {own : String} {cc : ByteArray} {nL n pc pc' : Nat} {ret : Option FieldType} {L : List (Nat × AV)} {S : List AV} {G : Hp} {o : RT}
theorem x_callV (F : Fx cx x own cc nL ret) {idx mL d' n1 : Nat} {y : MethodName} {bc : ByteArray} {ty : FieldType} {as S0 : List AV} {ci t : Nat} {T : u_T} {N : Nat} {f : Int → Hp → RT} (hw : Cond.methodLink own idx y ∈ gw) (hm : MDv y bc mL (some ty) as.length) (hcl : vwCl[ci]? = some (y.cls, T, N)) (hk : kd t = ci) (hci : ci < 13) (ht : t < n) (hn : n ≤ n1) (hn1 : n1 ≤ cx.nE) (hn0 : cx.n0 ≤ n) (hct : Ct cx.l x y bc mL (some ty) d' n n1 (vR t :: as) G o) (hd : d' + 1 ≤ cx.d) (h8 : wS S ≤ 8) (d : decode cc pc = .ok (.invokevirtual idx, 3)) (hp : pc + 3 = pc') (hst : S0 = as.reverse ++ vR t :: S) (k : ∀ (r : Int) (g : Hp), Y cx x nL ret n1 pc' L (vI r :: S) g (f r g)) : Y cx x nL ret n pc L S0 G (bn o f) := by
  subst hst
  subst hp
  intro r G' ho hS hL hG H locs ls hP hV hl
  cases o with
  | none => cases ho
  | some q =>
    obtain ⟨ro, Go⟩ := q
    have hs := okS_app hS
    have hav : okS (vR t :: as) := ⟨trivial, okS_rev hs.1⟩
    have hct' := hct ro Go rfl hav hG H.size
    have hro := F.2.2.2.2.2.2.2.2.2.2.1
    have hmono1 := sz_mono hn0
    have hmono2 := sz_mono hn
    have hmono3 := sz_mono hn1
    have cb : CallB cx.r cx.s cx.a own idx y bc mL (some ty) (Cond.code y bc mL (some ty) :: gw) (rmd d' n n1) (n1 - n) (sz n1 - sz n) as.length := callB_of as.length F.2.2.2.2.2.1 (gw_code hm.2.2.2.1) rfl rfl rfl (F.2.2.2.2.2.1 _ hm.2.2.1) (F.2.2.2.2.2.1 _ hw) hm.2.2.2.2.1 ⟨by show d' + 1 ≤ cx.r.frames; omega, by show 8 + (mL + 11) + 64 * d' ≤ cx.r.locals; have := hm.2.2.2.2.2; omega⟩
    have he := wo_at (x := x) (G := G) ht
    rw [ev_obj hk hci] at he
    have hrec := va_recv F.2.2.2.2.2.2.1 hP (ci := ci) (q0 := t) hcl he
    have run := va_runV (e := cx.e) (below := cx.b) (meth := cx.t) (locs := locs) (cells := n - cx.n0 + cx.kc) (slots := sz n - sz cx.n0 + cx.ks) (As := cS x.2.2 as) (rest := cS x.2.2 S) (g := F0 cx.m pc ls (cS x.2.2 (as.reverse ++ vR t :: S))) (b := x.2.2 t) (C := y.cls) (Ts := gw) ⟨F.1, F.2.1, F.2.2.2.1, F.2.2.2.2.1, F.2.2.2.2.2.1⟩ hct' ⟨cb, F.2.2.2.2.2.1 _ hm.1, F.2.2.2.2.2.1 _ hm.2.1⟩ ⟨blind, hrec, fun U hU hW => ⟨rfl, by rw [hU], by rw [hU]; exact hP, va_K.moved hW.alike F.2.2.2.2.2.2.1, F.2.2.2.2.2.2.2.2.2.2.2.call hV hU hW⟩⟩ rfl (cS_len _ _) hl.1 (by show cS x.2.2 _ = _; rw [cS_app, cS_rev]; rfl) (lv_room (by rw [wS_cat]; exact h8)) d ⟨by show n - cx.n0 + cx.kc + (n1 - n) ≤ cx.r.cells; omega, by show sz n - sz cx.n0 + cx.ks + (sz n1 - sz n) ≤ cx.r.slots; omega⟩
    refine va_calli (a := #[]) run hV (fun q hq h => h.elim (fun h => Or.inl h) (fun h => absurd hq (Nat.not_lt.mpr h))) (fun q h => h.elim (fun h => Or.inl h) (fun h => Or.inr (Nat.le_trans hV.1 h))) (fun v u t1 H1 locs1 ht1 hvm hpost hB hz hk1 hV1 => ?_)
    obtain ⟨rfl, hpost2, hpost3⟩ := hpost
    have k' := k ro Go r G' ho ⟨hpost2, hs.2.2⟩ hL hpost3 H1 locs1 ls (by rw [← ht1]; exact hB.1) hV1 hl
    rw [show n1 - cx.n0 + cx.kc = n - cx.n0 + cx.kc + (n1 - n) by omega, show sz n1 - sz cx.n0 + cx.ks = sz n - sz cx.n0 + cx.ks + (sz n1 - sz n) by omega] at k'
    exact k'
theorem x_callVv (F : Fx cx x own cc nL ret) {idx mL d' n1 : Nat} {y : MethodName} {bc : ByteArray} {ty : FieldType} {as S0 : List AV} {ci t : Nat} {T : u_T} {N : Nat} {f : Int → Hp → RT} (hw : Cond.methodLink own idx y ∈ gw) (hm : MDv y bc mL none as.length) (hcl : vwCl[ci]? = some (y.cls, T, N)) (hk : kd t = ci) (hci : ci < 13) (ht : t < n) (hn : n ≤ n1) (hn1 : n1 ≤ cx.nE) (hn0 : cx.n0 ≤ n) (hct : Ct cx.l x y bc mL none d' n n1 (vR t :: as) G o) (hd : d' + 1 ≤ cx.d) (h8 : wS S ≤ 8) (d : decode cc pc = .ok (.invokevirtual idx, 3)) (hp : pc + 3 = pc') (hst : S0 = as.reverse ++ vR t :: S) (k : ∀ (r : Int) (g : Hp), Y cx x nL ret n1 pc' L S g (f r g)) : Y cx x nL ret n pc L S0 G (bn o f) := by
  subst hst
  subst hp
  intro r G' ho hS hL hG H locs ls hP hV hl
  cases o with
  | none => cases ho
  | some q =>
    obtain ⟨ro, Go⟩ := q
    have hs := okS_app hS
    have hav : okS (vR t :: as) := ⟨trivial, okS_rev hs.1⟩
    have hct' := hct ro Go rfl hav hG H.size
    have hro := F.2.2.2.2.2.2.2.2.2.2.1
    have hmono1 := sz_mono hn0
    have hmono2 := sz_mono hn
    have hmono3 := sz_mono hn1
    have cb : CallB cx.r cx.s cx.a own idx y bc mL none (Cond.code y bc mL none :: gw) (rmd d' n n1) (n1 - n) (sz n1 - sz n) as.length := callB_of as.length F.2.2.2.2.2.1 (gw_code hm.2.2.2.1) rfl rfl rfl (F.2.2.2.2.2.1 _ hm.2.2.1) (F.2.2.2.2.2.1 _ hw) hm.2.2.2.2.1 ⟨by show d' + 1 ≤ cx.r.frames; omega, by show 8 + (mL + 11) + 64 * d' ≤ cx.r.locals; have := hm.2.2.2.2.2; omega⟩
    have he := wo_at (x := x) (G := G) ht
    rw [ev_obj hk hci] at he
    have hrec := va_recv F.2.2.2.2.2.2.1 hP (ci := ci) (q0 := t) hcl he
    have run := va_runV (e := cx.e) (below := cx.b) (meth := cx.t) (locs := locs) (cells := n - cx.n0 + cx.kc) (slots := sz n - sz cx.n0 + cx.ks) (As := cS x.2.2 as) (rest := cS x.2.2 S) (g := F0 cx.m pc ls (cS x.2.2 (as.reverse ++ vR t :: S))) (b := x.2.2 t) (C := y.cls) (Ts := gw) ⟨F.1, F.2.1, F.2.2.2.1, F.2.2.2.2.1, F.2.2.2.2.2.1⟩ hct' ⟨cb, F.2.2.2.2.2.1 _ hm.1, F.2.2.2.2.2.1 _ hm.2.1⟩ ⟨blind, hrec, fun U hU hW => ⟨rfl, by rw [hU], by rw [hU]; exact hP, va_K.moved hW.alike F.2.2.2.2.2.2.1, F.2.2.2.2.2.2.2.2.2.2.2.call hV hU hW⟩⟩ rfl (cS_len _ _) hl.1 (by show cS x.2.2 _ = _; rw [cS_app, cS_rev]; rfl) (lv_room (by rw [wS_cat]; exact h8)) d ⟨by show n - cx.n0 + cx.kc + (n1 - n) ≤ cx.r.cells; omega, by show sz n - sz cx.n0 + cx.ks + (sz n1 - sz n) ≤ cx.r.slots; omega⟩
    refine va_callv (a := #[]) run hV (fun q hq h => h.elim (fun h => Or.inl h) (fun h => absurd hq (Nat.not_lt.mpr h))) (fun q h => h.elim (fun h => Or.inl h) (fun h => Or.inr (Nat.le_trans hV.1 h))) (fun u t1 H1 locs1 ht1 hvm hpost hB hz hk1 hV1 => ?_)
    have k' := k ro Go r G' ho hs.2.2 hL hpost.2 H1 locs1 ls (by rw [← ht1]; exact hB.1) hV1 hl
    rw [show n1 - cx.n0 + cx.kc = n - cx.n0 + cx.kc + (n1 - n) by omega, show sz n1 - sz cx.n0 + cx.ks = sz n - sz cx.n0 + cx.ks + (sz n1 - sz n) by omega] at k'
    exact k'
theorem x_callS (F : Fx cx x own cc nL ret) {idx mL d' n1 : Nat} {y : MethodName} {bc : ByteArray} {ty : FieldType} {as S0 : List AV} {f : Int → Hp → RT} (hw : Cond.methodLink own idx y ∈ gw) (hm : MDs y bc mL (some ty) as.length) (hn : n ≤ n1) (hn1 : n1 ≤ cx.nE) (hn0 : cx.n0 ≤ n) (hct : Ct cx.l x y bc mL (some ty) d' n n1 as G o) (hd : d' + 1 ≤ cx.d) (h8 : wS S ≤ 8) (d : decode cc pc = .ok (.invokestatic idx, 3)) (hp : pc + 3 = pc') (hst : S0 = as.reverse ++ S) (k : ∀ (r : Int) (g : Hp), Y cx x nL ret n1 pc' L (vI r :: S) g (f r g)) : Y cx x nL ret n pc L S0 G (bn o f) := by
  subst hst
  subst hp
  intro r G' ho hS hL hG H locs ls hP hV hl
  cases o with
  | none => cases ho
  | some q =>
    obtain ⟨ro, Go⟩ := q
    have hs := okS_app hS
    have hav : okS as := okS_rev hs.1
    have hct' := hct ro Go rfl hav hG H.size
    have hro := F.2.2.2.2.2.2.2.2.2.2.1
    have hmono1 := sz_mono hn0
    have hmono2 := sz_mono hn
    have hmono3 := sz_mono hn1
    have cb : CallB cx.r cx.s cx.a own idx y bc mL (some ty) (Cond.code y bc mL (some ty) :: gw) (rmd d' n n1) (n1 - n) (sz n1 - sz n) as.length := callB_of as.length F.2.2.2.2.2.1 (gw_code hm.2.2.1) rfl rfl rfl (F.2.2.2.2.2.1 _ hm.2.1) (F.2.2.2.2.2.1 _ hw) hm.2.2.2.1 ⟨by show d' + 1 ≤ cx.r.frames; omega, by show 8 + (mL + 11) + 64 * d' ≤ cx.r.locals; have := hm.2.2.2.2; omega⟩
    have run := va_runS (e := cx.e) (below := cx.b) (meth := cx.t) (locs := locs) (cells := n - cx.n0 + cx.kc) (slots := sz n - sz cx.n0 + cx.ks) (As := cS x.2.2 as) (rest := cS x.2.2 S) (g := F0 cx.m pc ls (cS x.2.2 (as.reverse ++ S))) (Ts := gw) ⟨F.1, F.2.1, F.2.2.2.1, F.2.2.2.2.1, F.2.2.2.2.2.1⟩ hct' ⟨cb, F.2.2.2.2.2.1 _ hm.1⟩ ⟨blind, fun U hU hW => ⟨rfl, by rw [hU], by rw [hU]; exact hP, va_K.moved hW.alike F.2.2.2.2.2.2.1, F.2.2.2.2.2.2.2.2.2.2.2.call hV hU hW⟩⟩ rfl (cS_len _ _) hl.1 (by show cS x.2.2 _ = _; rw [cS_app, cS_rev]) (lv_room (by rw [wS_cat]; exact h8)) d ⟨by show n - cx.n0 + cx.kc + (n1 - n) ≤ cx.r.cells; omega, by show sz n - sz cx.n0 + cx.ks + (sz n1 - sz n) ≤ cx.r.slots; omega⟩
    refine va_calli (a := #[]) run hV (fun q hq h => h.elim (fun h => Or.inl h) (fun h => absurd hq (Nat.not_lt.mpr h))) (fun q h => h.elim (fun h => Or.inl h) (fun h => Or.inr (Nat.le_trans hV.1 h))) (fun v u t1 H1 locs1 ht1 hvm hpost hB hz hk1 hV1 => ?_)
    obtain ⟨rfl, hpost2, hpost3⟩ := hpost
    have k' := k ro Go r G' ho ⟨hpost2, hs.2⟩ hL hpost3 H1 locs1 ls (by rw [← ht1]; exact hB.1) hV1 hl
    rw [show n1 - cx.n0 + cx.kc = n - cx.n0 + cx.kc + (n1 - n) by omega, show sz n1 - sz cx.n0 + cx.ks = sz n - sz cx.n0 + cx.ks + (sz n1 - sz n) by omega] at k'
    exact k'
theorem x_callSv (F : Fx cx x own cc nL ret) {idx mL d' n1 : Nat} {y : MethodName} {bc : ByteArray} {ty : FieldType} {as S0 : List AV} {f : Int → Hp → RT} (hw : Cond.methodLink own idx y ∈ gw) (hm : MDs y bc mL none as.length) (hn : n ≤ n1) (hn1 : n1 ≤ cx.nE) (hn0 : cx.n0 ≤ n) (hct : Ct cx.l x y bc mL none d' n n1 as G o) (hd : d' + 1 ≤ cx.d) (h8 : wS S ≤ 8) (d : decode cc pc = .ok (.invokestatic idx, 3)) (hp : pc + 3 = pc') (hst : S0 = as.reverse ++ S) (k : ∀ (r : Int) (g : Hp), Y cx x nL ret n1 pc' L S g (f r g)) : Y cx x nL ret n pc L S0 G (bn o f) := by
  subst hst
  subst hp
  intro r G' ho hS hL hG H locs ls hP hV hl
  cases o with
  | none => cases ho
  | some q =>
    obtain ⟨ro, Go⟩ := q
    have hs := okS_app hS
    have hav : okS as := okS_rev hs.1
    have hct' := hct ro Go rfl hav hG H.size
    have hro := F.2.2.2.2.2.2.2.2.2.2.1
    have hmono1 := sz_mono hn0
    have hmono2 := sz_mono hn
    have hmono3 := sz_mono hn1
    have cb : CallB cx.r cx.s cx.a own idx y bc mL none (Cond.code y bc mL none :: gw) (rmd d' n n1) (n1 - n) (sz n1 - sz n) as.length := callB_of as.length F.2.2.2.2.2.1 (gw_code hm.2.2.1) rfl rfl rfl (F.2.2.2.2.2.1 _ hm.2.1) (F.2.2.2.2.2.1 _ hw) hm.2.2.2.1 ⟨by show d' + 1 ≤ cx.r.frames; omega, by show 8 + (mL + 11) + 64 * d' ≤ cx.r.locals; have := hm.2.2.2.2; omega⟩
    have run := va_runS (e := cx.e) (below := cx.b) (meth := cx.t) (locs := locs) (cells := n - cx.n0 + cx.kc) (slots := sz n - sz cx.n0 + cx.ks) (As := cS x.2.2 as) (rest := cS x.2.2 S) (g := F0 cx.m pc ls (cS x.2.2 (as.reverse ++ S))) (Ts := gw) ⟨F.1, F.2.1, F.2.2.2.1, F.2.2.2.2.1, F.2.2.2.2.2.1⟩ hct' ⟨cb, F.2.2.2.2.2.1 _ hm.1⟩ ⟨blind, fun U hU hW => ⟨rfl, by rw [hU], by rw [hU]; exact hP, va_K.moved hW.alike F.2.2.2.2.2.2.1, F.2.2.2.2.2.2.2.2.2.2.2.call hV hU hW⟩⟩ rfl (cS_len _ _) hl.1 (by show cS x.2.2 _ = _; rw [cS_app, cS_rev]) (lv_room (by rw [wS_cat]; exact h8)) d ⟨by show n - cx.n0 + cx.kc + (n1 - n) ≤ cx.r.cells; omega, by show sz n - sz cx.n0 + cx.ks + (sz n1 - sz n) ≤ cx.r.slots; omega⟩
    refine va_callv (a := #[]) run hV (fun q hq h => h.elim (fun h => Or.inl h) (fun h => absurd hq (Nat.not_lt.mpr h))) (fun q h => h.elim (fun h => Or.inl h) (fun h => Or.inr (Nat.le_trans hV.1 h))) (fun u t1 H1 locs1 ht1 hvm hpost hB hz hk1 hV1 => ?_)
    have k' := k ro Go r G' ho hs.2 hL hpost.2 H1 locs1 ls (by rw [← ht1]; exact hB.1) hV1 hl
    rw [show n1 - cx.n0 + cx.kc = n - cx.n0 + cx.kc + (n1 - n) by omega, show sz n1 - sz cx.n0 + cx.ks = sz n - sz cx.n0 + cx.ks + (sz n1 - sz n) by omega] at k'
    exact k'
/-! the machine's own: arraycopy, Math -/
def cpy (G : Hp) (c0 c1 : Nat) (sp dp k : Nat) : Hp := fun c' => if c' = c1 then (fun j => if dp ≤ j ∧ j < dp + k then G c0 (sp + (j - dp)) else G c1 j) else G c'
def cpO (G : Hp) (c0 n0 : Nat) (sp : Int) (c1 n1 : Nat) (dp k : Int) : Option Hp := if 0 ≤ sp ∧ 0 ≤ dp ∧ 0 ≤ k ∧ sp + k ≤ (n0 : Int) ∧ dp + k ≤ (n1 : Int) then some (cpy G c0 c1 sp.toNat dp.toNat k.toNat) else none
theorem cpy_self {G : Hp} {c0 c1 sp dp k : Nat} : cpy G c0 c1 sp dp k c1 = fun j => if dp ≤ j ∧ j < dp + k then G c0 (sp + (j - dp)) else G c1 j := by unfold cpy; simp
theorem cpy_ne {G : Hp} {c0 c1 sp dp k j : Nat} (h : j ≠ c1) : cpy G c0 c1 sp dp k j = G j := by unfold cpy; simp [h]
theorem okG_cpy {m : Nat} {G : Hp} {c0 c1 sp dp k : Nat} (h : okG m G) (h0 : ∀ j, plJ c0 j = plJ c1 0) (h1 : ∀ j, plJ c1 j = plJ c1 0) (h2 : ∀ j, plR c1 j = false) : okG m (cpy G c0 c1 sp dp k) := by
  refine ⟨fun c' k' => ?_, fun hn c' k' q1 q2 q3 => ?_⟩
  · by_cases e : c' = c1
    · subst e; rw [cpy_self]
      by_cases e2 : dp ≤ k' ∧ k' < dp + k
      · simp only [e2, and_self, if_true]
        have := h.1 c0 (sp + (k' - dp))
        rw [h0, ← h1 k'] at this; exact this
      · simp only [e2, if_false]; exact h.1 c' k'
    · rw [cpy_ne e]; exact h.1 c' k'
  · by_cases e : c' = c1
    · subst e; rw [h2] at q2; cases q2
    · rw [cpy_ne e]; exact h.2 hn c' k' q1 q2 q3
def ACw : Prop := Cond.native arraycopyName ∈ gw ∧ Cond.static arraycopyName ∈ gw ∧ Cond.initialized "java/lang/System" ∈ gw
theorem o32_nn {i : Int} (h : okI i) (h0 : 0 ≤ i) : ¬ Int32.ofInt i < 0 := fun q => absurd ((o32_lt h zok).mp q) (by omega)
theorem x_cpyI (F : Fx cx x own cc nL ret) {idx c0 c1 n0 n1 : Nat} {sp dp k : Int} {f : Hp → RT} (hw : Cond.methodLink own idx arraycopyName ∈ gw) (hA : ACw) (hk0 : kd c0 = 20) (hk1 : kd c1 = 20) (hn0 : ln c0 = n0) (hn1 : ln c1 = n1) (ht0 : c0 < n) (ht1 : c1 < n) (hn : n ≤ 129) (hd : 1 ≤ cx.d) (h8 : wS S ≤ 8) (d : decode cc pc = .ok (.invokestatic idx, 3)) (hp : pc + 3 = pc') (y : ∀ g, Y cx x nL ret n pc' L S g (f g)) : Y cx x nL ret n pc L (vI k :: vI dp :: vR c1 :: vI sp :: vR c0 :: S) G (bs (cpO G c0 n0 sp c1 n1 dp k) f) := by
  subst hp
  intro r G' ho hS hL hG H locs ls hP hV hl
  by_cases hi : 0 ≤ sp ∧ 0 ≤ dp ∧ 0 ≤ k ∧ sp + k ≤ (n0 : Int) ∧ dp + k ≤ (n1 : Int)
  · unfold cpO at ho; rw [if_pos hi] at ho
    obtain ⟨i1, i2, i3, i4, i5⟩ := hi
    have he0 := wo_at (x := x) (G := G) ht0
    have he1 := wo_at (x := x) (G := G) ht1
    rw [ev_int hk0 (by omega)] at he0
    rw [ev_int hk1 (by omega)] at he1
    have ok : okI k := hS.1
    have od : okI dp := hS.2.1
    have os : okI sp := hS.2.2.2.1
    have hloc : ((cS x.2.2 S).map fun v => v.category).sum + (nativeFrameWords "java/lang/System" "arraycopy" 5 + 11) ≤ cx.r.locals := by
      rw [wS_cat]
      have hro := F.2.2.2.2.2.2.2.2.2.2.1
      have h9 : nativeFrameWords "java/lang/System" "arraycopy" 5 + 11 ≤ 50 := by decide
      omega
    refine va_copyi (D := x.1) (cl := vwCl) F.1 F.2.1 (by rw [F.2.2.2.1]; exact hl.1.symm) F.2.2.2.2.1 (F.2.2.2.2.2.1 _ hw) (F.2.2.2.2.2.1 _ hA.1) (F.2.2.2.2.2.1 _ hA.2.1) (F.2.2.2.2.2.1 _ hA.2.2) F.2.2.2.2.2.2.1 hP (wo_D (by omega) F.2.2.2.2.2.2.2.2.1 (AA_in hn)) hV c0 c1 0 0 he0 he1 rfl rfl rfl (o32_nn os i1) (o32_nn od i2) (o32_nn ok i3) (by rw [o32_clamp os, o32_clamp ok, hn0]; omega) (by rw [o32_clamp od, o32_clamp ok, hn1]; omega) (fun i hi => rfl) (by have hro := F.2.2.2.2.2.2.2.2.2.2.1; omega) hloc d (fun H1 locs1 hP1 hD1 hV1 => ?_)
    rw [o32_clamp os, o32_clamp od, o32_clamp ok, show va_cpy (fun j => Int32.ofInt (G c0 j)) (fun j => Int32.ofInt (G c1 j)) sp.toNat dp.toNat k.toNat = (fun j => Int32.ofInt (cpy G c0 c1 sp.toNat dp.toNat k.toNat c1 j)) from by funext j; rw [cpy_self]; unfold va_cpy; dsimp only; exact if q : dp.toNat ≤ j ∧ j < dp.toNat + k.toNat then by rw [if_pos q, if_pos q] else by rw [if_neg q, if_neg q], ← ev_int hk1 (by omega), wo_set ht1 (fun j hj => cpy_ne hj)] at hP1
    exact y _ r G' ho hS.2.2.2.2.2 hL (okG_cpy hG (fun j => by rw [(plJ_arr hk0 (by omega)).1, (plJ_arr hk1 (by omega)).1]) (fun j => by rw [(plJ_arr hk1 (by omega)).1, (plJ_arr hk1 (by omega)).1]) (fun j => (plJ_arr hk1 (by omega)).2)) H1 locs1 ls hP1 hV1 hl
  · unfold cpO at ho; rw [if_neg hi] at ho; cases ho
theorem x_cpyJ (F : Fx cx x own cc nL ret) {idx c0 c1 n0 n1 : Nat} {sp dp k : Int} {f : Hp → RT} (hw : Cond.methodLink own idx arraycopyName ∈ gw) (hA : ACw) (hk0 : kd c0 = 21) (hk1 : kd c1 = 21) (hn0 : ln c0 = n0) (hn1 : ln c1 = n1) (ht0 : c0 < n) (ht1 : c1 < n) (hn : n ≤ 129) (hd : 1 ≤ cx.d) (h8 : wS S ≤ 8) (d : decode cc pc = .ok (.invokestatic idx, 3)) (hp : pc + 3 = pc') (y : ∀ g, Y cx x nL ret n pc' L S g (f g)) : Y cx x nL ret n pc L (vI k :: vI dp :: vR c1 :: vI sp :: vR c0 :: S) G (bs (cpO G c0 n0 sp c1 n1 dp k) f) := by
  subst hp
  intro r G' ho hS hL hG H locs ls hP hV hl
  by_cases hi : 0 ≤ sp ∧ 0 ≤ dp ∧ 0 ≤ k ∧ sp + k ≤ (n0 : Int) ∧ dp + k ≤ (n1 : Int)
  · unfold cpO at ho; rw [if_pos hi] at ho
    obtain ⟨i1, i2, i3, i4, i5⟩ := hi
    have he0 := wo_at (x := x) (G := G) ht0
    have he1 := wo_at (x := x) (G := G) ht1
    rw [ev_lng hk0] at he0
    rw [ev_lng hk1] at he1
    have ok : okI k := hS.1
    have od : okI dp := hS.2.1
    have os : okI sp := hS.2.2.2.1
    have hloc : ((cS x.2.2 S).map fun v => v.category).sum + (nativeFrameWords "java/lang/System" "arraycopy" 5 + 11) ≤ cx.r.locals := by
      rw [wS_cat]
      have hro := F.2.2.2.2.2.2.2.2.2.2.1
      have h9 : nativeFrameWords "java/lang/System" "arraycopy" 5 + 11 ≤ 50 := by decide
      omega
    refine va_copyl (D := x.1) (cl := vwCl) F.1 F.2.1 (by rw [F.2.2.2.1]; exact hl.1.symm) F.2.2.2.2.1 (F.2.2.2.2.2.1 _ hw) (F.2.2.2.2.2.1 _ hA.1) (F.2.2.2.2.2.1 _ hA.2.1) (F.2.2.2.2.2.1 _ hA.2.2) F.2.2.2.2.2.2.1 hP (wo_D (by omega) F.2.2.2.2.2.2.2.2.1 (AA_in hn)) hV c0 c1 1 1 he0 he1 rfl rfl rfl (o32_nn os i1) (o32_nn od i2) (o32_nn ok i3) (by rw [o32_clamp os, o32_clamp ok, hn0]; omega) (by rw [o32_clamp od, o32_clamp ok, hn1]; omega) (fun i hi => rfl) (by have hro := F.2.2.2.2.2.2.2.2.2.2.1; omega) hloc d (fun H1 locs1 hP1 hD1 hV1 => ?_)
    rw [o32_clamp os, o32_clamp od, o32_clamp ok, show va_cpy (fun j => Int64.ofInt (G c0 j)) (fun j => Int64.ofInt (G c1 j)) sp.toNat dp.toNat k.toNat = (fun j => Int64.ofInt (cpy G c0 c1 sp.toNat dp.toNat k.toNat c1 j)) from by funext j; rw [cpy_self]; unfold va_cpy; dsimp only; exact if q : dp.toNat ≤ j ∧ j < dp.toNat + k.toNat then by rw [if_pos q, if_pos q] else by rw [if_neg q, if_neg q], ← ev_lng hk1, wo_set ht1 (fun j hj => cpy_ne hj)] at hP1
    exact y _ r G' ho hS.2.2.2.2.2 hL (okG_cpy hG (fun j => by rw [(plJ_lng hk0).1, (plJ_lng hk1).1]) (fun j => by rw [(plJ_lng hk1).1, (plJ_lng hk1).1]) (fun j => (plJ_lng hk1).2)) H1 locs1 ls hP1 hV1 hl
  · unfold cpO at ho; rw [if_neg hi] at ho; cases ho
theorem x_mmin (F : Fx cx x own cc nL ret) {idx : Nat} {a b : Int} (hw : Cond.methodLink own idx Lib.Math.min.name ∈ gw) (h1 : Cond.static Lib.Math.min.name ∈ gw) (h2 : Cond.initialized "java/lang/Math" ∈ gw) (h3 : Cond.code Lib.Math.min.name Lib.Math.min.code 2 (some .int) ∈ gw) (hn0 : n ≤ cx.nE) (hd : 1 ≤ cx.d) (h8 : wS S ≤ 8) (d : decode cc pc = .ok (.invokestatic idx, 3)) (hp : pc + 3 = pc') (y : Y cx x nL ret n pc' L (vI (if b < a then b else a) :: S) G o) : Y cx x nL ret n pc L (vI b :: vI a :: S) G o := by
  subst hp
  intro r G' ho hS hL hG H locs ls hP hV hl
  have y' := y r G' ho ⟨by show okI _; split; exact hS.1; exact hS.2.1, hS.2.2⟩ hL hG H locs ls hP hV hl
  refine va_mmin F.1 F.2.1 (by rw [F.2.2.2.1]; exact hl.1.symm) F.2.2.2.2.1 (F.2.2.2.2.2.1 _ hw) (F.2.2.2.2.2.1 _ h1) (F.2.2.2.2.2.1 _ h2) (F.2.2.2.2.2.1 _ h3) (by have hro := F.2.2.2.2.2.2.2.2.2.2.1; omega) (by rw [wS_cat]; have hro := F.2.2.2.2.2.2.2.2.2.2.1; omega) (by have hro := F.2.2.2.2.2.2.2.2.2.2.1; show n - cx.n0 + cx.kc ≤ cx.r.cells; omega) (by have hro := F.2.2.2.2.2.2.2.2.2.2.1; have := sz_mono hn0; show sz n - sz cx.n0 + cx.ks ≤ cx.r.slots; omega) d ?_
  rw [show cS x.2.2 (vI (if b < a then b else a) :: S) = .int (if Int32.ofInt b < Int32.ofInt a then Int32.ofInt b else Int32.ofInt a) :: cS x.2.2 S from by show Value.int _ :: _ = _; exact if q : b < a then by rw [if_pos q, if_pos ((o32_lt hS.1 hS.2.1).mpr q)] else by rw [if_neg q, if_neg (fun z => q ((o32_lt hS.1 hS.2.1).mp z))]] at y'
  exact y'
theorem x_mmax (F : Fx cx x own cc nL ret) {idx : Nat} {a b : Int} (hw : Cond.methodLink own idx Lib.Math.max.name ∈ gw) (h1 : Cond.static Lib.Math.max.name ∈ gw) (h2 : Cond.initialized "java/lang/Math" ∈ gw) (h3 : Cond.code Lib.Math.max.name Lib.Math.max.code 2 (some .int) ∈ gw) (hn0 : n ≤ cx.nE) (hd : 1 ≤ cx.d) (h8 : wS S ≤ 8) (d : decode cc pc = .ok (.invokestatic idx, 3)) (hp : pc + 3 = pc') (y : Y cx x nL ret n pc' L (vI (if a < b then b else a) :: S) G o) : Y cx x nL ret n pc L (vI b :: vI a :: S) G o := by
  subst hp
  intro r G' ho hS hL hG H locs ls hP hV hl
  have y' := y r G' ho ⟨by show okI _; split; exact hS.1; exact hS.2.1, hS.2.2⟩ hL hG H locs ls hP hV hl
  refine va_mmax F.1 F.2.1 (by rw [F.2.2.2.1]; exact hl.1.symm) F.2.2.2.2.1 (F.2.2.2.2.2.1 _ hw) (F.2.2.2.2.2.1 _ h1) (F.2.2.2.2.2.1 _ h2) (F.2.2.2.2.2.1 _ h3) (by have hro := F.2.2.2.2.2.2.2.2.2.2.1; omega) (by rw [wS_cat]; have hro := F.2.2.2.2.2.2.2.2.2.2.1; omega) (by have hro := F.2.2.2.2.2.2.2.2.2.2.1; show n - cx.n0 + cx.kc ≤ cx.r.cells; omega) (by have hro := F.2.2.2.2.2.2.2.2.2.2.1; have := sz_mono hn0; show sz n - sz cx.n0 + cx.ks ≤ cx.r.slots; omega) d ?_
  rw [show cS x.2.2 (vI (if a < b then b else a) :: S) = .int (if Int32.ofInt a < Int32.ofInt b then Int32.ofInt b else Int32.ofInt a) :: cS x.2.2 S from by show Value.int _ :: _ = _; exact if q : a < b then by rw [if_pos q, if_pos ((o32_lt hS.2.1 hS.1).mpr q)] else by rw [if_neg q, if_neg (fun z => q ((o32_lt hS.2.1 hS.1).mp z))]] at y'
  exact y'
end CROWS
