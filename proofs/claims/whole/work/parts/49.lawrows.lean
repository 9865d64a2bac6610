def R_law : String := "NameRingLaw"
def lw_P (b : Addr) (xs : List Int32) (args : Array Value) (s : State) : Prop := args = #[.ref b] ∧ s.IntsAt b xs ∧ xs.length ≤ 3584 ∧ (Jvm.Cond.and given_1 narrow_1).before args s = true
def lw_Q (_ : Array Value) (s : State) (o : Outcome) (t : State) : Prop := o = .returned (some (.int 1)) ∧ Framed s o t [] 601024 7293034
def lw_Z (below : List Frame) (a : Array Value) (s : State) : State → Prop := fun t => ∃ o, t.status = .running ∧ Ended t below o ∧ lw_Q a s o t
/-- the law's own end, with 1 on the stack, nothing written that was there before, its room as the claim has it -/
theorem lw_ret {p : Program} {l : Launch} {e : Env} {s : State} {m : MethodId} {below : List Frame} {meth : Method} {c : Code} {b : Nat} (hx : p.tables.exec = Jvm.exec) (hb : c.code = code) (hr : meth.sig.returnType = ret) (hlocks : meth.locks = false) {pc : Nat} {H : Heap} {ls : Array Slot} (hdg : decode code pc = .ok (.ireturn, 1)) : W p l e room_1 s m #[Value.ref b] below meth c H [] 601024 7293034 (lw_Z below #[Value.ref b] s) (F0 m pc ls [.int 1]) := by
  intro T hT X
  obtain ⟨fs, hret, hrun, hended, hW, hframe⟩ := X.leave (v := some (.int 1)) (hlocks := hlocks) (fun h => by rw [hr] at h; cases h)
  have hmeth' : T.vm.method? m = some meth := X.method'
  refine ⟨T.setFrames fs, ?_, .returned (some (.int 1)), hrun, hended, rfl, ⟨_, rfl⟩, hW, hframe⟩
  jvm_step X.here [X.here.top, hx, hb, hdg, hmeth', hr, ret, narrow_b1]
  (try refine ⟨rfl, ?_⟩); (try refine ⟨rfl, ?_⟩)
  first | (intro acts; rw [hret _ acts rfl rfl rfl]) | rw [hret _ _ rfl rfl rfl]
  exact Steps.refl _
/-- what holds at the law's entry: the machine, the code, the tables' words (any of lw_tbl by 'hts w (by decide +kernel)'), the script of L ints xs at the cell b, what the Statement gives of the start (any of its parts by flat_of_before) -/
def lw_At (p : Program) (s : State) (m : MethodId) (meth : Method) (c : Code) (b L : Nat) (xs : Nat → Int32) : Prop :=
  p.tables.exec = Jvm.exec ∧ c.code = code ∧ meth.sig.returnType = ret ∧ c.maxLocals = 7 ∧ s.vm.findClass R_law = some m.cls ∧ (∀ w ∈ lw_tbl, w.before #[Value.ref b] s = true) ∧ va_X b L xs s s.heap ∧ b < s.heap.size ∧ meth.locks = false ∧ (Jvm.Cond.and given_1 narrow_1).before #[Value.ref b] s = true
/-! THE LAW: its own frame; k cells were made by exceptions -/
def cxk (cx : CX) (k : Nat) : CX := (cx.p, cx.l, cx.e, cx.d, cx.s, cx.m, cx.a, cx.b, cx.t, cx.c, cx.n0, cx.nE, cx.q, cx.r, k, 6 * k)
def LC (cx : CX) (x : WX) (b sn : Nat) (sc : Nat → Int) : Prop :=
  Fx (cxk cx 4000) x RL code 7 (some .boolean) ∧ cx.d = 200 ∧ cx.n0 = 0 ∧ cx.nE = 130 ∧ cx.l.stackTraces = false ∧ (x.2.2 500 = b ∧ va_X b sn (fun j => Int32.ofInt (sc j)) cx.s cx.s.heap ∧ b < cx.s.heap.size ∧ (∀ j, okI (sc j)) ∧ sn ≤ 3584) ∧ (cx.s.heap.size = x.2.2 0 ∧ ∀ c, c ≤ 129 → x.2.2 c = x.2.2 0 + c) ∧ (cx.q = fun r _ t => r = 1 → lw_Z cx.b cx.a cx.s t) ∧ cx.r = room_1 ∧ cx.a = #[.ref b]
theorem Fk {cx : CX} {x : WX} {b sn : Nat} {sc : Nat → Int} (h : LC cx x b sn sc) {k : Nat} (hk : k ≤ 4000) : Fx (cxk cx k) x RL code 7 (some .boolean) := by
  obtain ⟨⟨h1, h2, h3, h4, h5, h6, h7, h8, h9, h10, ⟨r1, r2, r3, r4⟩, h12⟩, -⟩ := h
  exact ⟨h1, h2, h3, h4, h5, h6, h7, h8, h9, h10, ⟨r1, r2, Nat.le_trans (show cx.nE - cx.n0 + k ≤ cx.nE - cx.n0 + 4000 by omega) r3, Nat.le_trans (show sz cx.nE - sz cx.n0 + 6 * k ≤ sz cx.nE - sz cx.n0 + 6 * 4000 by omega) r4⟩, h12⟩
theorem Y_wid {cx : CX} {x : WX} {nL n pc k k' : Nat} {ret : Option FieldType} {L : List (Nat × AV)} {S : List AV} {G : Hp} {o : RT} (h : k ≤ k') (y : Y (cxk cx k') x nL ret n pc L S G o) : Y (cxk cx k) x nL ret n pc L S G o := by
  intro r G' ho hS hL hG H locs ls hP hV hl
  exact W.widen (show n - cx.n0 + k ≤ n - cx.n0 + k' by omega) (show sz n - sz cx.n0 + 6 * k ≤ sz n - sz cx.n0 + 6 * k' by omega) (y r G' ho hS hL hG H locs ls hP hV hl)
def rdC (sn : Nat) (sc : Nat → Int) (i : Int) : Option Int := if 0 ≤ i ∧ i < (sn : Int) then some (sc i.toNat) else none
def mg (G : Hp) (o : RT) : RT := match o with
  | none => none
  | some p => some (p.1, mrg p.2 G)
section LROWS
variable {cx : CX} {x : WX} {b sn k pc pc' n : Nat} {sc : Nat → Int} {L : List (Nat × AV)} {S : List AV} {G : Hp} {o : RT}
theorem nA_b (C : LC cx x b sn sc) : ¬ AA x.2.2 cx.s.heap.size b := by
  obtain ⟨-, -, -, -, -, ⟨h1, h2, h3, h4, h5⟩, ⟨h6, h7⟩, -⟩ := C
  rintro (⟨c, hc, he⟩ | h)
  · have := h7 c (by omega); omega
  · omega
theorem x_scrLen (C : LC cx x b sn sc) (hk : k ≤ 4000) (d : decode code pc = .ok (.arraylength, 1)) (hp : pc + 1 = pc') (y : Y (cxk cx k) x 7 (some .boolean) n pc' L (vI (sn : Int) :: S) G o) : Y (cxk cx k) x 7 (some .boolean) n pc L (vR 500 :: S) G o := by
  have F := Fk C hk
  subst hp
  intro r G' ho hS hL hG H locs ls hP hV hl
  have hok : okI (sn : Int) := by have := C.2.2.2.2.2.1.2.2.2.2; unfold okI; omega
  have y' := y r G' ho ⟨hok, hS.2⟩ hL hG H locs ls hP hV hl
  have hb : x.2.2 500 = b := C.2.2.2.2.2.1.1
  show W _ _ _ _ _ _ _ _ _ _ _ _ _ _ _ (F0 _ _ _ (.ref (x.2.2 500) :: cS x.2.2 S))
  rw [hb]
  refine va_slen (A := AA x.2.2 cx.s.heap.size) F.1 F.2.1 C.2.2.2.2.2.1.2.1 C.2.2.2.2.2.1.2.2.1 (nA_b C) hV d ?_
  exact y'
theorem x_scrLd (C : LC cx x b sn sc) (hk : k ≤ 4000) {i : Int} {f : Int → RT} (d : decode code pc = .ok (.iaload, 1)) (hp : pc + 1 = pc') (y : ∀ v, Y (cxk cx k) x 7 (some .boolean) n pc' L (vI v :: S) G (f v)) : Y (cxk cx k) x 7 (some .boolean) n pc L (vI i :: vR 500 :: S) G (br (rdC sn sc i) f) := by
  have F := Fk C hk
  subst hp
  intro r G' ho hS hL hG H locs ls hP hV hl
  unfold rdC at ho
  by_cases hi : 0 ≤ i ∧ i < (sn : Int)
  · rw [if_pos hi] at ho
    have y' := y _ r G' ho ⟨C.2.2.2.2.2.1.2.2.2.1 _, hS.2.2⟩ hL hG H locs ls hP hV hl
    have hb : x.2.2 500 = b := C.2.2.2.2.2.1.1
    show W _ _ _ _ _ _ _ _ _ _ _ _ _ _ _ (F0 _ _ _ (.int (Int32.ofInt i) :: .ref (x.2.2 500) :: cS x.2.2 S))
    rw [hb]
    refine va_sld (A := AA x.2.2 cx.s.heap.size) F.1 F.2.1 C.2.2.2.2.2.1.2.1 C.2.2.2.2.2.1.2.2.1 (nA_b C) hV (o32_in hS.1 hi) d ?_
    rw [o32_clamp hS.1]; exact y'
  · rw [if_neg hi] at ho; cases ho
theorem x_outLd (C : LC cx x b sn sc) (hk : k ≤ 4000) {i : Int} {f : Int → RT} (d : decode code pc = .ok (.laload, 1)) (hp : pc + 1 = pc') (y : ∀ v, Y (cxk cx k) x 7 (some .boolean) 130 pc' L (vL v :: S) G (f v)) : Y (cxk cx k) x 7 (some .boolean) 130 pc L (vI i :: vR 129 :: S) G (br (rd G 129 1 i) f) := by
  have F := Fk C hk
  subst hp
  intro r G' ho hS hL hG H locs ls hP hV hl
  by_cases hi : 0 ≤ i ∧ i < ((1 : Nat) : Int)
  · unfold rd at ho; rw [if_pos hi] at ho
    have he := wo_at (x := x) (G := G) (n := 130) (c := 129) (by omega)
    rw [ev_out] at he
    have hv := hG.1 129 i.toNat
    rw [show plJ 129 i.toNat = true from rfl] at hv
    have y' := y _ r G' ho ⟨hv, hS.2.2⟩ hL hG H locs ls hP hV hl
    refine va_lald (D := x.1) (cl := vwCl) F.1 F.2.1 F.2.2.2.2.2.2.1 hP 129 1 he rfl (o32_in hS.1 hi) d ?_
    rw [o32_clamp hS.1]; exact y'
  · unfold rd at ho; rw [if_neg hi] at ho; cases ho
theorem x_retL (C : LC cx x b sn sc) (hk : k ≤ 4000) (hn : n ≤ 130) {v : Int} (d : decode code pc = .ok (.ireturn, 1)) : Y (cxk cx k) x 7 (some .boolean) n pc L [vI v] G (rz v G) := by
  have F := Fk C hk
  intro r G' ho hS hL hG H locs ls hP hV hl
  unfold rz at ho
  obtain ⟨h1, h2, h3, h4, h5, h6, ⟨h7, h7'⟩, h8, h9, h10⟩ := C
  by_cases hz : v = 0 ∨ v = 1
  · rw [if_pos hz] at ho
    cases ho
    show W cx.p cx.l cx.e cx.r cx.s cx.m cx.a cx.b cx.t cx.c H locs (n - cx.n0 + k) (sz n - sz cx.n0 + 6 * k) (cx.q v G) (F0 cx.m pc ls [.int (Int32.ofInt v)])
    rw [h8]
    rcases hz with rfl | rfl
    · intro T hT X
      exact ⟨_, Steps.refl _, fun h => absurd h (by decide)⟩
    · have K : W cx.p cx.l cx.e cx.r cx.s cx.m cx.a cx.b cx.t cx.c H locs (n - cx.n0 + k) (sz n - sz cx.n0 + 6 * k) (lw_Z cx.b cx.a cx.s) (F0 cx.m pc ls [.int (Int32.ofInt 1)]) := by
        refine va_forget (fun q hq => ?_) (W.widen (k := 601024) (n := 7293034) (by omega) ?_ ?_)
        · rcases hV.2.2 q hq with ⟨c, hc, he⟩ | h
          · have e1 := h7' c (by omega)
            show cx.s.heap.size ≤ q.base
            omega
          · exact h
        · have hm := sz_mono (a := n) (b := 130) hn
          have h130 : sz 130 ≤ 100000 := by decide +kernel
          omega
        · rw [h9, h10]
          exact lw_ret F.1 F.2.1 F.2.2.1 F.2.2.2.2.2.2.2.1 d
      intro T hT X
      obtain ⟨t, a1, b1⟩ := K T hT X
      exact ⟨t, a1, fun _ => b1⟩
  · rw [if_neg hz] at ho; cases ho
theorem nA_out {x : WX} {H : Heap} {G : Hp} (hi : Inj x.2.2) (hP : va_P x.1 vwCl (wo x 130 G) H) : ¬ AA x.2.2 H.size (x.2.2 129) := by
  have h129 : x.2.2 129 < H.size := (hP 129 _ (wo_at (by omega))).lt
  rintro (⟨c, hc, he⟩ | h)
  · have := hi 129 c (by omega) (by omega) he; omega
  · omega
theorem x_callL (C : LC cx x b sn sc) (hk4 : k ≤ 4000) {idx mL d' : Nat} {y : MethodName} {bc : ByteArray} {ty : FieldType} {as S0 : List AV} {ci t : Nat} {T : u_T} {N : Nat} {f : Int → Hp → RT} (hw : Cond.methodLink RL idx y ∈ gw) (hm : MDv y bc mL (some ty) as.length) (hcl : vwCl[ci]? = some (y.cls, T, N)) (hk : kd t = ci) (hci : ci < 13) (hct : Ct cx.l x y bc mL (some ty) d' 129 129 (vR t :: as) G o) (hd : d' + 1 ≤ 200) (h8 : wS S ≤ 8) (d : decode code pc = .ok (.invokevirtual idx, 3)) (hp : pc + 3 = pc') (hst : S0 = as.reverse ++ vR t :: S) (kk : ∀ (r : Int) (g : Hp), Y (cxk cx k) x 7 (some .boolean) 130 pc' L (vI r :: S) g (f r g)) : Y (cxk cx k) x 7 (some .boolean) 130 pc L S0 G (bn (mg G o) f) := by
  have F := Fk C hk4
  subst hst
  subst hp
  intro r G' ho hS hL hG H locs ls hP hV hl
  cases o with
  | none => cases ho
  | some q =>
    obtain ⟨ro, Go⟩ := q
    have hs := okS_app hS
    have hav : okS (vR t :: as) := ⟨trivial, okS_rev hs.1⟩
    have hct' := hct ro Go rfl hav (okG_130 hG) H.size
    have hro := F.2.2.2.2.2.2.2.2.2.2.1
    have hdd : (cxk cx k).d = 200 := C.2.1
    have hnn : (cxk cx k).n0 = 0 := C.2.2.1
    have hnE : (cxk cx k).nE = 130 := C.2.2.2.1
    have cb : CallB (cxk cx k).r (cxk cx k).s (cxk cx k).a RL idx y bc mL (some ty) (Cond.code y bc mL (some ty) :: gw) (rmd d' 129 129) (129 - 129) (sz 129 - sz 129) as.length := callB_of as.length F.2.2.2.2.2.1 (gw_code hm.2.2.2.1) rfl rfl rfl (F.2.2.2.2.2.1 _ hm.2.2.1) (F.2.2.2.2.2.1 _ hw) hm.2.2.2.2.1 ⟨by show d' + 1 ≤ (cxk cx k).r.frames; omega, by show 8 + (mL + 11) + 64 * d' ≤ (cxk cx k).r.locals; have := hm.2.2.2.2.2; omega⟩
    have he := wo_at (x := x) (G := G) (n := 129) (c := t) (kd_lt (by omega))
    rw [ev_obj hk hci] at he
    have hrec := va_recv F.2.2.2.2.2.2.1 (P_pre hP) (ci := ci) (q0 := t) hcl he
    have run := va_runV (e := (cxk cx k).e) (below := (cxk cx k).b) (meth := (cxk cx k).t) (locs := locs) (cells := 130 - (cxk cx k).n0 + (cxk cx k).kc) (slots := sz 130 - sz (cxk cx k).n0 + (cxk cx k).ks) (As := cS x.2.2 as) (rest := cS x.2.2 S) (g := F0 (cxk cx k).m pc ls (cS x.2.2 (as.reverse ++ vR t :: S))) (b := x.2.2 t) (C := y.cls) (Ts := gw) ⟨F.1, F.2.1, F.2.2.2.1, F.2.2.2.2.1, F.2.2.2.2.2.1⟩ hct' ⟨cb, F.2.2.2.2.2.1 _ hm.1, F.2.2.2.2.2.1 _ hm.2.1⟩ ⟨blind, hrec, fun U hU hW => ⟨rfl, by rw [hU], by rw [hU]; exact P_pre hP, va_K.moved hW.alike F.2.2.2.2.2.2.1, F.2.2.2.2.2.2.2.2.2.2.2.call hV hU hW⟩⟩ rfl (cS_len _ _) hl.1 (by show cS x.2.2 _ = _; rw [cS_app, cS_rev]; rfl) (lv_room (by rw [wS_cat]; exact h8)) d ⟨by show 130 - (cxk cx k).n0 + (cxk cx k).kc + (129 - 129) ≤ (cxk cx k).r.cells; omega, by show sz 130 - sz (cxk cx k).n0 + (cxk cx k).ks + (sz 129 - sz 129) ≤ (cxk cx k).r.slots; rw [hnE] at hro; omega⟩
    refine va_calli (a := #[]) run hV (fun q hq h => h.elim (fun h => Or.inl h) (fun h => absurd hq (Nat.not_lt.mpr h))) (fun q h => h.elim (fun h => Or.inl h) (fun h => Or.inr (Nat.le_trans hV.1 h))) (fun v u t1 H1 locs1 ht1 hvm hpost hB hz hk1 hV1 => ?_)
    obtain ⟨rfl, hpost2, hpost3⟩ := hpost
    have h129 : x.2.2 129 < H.size := (hP 129 _ (wo_at (by omega))).lt
    have k' := kk ro (mrg Go G) r G' ho ⟨hpost2, hs.2.2⟩ hL (okG_mrg hpost3 hG) H1 locs1 ls (P_ext hP (by rw [← ht1]; exact hB.1) (hk1 _ h129 (nA_out F.2.2.2.2.2.2.2.2.1 hP))) hV1 hl
    rw [show 130 - (cxk cx k).n0 + (cxk cx k).kc = 130 - (cxk cx k).n0 + (cxk cx k).kc + (129 - 129) by omega, show sz 130 - sz (cxk cx k).n0 + (cxk cx k).ks = sz 130 - sz (cxk cx k).n0 + (cxk cx k).ks + (sz 129 - sz 129) by omega] at k'
    exact k'
theorem wL_in : GoodIn gw (va_wsS RL 112 yL_route wL) := by
  refine gw_GoodIn (fun w hw => ?_) (fun _ h => h)
  unfold va_wsS wL at hw
  simp only [List.cons_append, List.nil_append, List.mem_cons, List.mem_append, List.not_mem_nil, or_false] at hw
  rcases hw with rfl | rfl | rfl | rfl | hw
  all_goals first | exact g6 114 rfl rfl | exact g6 115 rfl rfl | exact g6 116 rfl rfl | exact g1 0 rfl rfl | exact hw
theorem x_callR (C : LC cx x b sn sc) (hk4 : k ≤ 4000) {a0 a1 a2 : Int} {f : Int → Hp → RT} (d : decode code pc = .ok (.invokestatic 112, 3)) (hp : pc + 3 = pc') (kk : ∀ (r : Int) (g : Hp), Y (cxk cx (k + 1)) x 7 (some .boolean) 130 pc' L [vI r] g (f r g)) : Y (cxk cx k) x 7 (some .boolean) 130 pc L [vR 129, vI a2, vI a1, vI a0, vR 0] G (bn (fL_route a0 a1 a2 G) f) := by
  have F := Fk C hk4
  subst hp
  intro r G' ho hS hL hG H locs ls hP hV hl
  cases ho9 : fL_route a0 a1 a2 G with
  | none => rw [ho9] at ho; cases ho
  | some q =>
    obtain ⟨ro, Go⟩ := q
    rw [ho9] at ho
    replace ho : f ro Go = some (r, G') := ho
    have hct' := tL_route cx.l C.2.2.2.2.1 x F.2.2.2.2.2.2.2.2.1 G a0 a1 a2 ro Go ho9 ⟨trivial, hS.2.2.2.1, hS.2.2.1, hS.2.1, trivial, trivial⟩ hG H.size
    have hro := F.2.2.2.2.2.2.2.2.2.2.1
    have hF4 := (Fk C (Nat.le_refl 4000)).2.2.2.2.2.2.2.2.2.2.1
    have hdd : (cxk cx k).d = 200 := C.2.1
    have hnn : cx.n0 = 0 := C.2.2.1
    have hnE : cx.nE = 130 := C.2.2.2.1
    have hrr : cx.r = room_1 := C.2.2.2.2.2.2.2.2.1
    have h130 : sz 130 ≤ 100000 := by decide +kernel
    have hr1 : room_1.cells = 601024 ∧ room_1.slots = 7293034 := ⟨rfl, rfl⟩
    have cw : vx_CSW (cxk cx k).r (cxk cx k).s (cxk cx k).a RL 112 yL_route cL_route 6 (some .int) hhL wL (rmR 7) 1 6 5 := vx_cwSW 5 F.2.2.2.2.2.1 wL_in rfl rfl rfl (by decide +kernel) ⟨by show 7 + 1 ≤ (cxk cx k).r.frames; omega, by show 8 + (6 + 11) + 64 * 7 ≤ (cxk cx k).r.locals; omega⟩
    have run := vx_runSW (e := (cxk cx k).e) (below := (cxk cx k).b) (meth := (cxk cx k).t) (locs := locs) (cells := 130 - cx.n0 + k) (slots := sz 130 - sz cx.n0 + 6 * k) (As := cS x.2.2 [vR 0, vI a0, vI a1, vI a2, vR 129]) (rest := []) (g := F0 (cxk cx k).m pc ls (cS x.2.2 [vR 129, vI a2, vI a1, vI a0, vR 0])) (Ts := gw) ⟨F.1, F.2.1, F.2.2.2.1, F.2.2.2.2.1, F.2.2.2.2.2.1⟩ hct' cw ⟨blind, fun U hU hW => ⟨rfl, by rw [hU], by rw [hU]; exact hP, va_K.moved hW.alike F.2.2.2.2.2.2.1, F.2.2.2.2.2.2.2.2.2.2.2.call hV hU hW⟩⟩ rfl rfl hl.1 rfl (lv_room (Nat.zero_le _)) d ⟨by show 130 - cx.n0 + k + 1 ≤ cx.r.cells; rw [hrr, hr1.1]; omega, by show sz 130 - sz cx.n0 + 6 * k + 6 ≤ cx.r.slots; rw [hrr, hr1.2]; omega⟩
    have hbase := C.2.2.2.2.2.2.1
    have h129 : x.2.2 129 = x.2.2 0 + 129 := hbase.2 129 (by omega)
    refine va_calli (a := #[]) run hV (fun q hq h => ?_) (fun q h => ?_) (fun v u t1 H1 locs1 ht1 hvm hpost hB hz hk1 hV1 => ?_)
    · rcases h with (h | h) | h
      · exact Or.inl h
      · exact absurd hq (Nat.not_lt.mpr h)
      · refine Or.inr ?_
        show cx.s.heap.size ≤ q
        have := hbase.1; omega
    · rcases h with (h | h) | h
      · exact Or.inl h
      · exact Or.inr (Nat.le_trans hV.1 h)
      · refine Or.inr ?_
        show cx.s.heap.size ≤ q
        have := hbase.1; omega
    · obtain ⟨rfl, hpost2, hpost3⟩ := hpost
      have k' := kk ro Go r G' ho ⟨hpost2, trivial⟩ hL hpost3 H1 locs1 ls (by rw [← ht1]; exact hB.1) hV1 hl
      exact k'
end LROWS
