/-! ROWS when all is made -/
theorem kl {c k : Nat} (h : kd c = k) (hk : Nat.blt k 26 = true) : c < 129 := kd_lt (by rw [h]; exact Nat.blt_eq.mp hk)
def iushr (a b : Int) : Int := (((Int32.ofInt a).toUInt32 >>> ((Int32.ofInt b).toUInt32 &&& Int32.toUInt32 31)).toInt32).toInt
section SROWS
variable {cx : CX} {x : WX} {own : String} {cc : ByteArray} {nL pc pc' : Nat} {ret : Option FieldType} {L : List (Nat × AV)} {S : List AV} {G : Hp} {o : RT}
theorem fl_ci {idx ci k : Nat} (fl : FL own idx ci k) : ci < 13 := by obtain ⟨C, T, N, ty0, h⟩ := fl; exact h.2.2.2.2.2.2.1
theorem fp_ci {idx ci k : Nat} {ty : FieldType} (fl : FP own idx ci k ty) : ci < 13 := by obtain ⟨C, T, N, ty0, h⟩ := fl; exact h.2.2.2.2.2.2.1
theorem kl13 {c ci : Nat} (h : kd c = ci) (hc : ci < 13) : c < 129 := kd_lt (by rw [h]; omega)
theorem x_iushr {n : Nat} (F : Fx cx x own cc nL ret) {a b : Int} (d : decode cc pc = .ok (.iushr, 1)) (hp : pc + 1 = pc') (y : Y cx x nL ret n pc' L (vI (iushr a b) :: S) G o) : Y cx x nL ret n pc L (vI b :: vI a :: S) G o := by
  subst hp
  intro r G' ho hS hL hG H locs ls hP hV hl
  exact lv_iushr F.1 F.2.1 d (v := Int32.ofInt (iushr a b)) (by unfold iushr; rw [o32_toInt]) (y r G' ho ⟨toInt_ok _, hS.2.2⟩ hL hG H locs ls hP hV hl)
theorem s_getI (F : Fx cx x own cc nL ret) {idx ci k t : Nat} (fl : FL own idx ci k) (hk : kd t = ci) (hb : (isR ci k || isJ ci k) = false) (d : decode cc pc = .ok (.getfield idx, 3)) (hp : pc + 3 = pc') (y : Y cx x nL ret 129 pc' L (vI (G t k) :: S) G o) : Y cx x nL ret 129 pc L (vR t :: S) G o := x_getI F fl hk (kl13 hk (fl_ci fl)) (Nat.le_refl _) hb d hp y
theorem s_getJ (F : Fx cx x own cc nL ret) {idx ci k t : Nat} (fl : FL own idx ci k) (hk : kd t = ci) (hb1 : isR ci k = false) (hb2 : isJ ci k = true) (d : decode cc pc = .ok (.getfield idx, 3)) (hp : pc + 3 = pc') (y : Y cx x nL ret 129 pc' L (vL (G t k) :: S) G o) : Y cx x nL ret 129 pc L (vR t :: S) G o := x_getJ F fl hk (kl13 hk (fl_ci fl)) (Nat.le_refl _) hb1 hb2 d hp y
theorem s_putI (F : Fx cx x own cc nL ret) {idx ci k t : Nat} {v : Int} {f : Hp → RT} (fp : FP own idx ci k .int) (hk : kd t = ci) (hb : (isR ci k || isJ ci k) = false) (d : decode cc pc = .ok (.putfield idx, 3)) (hp : pc + 3 = pc') (y : ∀ g, Y cx x nL ret 129 pc' L S g (f g)) : Y cx x nL ret 129 pc L (vI v :: vR t :: S) G (bh (up G t k v) f) := x_putI F fp hk (kl13 hk (fp_ci fp)) (Nat.le_refl _) hb d hp y
theorem s_putJ (F : Fx cx x own cc nL ret) {idx ci k t : Nat} {v : Int} {f : Hp → RT} (fp : FP own idx ci k .long) (hk : kd t = ci) (hb1 : isR ci k = false) (hb2 : isJ ci k = true) (d : decode cc pc = .ok (.putfield idx, 3)) (hp : pc + 3 = pc') (y : ∀ g, Y cx x nL ret 129 pc' L S g (f g)) : Y cx x nL ret 129 pc L (vL v :: vR t :: S) G (bh (up G t k v) f) := x_putJ F fp hk (kl13 hk (fp_ci fp)) (Nat.le_refl _) hb1 hb2 d hp y
theorem s_putZ (F : Fx cx x own cc nL ret) {idx ci k t : Nat} {v : Int} {f : Hp → RT} (fp : FP own idx ci k .boolean) (hk : kd t = ci) (hb : (isR ci k || isJ ci k) = false) (d : decode cc pc = .ok (.putfield idx, 3)) (hp : pc + 3 = pc') (y : ∀ g, Y cx x nL ret 129 pc' L S g (f g)) : Y cx x nL ret 129 pc L (vI v :: vR t :: S) G (pz v (bh (up G t k v) f)) := x_putZ F fp hk (kl13 hk (fp_ci fp)) (Nat.le_refl _) hb d hp y
theorem s_iald (F : Fx cx x own cc nL ret) {c len : Nat} {i : Int} {f : Int → RT} (hk : kd c = 20) (hlen : ln c = len) (d : decode cc pc = .ok (.iaload, 1)) (hp : pc + 1 = pc') (y : ∀ v, Y cx x nL ret 129 pc' L (vI v :: S) G (f v)) : Y cx x nL ret 129 pc L (vI i :: vR c :: S) G (br (rd G c len i) f) := x_iald F hk hlen (kl hk rfl) d hp y
theorem s_cald (F : Fx cx x own cc nL ret) {c len : Nat} {i : Int} {f : Int → RT} (hk : kd c = 22) (hlen : ln c = len) (d : decode cc pc = .ok (.caload, 1)) (hp : pc + 1 = pc') (y : ∀ v, Y cx x nL ret 129 pc' L (vI v :: S) G (f v)) : Y cx x nL ret 129 pc L (vI i :: vR c :: S) G (br (rd G c len i) f) := x_cald F hk hlen (kl hk rfl) d hp y
theorem s_zald (F : Fx cx x own cc nL ret) {c len : Nat} {i : Int} {f : Int → RT} (hk : kd c = 23) (hlen : ln c = len) (d : decode cc pc = .ok (.baload, 1)) (hp : pc + 1 = pc') (y : ∀ v, Y cx x nL ret 129 pc' L (vI v :: S) G (f v)) : Y cx x nL ret 129 pc L (vI i :: vR c :: S) G (br (rd G c len i) f) := x_zald F hk hlen (kl hk rfl) d hp y
theorem s_lald (F : Fx cx x own cc nL ret) {c len : Nat} {i : Int} {f : Int → RT} (hk : kd c = 21) (hlen : ln c = len) (d : decode cc pc = .ok (.laload, 1)) (hp : pc + 1 = pc') (y : ∀ v, Y cx x nL ret 129 pc' L (vL v :: S) G (f v)) : Y cx x nL ret 129 pc L (vI i :: vR c :: S) G (br (rd G c len i) f) := x_lald F hk hlen (kl hk rfl) d hp y
theorem s_iast (F : Fx cx x own cc nL ret) {c len : Nat} {i v : Int} {f : Hp → RT} (hk : kd c = 20) (hlen : ln c = len) (d : decode cc pc = .ok (.iastore, 1)) (hp : pc + 1 = pc') (y : ∀ g, Y cx x nL ret 129 pc' L S g (f g)) : Y cx x nL ret 129 pc L (vI v :: vI i :: vR c :: S) G (bs (wr G c len i v) f) := x_iast F hk hlen (kl hk rfl) (Nat.le_refl _) d hp y
theorem s_cast (F : Fx cx x own cc nL ret) {c len : Nat} {i v : Int} {f : Hp → RT} (hk : kd c = 22) (hlen : ln c = len) (d : decode cc pc = .ok (.castore, 1)) (hp : pc + 1 = pc') (y : ∀ g, Y cx x nL ret 129 pc' L S g (f g)) : Y cx x nL ret 129 pc L (vI v :: vI i :: vR c :: S) G (bs (wrC G c len i v) f) := x_cast F hk hlen (kl hk rfl) (Nat.le_refl _) d hp y
theorem s_zast (F : Fx cx x own cc nL ret) {c len : Nat} {i v : Int} {f : Hp → RT} (hk : kd c = 23) (hlen : ln c = len) (d : decode cc pc = .ok (.bastore, 1)) (hp : pc + 1 = pc') (y : ∀ g, Y cx x nL ret 129 pc' L S g (f g)) : Y cx x nL ret 129 pc L (vI v :: vI i :: vR c :: S) G (bs (wrZ G c len i v) f) := x_zast F hk hlen (kl hk rfl) (Nat.le_refl _) d hp y
theorem s_last (F : Fx cx x own cc nL ret) {c len : Nat} {i v : Int} {f : Hp → RT} (hk : kd c = 21) (hlen : ln c = len) (d : decode cc pc = .ok (.lastore, 1)) (hp : pc + 1 = pc') (y : ∀ g, Y cx x nL ret 129 pc' L S g (f g)) : Y cx x nL ret 129 pc L (vL v :: vI i :: vR c :: S) G (bs (wr G c len i v) f) := x_last F hk hlen (kl hk rfl) (Nat.le_refl _) d hp y
theorem pick_mem : ∀ {L L' : List (Nat × AV)} (ps : List Nat), ps.map (fun i => L[i]?) = L'.map some → ∀ q ∈ L', q ∈ L := by
  intro L L' ps h q hq
  have h1 : some q ∈ L'.map some := List.mem_map.mpr ⟨q, hq, rfl⟩
  rw [← h] at h1
  obtain ⟨i, -, hi⟩ := List.mem_map.mp h1
  exact List.mem_of_getElem? hi
theorem x_dp {n : Nat} {L' : List (Nat × AV)} (ps : List Nat) (h : ps.map (fun i => L[i]?) = L'.map some) (y : Y cx x nL ret n pc L' S G o) : Y cx x nL ret n pc L S G o := x_dr (pick_mem ps h) y
/-- a call that leaves the heap as it is -/
def bp (o : RT) (f : Int → RT) : RT := match o with
  | none => none
  | some p => f p.1
def PU (G : Hp) (o : RT) : Prop := ∀ r G', o = some (r, G') → G' = G
theorem bp_bn {o : RT} {f : Int → RT} : bp o f = bn o (fun r _ => f r) := by cases o <;> rfl
theorem PU_none : PU G none := fun _ _ h => by cases h
theorem PU_rt {r : Int} : PU G (rt r G) := fun _ _ h => by cases h; rfl
theorem PU_rz {r : Int} : PU G (rz r G) := fun _ _ h => by
  unfold rz at h; split at h
  · cases h; rfl
  · cases h
theorem PU_ite {c : Prop} {D : Decidable c} {o1 o2 : RT} (h1 : PU G o1) (h2 : PU G o2) : PU G (@ite RT c D o1 o2) := by
  by_cases h : c
  · rw [if_pos h]; exact h1
  · rw [if_neg h]; exact h2
theorem PU_bd {e : Int} {f : Int → RT} (h : ∀ t, PU G (f t)) : PU G (bd e f) := h e
theorem PU_br {o : Option Int} {f : Int → RT} (h : ∀ t, PU G (f t)) : PU G (br o f) := by
  cases o with
  | none => exact PU_none
  | some v => exact h v
theorem PU_ra {c len : Nat} {i : Int} {f : Nat → RT} (h : ∀ t, PU G (f t)) : PU G (ra c len i f) := by
  unfold ra; split
  · exact h _
  · exact PU_none
theorem PU_bp {o : RT} {f : Int → RT} (h : ∀ t, PU G (f t)) : PU G (bp o f) := by
  cases o with
  | none => exact PU_none
  | some v => exact h v.1
theorem PU_nz {b : Int} (h : PU G o) : PU G (nz b o) := by
  unfold nz; split
  · exact PU_none
  · exact h
theorem PU_jn {X : Type} {K : X} {f : X → RT} (P : X → Prop) (hK : P K) (h : ∀ K : X, P K → PU G (f K)) : PU G (jn K f) := h K hK
theorem s_callV {f : Int → Hp → RT} (F : Fx cx x own cc nL ret) {idx mL d' d0 : Nat} {y : MethodName} {bc : ByteArray} {ty : FieldType} {S0 : List AV} {ci t : Nat} {T : u_T} {N : Nat} (as S : List AV) (hw : Cond.methodLink own idx y ∈ gw) (hm : MDv y bc mL (some ty) as.length) (hcl : vwCl[ci]? = some (y.cls, T, N)) (hk : kd t = ci) (hci : Nat.blt ci 13 = true) (hnE : cx.nE = 129) (hn0 : cx.n0 = 129) (hd : cx.d = d0) (hct : Ct cx.l x y bc mL (some ty) d' 129 129 (vR t :: as) G o) (hb : Nat.ble (d' + 1) d0 = true) (h8 : Nat.ble (wS S) 8 = true) (d : decode cc pc = .ok (.invokevirtual idx, 3)) (hp : pc + 3 = pc') (hst : S0 = as.reverse ++ vR t :: S) (k : ∀ (r : Int) (g : Hp), Y cx x nL ret 129 pc' L (vI r :: S) g (f r g)) : Y cx x nL ret 129 pc L S0 G (bn o f) := x_callV F hw hm hcl hk (Nat.blt_eq.mp hci) (kl13 hk (Nat.blt_eq.mp hci)) (Nat.le_refl _) (Nat.le_of_eq hnE.symm) (Nat.le_of_eq hn0) hct (le_d hd hb) (Nat.le_of_ble_eq_true h8) d hp hst k
theorem s_callVP {f : Int → RT} (F : Fx cx x own cc nL ret) {idx mL d' d0 : Nat} {y : MethodName} {bc : ByteArray} {ty : FieldType} {S0 : List AV} {ci t : Nat} {T : u_T} {N : Nat} (as S : List AV) (hw : Cond.methodLink own idx y ∈ gw) (hm : MDv y bc mL (some ty) as.length) (hcl : vwCl[ci]? = some (y.cls, T, N)) (hk : kd t = ci) (hci : Nat.blt ci 13 = true) (hnE : cx.nE = 129) (hn0 : cx.n0 = 129) (hd : cx.d = d0) (pu : PU G o) (hct : Ct cx.l x y bc mL (some ty) d' 129 129 (vR t :: as) G o) (hb : Nat.ble (d' + 1) d0 = true) (h8 : Nat.ble (wS S) 8 = true) (d : decode cc pc = .ok (.invokevirtual idx, 3)) (hp : pc + 3 = pc') (hst : S0 = as.reverse ++ vR t :: S) (k : ∀ r : Int, Y cx x nL ret 129 pc' L (vI r :: S) G (f r)) : Y cx x nL ret 129 pc L S0 G (bp o f) := by
  rw [bp_bn]
  cases o with
  | none => exact Y_none
  | some q =>
    obtain ⟨ro, Go⟩ := q
    obtain rfl := pu ro Go rfl
    intro r' G' ho
    exact x_callV (o := some (ro, Go)) (f := fun r g => bn (some (r, g)) (fun r _ => @ite RT (g = Go) (Classical.propDecidable _) (f r) none)) F hw hm hcl hk (Nat.blt_eq.mp hci) (kl13 hk (Nat.blt_eq.mp hci)) (Nat.le_refl _) (Nat.le_of_eq hnE.symm) (Nat.le_of_eq hn0) hct (le_d hd hb) (Nat.le_of_ble_eq_true h8) d hp hst (fun r g => by
      show Y cx x nL ret 129 pc' L (vI r :: S) g (@ite RT (g = Go) (Classical.propDecidable _) (f r) none)
      exact x_ite (fun h => by rw [h]; exact k r) (fun _ => Y_none)) r' G' (by show (@ite RT (Go = Go) (Classical.propDecidable _) (f ro) none) = some (r', G'); rw [if_pos rfl]; exact ho)
theorem s_callVv {f : Int → Hp → RT} (F : Fx cx x own cc nL ret) {idx mL d' d0 : Nat} {y : MethodName} {bc : ByteArray} {S0 : List AV} {ci t : Nat} {T : u_T} {N : Nat} (as S : List AV) (hw : Cond.methodLink own idx y ∈ gw) (hm : MDv y bc mL none as.length) (hcl : vwCl[ci]? = some (y.cls, T, N)) (hk : kd t = ci) (hci : Nat.blt ci 13 = true) (hnE : cx.nE = 129) (hn0 : cx.n0 = 129) (hd : cx.d = d0) (hct : Ct cx.l x y bc mL none d' 129 129 (vR t :: as) G o) (hb : Nat.ble (d' + 1) d0 = true) (h8 : Nat.ble (wS S) 8 = true) (d : decode cc pc = .ok (.invokevirtual idx, 3)) (hp : pc + 3 = pc') (hst : S0 = as.reverse ++ vR t :: S) (k : ∀ (r : Int) (g : Hp), Y cx x nL ret 129 pc' L S g (f r g)) : Y cx x nL ret 129 pc L S0 G (bn o f) := x_callVv (ty := .int) F hw hm hcl hk (Nat.blt_eq.mp hci) (kl13 hk (Nat.blt_eq.mp hci)) (Nat.le_refl _) (Nat.le_of_eq hnE.symm) (Nat.le_of_eq hn0) hct (le_d hd hb) (Nat.le_of_ble_eq_true h8) d hp hst k
theorem s_callS {f : Int → Hp → RT} (F : Fx cx x own cc nL ret) {idx mL d' d0 : Nat} {y : MethodName} {bc : ByteArray} {ty : FieldType} {S0 : List AV} (as S : List AV) (hw : Cond.methodLink own idx y ∈ gw) (hm : MDs y bc mL (some ty) as.length) (hnE : cx.nE = 129) (hn0 : cx.n0 = 129) (hd : cx.d = d0) (hct : Ct cx.l x y bc mL (some ty) d' 129 129 as G o) (hb : Nat.ble (d' + 1) d0 = true) (h8 : Nat.ble (wS S) 8 = true) (d : decode cc pc = .ok (.invokestatic idx, 3)) (hp : pc + 3 = pc') (hst : S0 = as.reverse ++ S) (k : ∀ (r : Int) (g : Hp), Y cx x nL ret 129 pc' L (vI r :: S) g (f r g)) : Y cx x nL ret 129 pc L S0 G (bn o f) := x_callS F hw hm (Nat.le_refl _) (Nat.le_of_eq hnE.symm) (Nat.le_of_eq hn0) hct (le_d hd hb) (Nat.le_of_ble_eq_true h8) d hp hst k
theorem s_callSP {f : Int → RT} (F : Fx cx x own cc nL ret) {idx mL d' d0 : Nat} {y : MethodName} {bc : ByteArray} {ty : FieldType} {S0 : List AV} (as S : List AV) (hw : Cond.methodLink own idx y ∈ gw) (hm : MDs y bc mL (some ty) as.length) (hnE : cx.nE = 129) (hn0 : cx.n0 = 129) (hd : cx.d = d0) (pu : PU G o) (hct : Ct cx.l x y bc mL (some ty) d' 129 129 as G o) (hb : Nat.ble (d' + 1) d0 = true) (h8 : Nat.ble (wS S) 8 = true) (d : decode cc pc = .ok (.invokestatic idx, 3)) (hp : pc + 3 = pc') (hst : S0 = as.reverse ++ S) (k : ∀ r : Int, Y cx x nL ret 129 pc' L (vI r :: S) G (f r)) : Y cx x nL ret 129 pc L S0 G (bp o f) := by
  rw [bp_bn]
  cases o with
  | none => exact Y_none
  | some q =>
    obtain ⟨ro, Go⟩ := q
    obtain rfl := pu ro Go rfl
    intro r' G' ho
    exact x_callS (o := some (ro, Go)) (f := fun r g => bn (some (r, g)) (fun r _ => @ite RT (g = Go) (Classical.propDecidable _) (f r) none)) F hw hm (Nat.le_refl _) (Nat.le_of_eq hnE.symm) (Nat.le_of_eq hn0) hct (le_d hd hb) (Nat.le_of_ble_eq_true h8) d hp hst (fun r g => by
      show Y cx x nL ret 129 pc' L (vI r :: S) g (@ite RT (g = Go) (Classical.propDecidable _) (f r) none)
      exact x_ite (fun h => by rw [h]; exact k r) (fun _ => Y_none)) r' G' (by show (@ite RT (Go = Go) (Classical.propDecidable _) (f ro) none) = some (r', G'); rw [if_pos rfl]; exact ho)
theorem s_callSv {f : Int → Hp → RT} (F : Fx cx x own cc nL ret) {idx mL d' d0 : Nat} {y : MethodName} {bc : ByteArray} {S0 : List AV} (as S : List AV) (hw : Cond.methodLink own idx y ∈ gw) (hm : MDs y bc mL none as.length) (hnE : cx.nE = 129) (hn0 : cx.n0 = 129) (hd : cx.d = d0) (hct : Ct cx.l x y bc mL none d' 129 129 as G o) (hb : Nat.ble (d' + 1) d0 = true) (h8 : Nat.ble (wS S) 8 = true) (d : decode cc pc = .ok (.invokestatic idx, 3)) (hp : pc + 3 = pc') (hst : S0 = as.reverse ++ S) (k : ∀ (r : Int) (g : Hp), Y cx x nL ret 129 pc' L S g (f r g)) : Y cx x nL ret 129 pc L S0 G (bn o f) := x_callSv (ty := .int) F hw hm (Nat.le_refl _) (Nat.le_of_eq hnE.symm) (Nat.le_of_eq hn0) hct (le_d hd hb) (Nat.le_of_ble_eq_true h8) d hp hst k
end SROWS
