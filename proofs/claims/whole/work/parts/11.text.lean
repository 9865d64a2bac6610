/-! ROWS of texts -/
def rdS (i : Nat) (j : Int) : Option Int := if 0 ≤ j ∧ j < ((sLen.getD i 0 : Nat) : Int) then some (((sByt.getD i []).getD j.toNat 0).toInt) else none
def i2b (a : Int) : Int := ((Int32.ofInt a).toInt8.toInt32).toInt
def rb (r : Int) (G : Hp) : RT := if -128 ≤ r ∧ r ≤ 127 then some (r, G) else none
def rch (r : Int) (G : Hp) : RT := if 0 ≤ r ∧ r ≤ 65535 then some (r, G) else none
theorem sLen_small : ∀ i, i < 2 → sLen.getD i 0 < 2 ^ 31 := by decide
section TROWS
variable {cx : CX} {x : WX} {own : String} {cc : ByteArray} {nL n pc pc' : Nat} {ret : Option FieldType} {L : List (Nat × AV)} {S : List AV} {G : Hp} {o : RT}
theorem PU_rb {r : Int} : PU G (rb r G) := fun _ _ h => by
  unfold rb at h; split at h
  · cases h; rfl
  · cases h
theorem PU_rch {r : Int} : PU G (rch r G) := fun _ _ h => by
  unfold rch at h; split at h
  · cases h; rfl
  · cases h
theorem x_ldcS (F : Fx cx x RX7 cc nL ret) (i : Nat) (hi : i < 2) {k : Nat} (hk : sIdx i = k) (d : decode cc pc = .ok (.ldc k, 2)) (hp : pc + 2 = pc') (y : Y cx x nL ret n pc' L (vR (200 + i) :: S) G o) : Y cx x nL ret n pc L S G o := by
  subst hk
  subst hp
  intro r G' ho hS hL hG H locs ls hP hV hl
  exact va_ldcS F.1 F.2.1 F.2.2.2.2.1 (F.2.2.2.2.2.2.2.2.2.2.2.2.1 i hi) d (y r G' ho ⟨trivial, hS⟩ hL hG H locs ls hP hV hl)
theorem x_getCS (F : Fx cx x own cc nL ret) {k : Nat} (hw : Cond.fieldLink own k "java/lang/String" "COMPACT_STRINGS" "Z" ∈ gw) (d : decode cc pc = .ok (.getstatic k, 3)) (hp : pc + 3 = pc') (y : Y cx x nL ret n pc' L (vI 1 :: S) G o) : Y cx x nL ret n pc L S G o := by
  subst hp
  intro r G' ho hS hL hG H locs ls hP hV hl
  exact va_gets F.1 F.2.1 F.2.2.2.2.2.2.2.2.2.2.2.2.2.1 hV F.2.2.2.2.1 (F.2.2.2.2.2.1 _ hw) (fun _ h9 => h9) d (y r G' ho ⟨⟨by decide, by decide⟩, hS⟩ hL hG H locs ls hP hV hl)
theorem x_getCd (F : Fx cx x own cc nL ret) {k i : Nat} (hi : i < 2) (hw : Cond.fieldLink own k "java/lang/String" "coder" "B" ∈ gw) (d : decode cc pc = .ok (.getfield k, 3)) (hp : pc + 3 = pc') (y : Y cx x nL ret n pc' L (vI 0 :: S) G o) : Y cx x nL ret n pc L (vR (200 + i) :: S) G o := by
  subst hp
  intro r G' ho hS hL hG H locs ls hP hV hl
  exact vk_getf F.1 F.2.1 (F.2.2.2.2.2.2.2.2.2.2.2.1.1 i hi).2.1 hV F.2.2.2.2.1 (F.2.2.2.2.2.1 _ hw) (fun _ h9 => h9) d (y r G' ho ⟨zok, hS.2⟩ hL hG H locs ls hP hV hl)
theorem x_getVl (F : Fx cx x own cc nL ret) {k i : Nat} (hi : i < 2) (hw : Cond.fieldLink own k "java/lang/String" "value" "[B" ∈ gw) (d : decode cc pc = .ok (.getfield k, 3)) (hp : pc + 3 = pc') (y : Y cx x nL ret n pc' L (vR (300 + i) :: S) G o) : Y cx x nL ret n pc L (vR (200 + i) :: S) G o := by
  subst hp
  intro r G' ho hS hL hG H locs ls hP hV hl
  exact vk_getf F.1 F.2.1 (F.2.2.2.2.2.2.2.2.2.2.2.1.1 i hi).2.2.1 hV F.2.2.2.2.1 (F.2.2.2.2.2.1 _ hw) (fun _ h9 => h9) d (y r G' ho ⟨trivial, hS.2⟩ hL hG H locs ls hP hV hl)
theorem o32_nat (k : Nat) : Int32.ofNat k = Int32.ofInt (k : Int) := rfl
theorem x_slen (F : Fx cx x own cc nL ret) {i : Nat} (hi : i < 2) (d : decode cc pc = .ok (.arraylength, 1)) (hp : pc + 1 = pc') (y : Y cx x nL ret n pc' L (vI ((sLen.getD i 0 : Nat) : Int) :: S) G o) : Y cx x nL ret n pc L (vR (300 + i) :: S) G o := by
  subst hp
  intro r G' ho hS hL hG H locs ls hP hV hl
  exact va_tlen F.1 F.2.1 (F.2.2.2.2.2.2.2.2.2.2.2.1.1 i hi).2.2.2 hV rfl d (y r G' ho ⟨⟨by omega, by have := sLen_small i hi; omega⟩, hS.2⟩ hL hG H locs ls hP hV hl)
theorem x_sbald (F : Fx cx x own cc nL ret) {i : Nat} {j : Int} {f : Int → RT} (hi : i < 2) (d : decode cc pc = .ok (.baload, 1)) (hp : pc + 1 = pc') (y : ∀ v, Y cx x nL ret n pc' L (vI v :: S) G (f v)) : Y cx x nL ret n pc L (vI j :: vR (300 + i) :: S) G (br (rdS i j) f) := by
  subst hp
  intro r G' ho hS hL hG H locs ls hP hV hl
  by_cases hj : 0 ≤ j ∧ j < ((sLen.getD i 0 : Nat) : Int)
  · unfold rdS at ho; rw [if_pos hj] at ho
    have y' := y _ r G' ho ⟨toInt_ok _, hS.2.2⟩ hL hG H locs ls hP hV hl
    refine va_tb F.1 F.2.1 (F.2.2.2.2.2.2.2.2.2.2.2.1.1 i hi).2.2.2 hV (o32_in hS.1 hj) rfl d ?_
    rw [o32_clamp hS.1]
    rw [show cS x.2.2 (vI (((sByt.getD i []).getD j.toNat 0).toInt) :: S) = .int ((sByt.getD i []).getD j.toNat 0) :: cS x.2.2 S from by show Value.int _ :: _ = _; rw [o32_toInt]] at y'
    exact y'
  · unfold rdS at ho; rw [if_neg hj] at ho; cases ho
theorem x_i2b (F : Fx cx x own cc nL ret) {a : Int} (d : decode cc pc = .ok (.i2b, 1)) (hp : pc + 1 = pc') (y : Y cx x nL ret n pc' L (vI (i2b a) :: S) G o) : Y cx x nL ret n pc L (vI a :: S) G o := by
  subst hp
  intro r G' ho hS hL hG H locs ls hP hV hl
  exact lv_i2b F.1 F.2.1 d (v := Int32.ofInt (i2b a)) (by unfold i2b; rw [o32_toInt]) (y r G' ho ⟨toInt_ok _, hS.2⟩ hL hG H locs ls hP hV hl)
theorem narB {v : Int} (h : -128 ≤ v ∧ v ≤ 127) : narrow .byte (.int (Int32.ofInt v)) = .int (Int32.ofInt v) := by
  have e : (Int32.ofInt v).toInt = v := by rw [toInt_o32, w32_id ⟨by omega, by omega⟩]
  have h1 : (Int32.ofInt v).toInt8.toInt32 = Int32.ofInt v := by
    apply Int32.toInt_inj.mp
    rw [Int8.toInt_toInt32, Int32.toInt_toInt8, e]
    exact Int.bmod_eq_of_le (by omega) (by omega)
  show Value.int _ = _
  rw [h1]
theorem narC {v : Int} (h : 0 ≤ v ∧ v ≤ 65535) : narrow .char (.int (Int32.ofInt v)) = .int (Int32.ofInt v) := by
  have e : Int32.ofInt v = nI v.toNat := by
    apply Int32.toInt_inj.mp
    rw [toInt_o32, w32_id ⟨by omega, by omega⟩, nI_toInt (by omega)]; omega
  rw [e, (pk_charN (q := v.toNat) (by omega)).1]
theorem x_bret (F : Fx cx x own cc nL (some .byte)) {v : Int} (hE : cx.nE = n) (hQ : QS cx x (some .byte)) (d : decode cc pc = .ok (.ireturn, 1)) : Y cx x nL (some .byte) n pc L [vI v] G (rb v G) := by
  intro r G' ho hS hL hG H locs ls hP hV hl
  unfold rb at ho
  by_cases hz : -128 ≤ v ∧ v ≤ 127
  · rw [if_pos hz] at ho
    cases ho
    rw [← hE] at hG hP ⊢
    rw [hQ.2.2, hQ.1, hQ.2.1]
    exact W.zret (v := Int32.ofInt v) F.1 F.2.1 F.2.2.1 (narB hz) (fun t ht hW => ⟨⟨_, (), rfl, ⟨rfl, hS.1, hG⟩, by rw [ht]; exact hP, va_K.moved hW.alike F.2.2.2.2.2.2.1⟩, hV.F ht⟩) hV.2.2 d F.2.2.2.2.2.2.2.1
  · rw [if_neg hz] at ho; cases ho
theorem x_cret (F : Fx cx x own cc nL (some .char)) {v : Int} (hE : cx.nE = n) (hQ : QS cx x (some .char)) (d : decode cc pc = .ok (.ireturn, 1)) : Y cx x nL (some .char) n pc L [vI v] G (rch v G) := by
  intro r G' ho hS hL hG H locs ls hP hV hl
  unfold rch at ho
  by_cases hz : 0 ≤ v ∧ v ≤ 65535
  · rw [if_pos hz] at ho
    cases ho
    rw [← hE] at hG hP ⊢
    rw [hQ.2.2, hQ.1, hQ.2.1]
    exact W.zret (v := Int32.ofInt v) F.1 F.2.1 F.2.2.1 (narC hz) (fun t ht hW => ⟨⟨_, (), rfl, ⟨rfl, hS.1, hG⟩, by rw [ht]; exact hP, va_K.moved hW.alike F.2.2.2.2.2.2.1⟩, hV.F ht⟩) hV.2.2 d F.2.2.2.2.2.2.2.1
  · rw [if_neg hz] at ho; cases ho
theorem x_callT (F : Fx cx x own cc nL ret) {idx mL d' n1 : Nat} {y : MethodName} {bc : ByteArray} {ty : FieldType} {as S0 : List AV} {t : Nat} {f : Int → Hp → RT} (hw : Cond.methodLink own idx y ∈ gw) (hm : MDv y bc mL (some ty) as.length) (hrec9 : ∀ (H : Heap) (locs : List Loc), va_S (AA x.2.2 cx.s.heap.size) cx.s.heap H locs → ∃ cell : Cell, H[x.2.2 t]? = some cell ∧ cell.vm.isStatics = false ∧ cx.s.vm.findClass y.cls = some cell.cls) (hn : n ≤ n1) (hn1 : n1 ≤ cx.nE) (hn0 : cx.n0 ≤ n) (hct : Ct cx.l x y bc mL (some ty) d' n n1 (vR t :: as) G o) (hd : d' + 1 ≤ cx.d) (h8 : wS S ≤ 8) (d : decode cc pc = .ok (.invokevirtual idx, 3)) (hp : pc + 3 = pc') (hst : S0 = as.reverse ++ vR t :: S) (k : ∀ (r : Int) (g : Hp), Y cx x nL ret n1 pc' L (vI r :: S) g (f r g)) : Y cx x nL ret n pc L S0 G (bn o f) := by
  subst hst
  subst hp
  intro r G' ho hS hL hG H locs ls hP hV hl
  cases o with
  | none => cases ho
  | some q =>
    obtain ⟨ro, Go⟩ := q
    have hs := okS_app hS
    have hav : okS (vR t :: as) := ⟨trivial, okS_rev hs.1⟩
    have hct' := hct ro Go rfl hav hG H.size
    have hro := F.2.2.2.2.2.2.2.2.2.2.1
    have hmono1 := sz_mono hn0
    have hmono2 := sz_mono hn
    have hmono3 := sz_mono hn1
    have cb : CallB cx.r cx.s cx.a own idx y bc mL (some ty) (Cond.code y bc mL (some ty) :: gw) (rmd d' n n1) (n1 - n) (sz n1 - sz n) as.length := callB_of as.length F.2.2.2.2.2.1 (gw_code hm.2.2.2.1) rfl rfl rfl (F.2.2.2.2.2.1 _ hm.2.2.1) (F.2.2.2.2.2.1 _ hw) hm.2.2.2.2.1 ⟨by show d' + 1 ≤ cx.r.frames; omega, by show 8 + (mL + 11) + 64 * d' ≤ cx.r.locals; have := hm.2.2.2.2.2; omega⟩
    have hrec := hrec9 H locs hV
    have run := va_runV (e := cx.e) (below := cx.b) (meth := cx.t) (locs := locs) (cells := n - cx.n0 + cx.kc) (slots := sz n - sz cx.n0 + cx.ks) (As := cS x.2.2 as) (rest := cS x.2.2 S) (g := F0 cx.m pc ls (cS x.2.2 (as.reverse ++ vR t :: S))) (b := x.2.2 t) (C := y.cls) (Ts := gw) ⟨F.1, F.2.1, F.2.2.2.1, F.2.2.2.2.1, F.2.2.2.2.2.1⟩ hct' ⟨cb, F.2.2.2.2.2.1 _ hm.1, F.2.2.2.2.2.1 _ hm.2.1⟩ ⟨blind, hrec, fun U hU hW => ⟨rfl, by rw [hU], by rw [hU]; exact hP, va_K.moved hW.alike F.2.2.2.2.2.2.1, F.2.2.2.2.2.2.2.2.2.2.2.call hV hU hW⟩⟩ rfl (cS_len _ _) hl.1 (by show cS x.2.2 _ = _; rw [cS_app, cS_rev]; rfl) (lv_room (by rw [wS_cat]; exact h8)) d ⟨by show n - cx.n0 + cx.kc + (n1 - n) ≤ cx.r.cells; omega, by show sz n - sz cx.n0 + cx.ks + (sz n1 - sz n) ≤ cx.r.slots; omega⟩
    refine va_calli (a := #[]) run hV (fun q hq h => h.elim (fun h => Or.inl h) (fun h => absurd hq (Nat.not_lt.mpr h))) (fun q h => h.elim (fun h => Or.inl h) (fun h => Or.inr (Nat.le_trans hV.1 h))) (fun v u t1 H1 locs1 ht1 hvm hpost hB hz hk1 hV1 => ?_)
    obtain ⟨rfl, hpost2, hpost3⟩ := hpost
    have k' := k ro Go r G' ho ⟨hpost2, hs.2.2⟩ hL hpost3 H1 locs1 ls (by rw [← ht1]; exact hB.1) hV1 hl
    rw [show n1 - cx.n0 + cx.kc = n - cx.n0 + cx.kc + (n1 - n) by omega, show sz n1 - sz cx.n0 + cx.ks = sz n - sz cx.n0 + cx.ks + (sz n1 - sz n) by omega] at k'
    exact k'
theorem s_callTP {f : Int → RT} (F : Fx cx x own cc nL ret) {idx mL d' d0 : Nat} {y : MethodName} {bc : ByteArray} {ty : FieldType} {S0 : List AV} {i : Nat} (as S : List AV) (hw : Cond.methodLink own idx y ∈ gw) (hm : MDv y bc mL (some ty) as.length) (hy9 : y.cls = "java/lang/String") (hi9 : i < 2) (hnE : cx.nE = n) (hn0 : cx.n0 = n) (hd : cx.d = d0) (pu : PU G o) (hct : Ct cx.l x y bc mL (some ty) d' n n (vR (200 + i) :: as) G o) (hb : Nat.ble (d' + 1) d0 = true) (h8 : Nat.ble (wS S) 8 = true) (d : decode cc pc = .ok (.invokevirtual idx, 3)) (hp : pc + 3 = pc') (hst : S0 = as.reverse ++ vR (200 + i) :: S) (k : ∀ r : Int, Y cx x nL ret n pc' L (vI r :: S) G (f r)) : Y cx x nL ret n pc L S0 G (bp o f) := by
  rw [bp_bn]
  cases o with
  | none => exact Y_none
  | some q =>
    obtain ⟨ro, Go⟩ := q
    obtain rfl := pu ro Go rfl
    intro r' G' ho
    exact x_callT (o := some (ro, Go)) (f := fun r g => bn (some (r, g)) (fun r _ => @ite RT (g = Go) (Classical.propDecidable _) (f r) none)) F hw hm (fun H locs hV => by rw [hy9]; exact vk_recv (adK := fun i => x.2.2 (200 + i)) (i := i) F.2.2.2.2.2.2.2.2.2.2.2.1 hi9 hV) (Nat.le_refl _) (Nat.le_of_eq hnE.symm) (Nat.le_of_eq hn0) hct (le_d hd hb) (Nat.le_of_ble_eq_true h8) d hp hst (fun r g => by
      show Y cx x nL ret n pc' L (vI r :: S) g (@ite RT (g = Go) (Classical.propDecidable _) (f r) none)
      exact x_ite (fun h => by rw [h]; exact k r) (fun _ => Y_none)) r' G' (by show (@ite RT (Go = Go) (Classical.propDecidable _) (f ro) none) = some (r', G'); rw [if_pos rfl]; exact ho)
theorem s_callSPn {f : Int → RT} (F : Fx cx x own cc nL ret) {idx mL d' d0 : Nat} {y : MethodName} {bc : ByteArray} {ty : FieldType} {S0 : List AV} (as S : List AV) (hw : Cond.methodLink own idx y ∈ gw) (hm : MDs y bc mL (some ty) as.length) (hnE : cx.nE = n) (hn0 : cx.n0 = n) (hd : cx.d = d0) (pu : PU G o) (hct : Ct cx.l x y bc mL (some ty) d' n n as G o) (hb : Nat.ble (d' + 1) d0 = true) (h8 : Nat.ble (wS S) 8 = true) (d : decode cc pc = .ok (.invokestatic idx, 3)) (hp : pc + 3 = pc') (hst : S0 = as.reverse ++ S) (k : ∀ r : Int, Y cx x nL ret n pc' L (vI r :: S) G (f r)) : Y cx x nL ret n pc L S0 G (bp o f) := by
  rw [bp_bn]
  cases o with
  | none => exact Y_none
  | some q =>
    obtain ⟨ro, Go⟩ := q
    obtain rfl := pu ro Go rfl
    intro r' G' ho
    exact x_callS (o := some (ro, Go)) (f := fun r g => bn (some (r, g)) (fun r _ => @ite RT (g = Go) (Classical.propDecidable _) (f r) none)) F hw hm (Nat.le_refl _) (Nat.le_of_eq hnE.symm) (Nat.le_of_eq hn0) hct (le_d hd hb) (Nat.le_of_ble_eq_true h8) d hp hst (fun r g => by
      show Y cx x nL ret n pc' L (vI r :: S) g (@ite RT (g = Go) (Classical.propDecidable _) (f r) none)
      exact x_ite (fun h => by rw [h]; exact k r) (fun _ => Y_none)) r' G' (by show (@ite RT (Go = Go) (Classical.propDecidable _) (f ro) none) = some (r', G'); rw [if_pos rfl]; exact ho)
end TROWS
