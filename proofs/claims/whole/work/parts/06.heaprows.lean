/-! ROWS of the heap -/
theorem o32_clamp {i : Int} (h : okI i) : (Int32.ofInt i).toNatClampNeg = i.toNat := by
  show (Int32.ofInt i).toInt.toNat = i.toNat
  rw [toInt_o32, w32_id h]
theorem o32_in {i : Int} {len : Nat} (h : okI i) (h2 : 0 ≤ i ∧ i < (len : Int)) : vp_in (Int32.ofInt i) len := by
  rw [vp_in_iff, toInt_o32, w32_id h]; exact h2
theorem AA_in {ad : Nat → Nat} {z n : Nat} (hn : n ≤ 129) : ∀ c, c < n → AA ad z (ad c) := fun c h => Or.inl ⟨c, by omega, rfl⟩
/-- a field's link: the class by its number, the place of the field -/
def FL (own : String) (idx ci k : Nat) : Prop := ∃ (C : String) (T : u_T) (N : Nat) (ty0 : Nat → FieldType), vwCl[ci]? = some (C, T, N) ∧ k < N ∧ Cond.fieldLink own idx (T k).1 (T k).2.1 (T k).2.2.1 ∈ gw ∧ (∀ w ∈ u_ws C T N, w ∈ gw) ∧ (∀ k, k < N → parseFieldDescriptor (T k).2.2.1 = some (ty0 k)) ∧ (∀ a, a < N → ∀ b, b < N → a ≠ b → (T a).2.1 ≠ (T b).2.1) ∧ ci < 13 ∧ (∀ c, c < 129 → kd c = ci → ln c = N)
/-- .. and one that may be written, of a type -/
def FP (own : String) (idx ci k : Nat) (ty : FieldType) : Prop := ∃ (C : String) (T : u_T) (N : Nat) (ty0 : Nat → FieldType), vwCl[ci]? = some (C, T, N) ∧ k < N ∧ Cond.fieldLink own idx (T k).1 (T k).2.1 (T k).2.2.1 ∈ gw ∧ (∀ w ∈ u_ws C T N, w ∈ gw) ∧ (∀ k, k < N → parseFieldDescriptor (T k).2.2.1 = some (ty0 k)) ∧ (∀ a, a < N → ∀ b, b < N → a ≠ b → (T a).2.1 ≠ (T b).2.1) ∧ ci < 13 ∧ (∀ c, c < 129 → kd c = ci → ln c = N) ∧ (T k).2.2.2 = false ∧ parseFieldDescriptor (T k).2.2.1 = some ty
theorem ev_obj {x : WX} {c ci : Nat} {g : Nat → Int} (hk : kd c = ci) (hc : ci < 13) : ev x c g = .inr (ci, (List.range (ln c)).map (fvv x c g)) := by
  unfold ev; rw [hk, if_neg (by omega), if_neg (by omega), if_neg (by omega)]
theorem fvv_at {x : WX} {c k N : Nat} {g : Nat → Int} (h : k < N) : ((List.range N).map (fvv x c g))[k]? = some (fvv x c g k) := by
  rw [List.getElem?_map, List.getElem?_range h]; rfl
theorem fvv_set {x : WX} {c k N : Nat} {g g' : Nat → Int} (hg : ∀ j, j ≠ k → g' j = g j) : ((List.range N).map (fvv x c g)).set k (fvv x c g' k) = (List.range N).map (fvv x c g') := by
  apply List.ext_getElem?
  intro j
  rcases Nat.lt_or_ge j N with q | q
  · rw [fvv_at q]
    by_cases hj : j = k
    · subst hj; rw [List.getElem?_set_self (by simp; exact q)]
    · rw [List.getElem?_set_ne (Ne.symm hj), fvv_at q]
      unfold fvv; rw [hg j hj]
  · rw [List.getElem?_eq_none (by simp; exact q), List.getElem?_eq_none (by simp; exact q)]
theorem pl_obj {c ci k : Nat} (hk : kd c = ci) (hc : ci < 13) : plJ c k = isJ ci k ∧ plR c k = isR ci k := by
  unfold plJ plR
  rw [hk]
  have h1 : (ci == 21) = false := by simp; omega
  have h4 : (ci == 26) = false := by simp; omega
  have h2 : (ci == 24) = false := by simp; omega
  have h3 : (ci == 25) = false := by simp; omega
  rw [h1, h2, h3, h4]; exact ⟨rfl, rfl⟩
section HROWS
variable {cx : CX} {x : WX} {own : String} {cc : ByteArray} {nL n pc pc' : Nat} {ret : Option FieldType} {L : List (Nat × AV)} {S : List AV} {G : Hp} {o : RT}
theorem x_get (F : Fx cx x own cc nL ret) {idx ci k t : Nat} {v : AV} (fl : FL own idx ci k) (hk : kd t = ci) (ht : t < n) (hn : n ≤ 129) (d : decode cc pc = .ok (.getfield idx, 3)) (hp : pc + 3 = pc') (hv : fvv x t (G t) k = cv x.2.2 v) (hok : okG n G → okV v) (y : Y cx x nL ret n pc' L (v :: S) G o) : Y cx x nL ret n pc L (vR t :: S) G o := by
  subst hp
  intro r G' ho hS hL hG H locs ls hP hV hl
  obtain ⟨C, T, N, ty0, hc, hkN, hlk, hin, -, -, hci, hN⟩ := fl
  have hNt := hN t (by omega) hk
  have he := wo_at (x := x) (G := G) ht
  rw [ev_obj hk hci, hNt] at he
  exact va_get (D := x.1) (cl := vwCl) (C := C) (T := T) (N := N) F.1 F.2.1 F.2.2.2.2.2.1 hin F.2.2.2.2.1 F.2.2.2.2.2.2.1 hP t he hc k hkN (F.2.2.2.2.2.1 _ hlk) (fun _ h9 => h9) (by rw [fvv_at hkN, hv]) d (y r G' ho ⟨hok hG, hS.2⟩ hL hG H locs ls hP hV hl)
theorem x_getI (F : Fx cx x own cc nL ret) {idx ci k t : Nat} (fl : FL own idx ci k) (hk : kd t = ci) (ht : t < n) (hn : n ≤ 129) (hb : (isR ci k || isJ ci k) = false) (d : decode cc pc = .ok (.getfield idx, 3)) (hp : pc + 3 = pc') (y : Y cx x nL ret n pc' L (vI (G t k) :: S) G o) : Y cx x nL ret n pc L (vR t :: S) G o := by
  have hb1 : isR ci k = false := (Bool.or_eq_false_iff.mp hb).1
  have hb2 : isJ ci k = false := (Bool.or_eq_false_iff.mp hb).2
  have hci : ci < 13 := by obtain ⟨C, T, N, ty0, h⟩ := fl; exact h.2.2.2.2.2.2.1
  refine x_get F fl hk ht hn d hp (v := vI (G t k)) ?_ (fun h => ?_) y
  · unfold fvv; rw [hk, hb1, hb2]; rfl
  · have := h.1 t k; rw [(pl_obj hk hci).1, hb2] at this; exact this
theorem x_getJ (F : Fx cx x own cc nL ret) {idx ci k t : Nat} (fl : FL own idx ci k) (hk : kd t = ci) (ht : t < n) (hn : n ≤ 129) (hb1 : isR ci k = false) (hb2 : isJ ci k = true) (d : decode cc pc = .ok (.getfield idx, 3)) (hp : pc + 3 = pc') (y : Y cx x nL ret n pc' L (vL (G t k) :: S) G o) : Y cx x nL ret n pc L (vR t :: S) G o := by
  have hci : ci < 13 := by obtain ⟨C, T, N, ty0, h⟩ := fl; exact h.2.2.2.2.2.2.1
  refine x_get F fl hk ht hn d hp (v := vL (G t k)) ?_ (fun h => ?_) y
  · unfold fvv; rw [hk, hb1, hb2]; rfl
  · have := h.1 t k; rw [(pl_obj hk hci).1, hb2] at this; exact this
/-- a reference, when all is made -/
theorem x_getR (F : Fx cx x own cc nL ret) {idx ci k t : Nat} (fl : FL own idx ci k) (hk : kd t = ci) (hb : isR ci k = true) (d : decode cc pc = .ok (.getfield idx, 3)) (hp : pc + 3 = pc') (y : Y cx x nL ret 129 pc' L (vR (rf t k) :: S) G o) : Y cx x nL ret 129 pc L (vR t :: S) G o := by
  intro r G' ho hS hL hG
  have hci : ci < 13 ∧ k < ln t := by
    obtain ⟨C, T, N, ty0, h⟩ := fl
    exact ⟨h.2.2.2.2.2.2.1, by rw [h.2.2.2.2.2.2.2 t (kd_lt (by rw [hk]; have := h.2.2.2.2.2.2.1; omega)) hk]; exact h.2.1⟩
  have ht : t < 129 := kd_lt (by rw [hk]; have := hci.1; omega)
  have hf := hG.2 (Nat.le_refl _) t k ht (by rw [(pl_obj hk hci.1).2]; exact hb) hci.2
  exact x_get F fl hk ht (Nat.le_refl _) d hp (v := vR (rf t k)) (by unfold fvv; rw [hk, hb, if_pos rfl, if_pos hf]; rfl) (fun _ => trivial) y r G' ho hS hL hG
theorem x_put (F : Fx cx x own cc nL ret) {idx ci k t : Nat} {v : AV} {u : Int} {ty : FieldType} {f : Hp → RT} (fp : FP own idx ci k ty) (hk : kd t = ci) (ht : t < n) (hn : n ≤ 129) (hnar : okV v → narrow ty (cv x.2.2 v) = cv x.2.2 v) (hfit : okV v → fits ty (cv x.2.2 v) = true) (hv : fvv x t (up G t k u t) k = cv x.2.2 v) (hok : okV v → okG n G → okG n (up G t k u)) (d : decode cc pc = .ok (.putfield idx, 3)) (hp : pc + 3 = pc') (y : ∀ g, Y cx x nL ret n pc' L S g (f g)) : Y cx x nL ret n pc L (v :: vR t :: S) G (bh (up G t k u) f) := by
  subst hp
  intro r G' ho hS hL hG H locs ls hP hV hl
  obtain ⟨C, T, N, ty0, hc, hkN, hlk, hin, hty, hnm, hci, hN, hfin, hpd⟩ := fp
  have hNt := hN t (by omega) hk
  have he := wo_at (x := x) (G := G) ht
  rw [ev_obj hk hci, hNt] at he
  refine va_put (D := x.1) (cl := vwCl) (C := C) (T := T) (N := N) (v := cv x.2.2 v) F.1 F.2.1 F.2.2.2.2.2.1 hin ty0 hty hnm F.2.2.2.2.1 F.2.2.2.2.2.2.1 hP (wo_D (by omega) F.2.2.2.2.2.2.2.2.1 (AA_in hn)) hV t he hc k hkN (F.2.2.2.2.2.1 _ hlk) (fun _ h9 => h9) hfin hpd (hnar hS.1) (hfit hS.1) (by simp; exact hkN) d (fun H1 locs1 hP1 hD1 hV1 => ?_)
  have e1 : ∀ j, j ≠ k → up G t k u t j = G t j := by intro j hj; rw [up_self]; simp [hj]
  rw [← hv, fvv_set e1, ← hNt, ← ev_obj hk hci, wo_set ht (fun j hj => up_ne hj)] at hP1
  exact y _ r G' ho hS.2.2 hL (hok hS.1 hG) H1 locs1 ls hP1 hV1 hl
theorem x_putI (F : Fx cx x own cc nL ret) {idx ci k t : Nat} {v : Int} {f : Hp → RT} (fp : FP own idx ci k .int) (hk : kd t = ci) (ht : t < n) (hn : n ≤ 129) (hb : (isR ci k || isJ ci k) = false) (d : decode cc pc = .ok (.putfield idx, 3)) (hp : pc + 3 = pc') (y : ∀ g, Y cx x nL ret n pc' L S g (f g)) : Y cx x nL ret n pc L (vI v :: vR t :: S) G (bh (up G t k v) f) := by
  have hb1 : isR ci k = false := (Bool.or_eq_false_iff.mp hb).1
  have hb2 : isJ ci k = false := (Bool.or_eq_false_iff.mp hb).2
  have hci : ci < 13 := by obtain ⟨C, T, N, ty0, h⟩ := fp; exact h.2.2.2.2.2.2.1
  refine x_put F fp hk ht hn (fun _ => rfl) (fun _ => rfl) ?_ (fun h h2 => okG_up h2 ?_ ?_) d hp y
  · unfold fvv; rw [hk, hb1, hb2, up_self]; simp; rfl
  · rw [(pl_obj hk hci).1, hb2]; exact h
  · rw [(pl_obj hk hci).2]; exact hb1
theorem x_putJ (F : Fx cx x own cc nL ret) {idx ci k t : Nat} {v : Int} {f : Hp → RT} (fp : FP own idx ci k .long) (hk : kd t = ci) (ht : t < n) (hn : n ≤ 129) (hb1 : isR ci k = false) (hb2 : isJ ci k = true) (d : decode cc pc = .ok (.putfield idx, 3)) (hp : pc + 3 = pc') (y : ∀ g, Y cx x nL ret n pc' L S g (f g)) : Y cx x nL ret n pc L (vL v :: vR t :: S) G (bh (up G t k v) f) := by
  have hci : ci < 13 := by obtain ⟨C, T, N, ty0, h⟩ := fp; exact h.2.2.2.2.2.2.1
  refine x_put F fp hk ht hn (fun _ => rfl) (fun _ => rfl) ?_ (fun h h2 => okG_up h2 ?_ ?_) d hp y
  · unfold fvv; rw [hk, hb1, hb2, up_self]; simp; rfl
  · rw [(pl_obj hk hci).1, hb2]; exact h
  · rw [(pl_obj hk hci).2]; exact hb1
theorem narZ {v : Int} (h : v = 0 ∨ v = 1) : narrow .boolean (.int (Int32.ofInt v)) = .int (Int32.ofInt v) ∧ fits .boolean (.int (Int32.ofInt v)) = true := by
  rcases h with rfl | rfl <;> exact ⟨by decide, by decide⟩
def pz (v : Int) (o : RT) : RT := if v = 0 ∨ v = 1 then o else none
theorem x_putZ (F : Fx cx x own cc nL ret) {idx ci k t : Nat} {v : Int} {f : Hp → RT} (fp : FP own idx ci k .boolean) (hk : kd t = ci) (ht : t < n) (hn : n ≤ 129) (hb : (isR ci k || isJ ci k) = false) (d : decode cc pc = .ok (.putfield idx, 3)) (hp : pc + 3 = pc') (y : ∀ g, Y cx x nL ret n pc' L S g (f g)) : Y cx x nL ret n pc L (vI v :: vR t :: S) G (pz v (bh (up G t k v) f)) := by
  have hb1 : isR ci k = false := (Bool.or_eq_false_iff.mp hb).1
  have hb2 : isJ ci k = false := (Bool.or_eq_false_iff.mp hb).2
  have hci : ci < 13 := by obtain ⟨C, T, N, ty0, h⟩ := fp; exact h.2.2.2.2.2.2.1
  unfold pz
  refine x_ite (fun hz => ?_) (fun _ => Y_none)
  refine x_put F fp hk ht hn (fun _ => (narZ hz).1) (fun _ => (narZ hz).2) ?_ (fun h h2 => okG_up h2 ?_ ?_) d hp y
  · unfold fvv; rw [hk, hb1, hb2, up_self]; simp; rfl
  · rw [(pl_obj hk hci).1, hb2]; exact h
  · rw [(pl_obj hk hci).2]; exact hb1
theorem ev_int {c kk : Nat} {g : Nat → Int} (hk : kd c = kk) (h : kk = 20 ∨ kk = 22 ∨ kk = 23) : ev x c g = .inl (x.2.1 kk, ln c, .inl (fun k => Int32.ofInt (g k))) := by
  unfold ev; rw [hk, if_pos h]
theorem ev_lng {c : Nat} {g : Nat → Int} (hk : kd c = 21) : ev x c g = .inl (x.2.1 21, ln c, .inr (.inl (fun k => Int64.ofInt (g k)))) := by
  unfold ev; rw [hk, if_neg (by omega), if_pos (by omega)]
theorem ev_ref {c kk : Nat} {g : Nat → Int} (hk : kd c = kk) (h : kk = 24 ∨ kk = 25) : ev x c g = .inl (x.2.1 kk, ln c, .inr (.inr (.inr (.inr (fun k => if g k = 1 then some (x.2.2 (rf c k)) else none))))) := by
  unfold ev; rw [hk, if_neg (by omega), if_neg (by omega), if_pos h]
theorem plJ_arr {c kk k : Nat} (hk : kd c = kk) (h : kk = 20 ∨ kk = 22 ∨ kk = 23) : plJ c k = false ∧ plR c k = false := by
  unfold plJ plR; rw [hk]; rcases h with rfl | rfl | rfl <;> exact ⟨rfl, rfl⟩
theorem plJ_lng {c k : Nat} (hk : kd c = 21) : plJ c k = true ∧ plR c k = false := by
  unfold plJ plR; rw [hk]; exact ⟨rfl, rfl⟩
theorem x_iald (F : Fx cx x own cc nL ret) {c len : Nat} {i : Int} {f : Int → RT} (hk : kd c = 20) (hlen : ln c = len) (ht : c < n) (d : decode cc pc = .ok (.iaload, 1)) (hp : pc + 1 = pc') (y : ∀ v, Y cx x nL ret n pc' L (vI v :: S) G (f v)) : Y cx x nL ret n pc L (vI i :: vR c :: S) G (br (rd G c len i) f) := by
  subst hp
  intro r G' ho hS hL hG H locs ls hP hV hl
  by_cases hi : 0 ≤ i ∧ i < (len : Int)
  · unfold rd at ho; rw [if_pos hi] at ho
    have he := wo_at (x := x) (G := G) ht
    rw [ev_int hk (by omega)] at he
    have hv := hG.1 c i.toNat
    rw [(plJ_arr hk (by omega)).1] at hv
    have y' := y _ r G' ho ⟨hv, hS.2.2⟩ hL hG H locs ls hP hV hl
    refine va_iald (D := x.1) (cl := vwCl) F.1 F.2.1 F.2.2.2.2.2.2.1 hP c 0 he rfl (o32_in hS.1 (by rw [hlen]; exact hi)) d ?_
    rw [o32_clamp hS.1]; exact y'
  · unfold rd at ho; rw [if_neg hi] at ho; cases ho
theorem x_cald (F : Fx cx x own cc nL ret) {c len : Nat} {i : Int} {f : Int → RT} (hk : kd c = 22) (hlen : ln c = len) (ht : c < n) (d : decode cc pc = .ok (.caload, 1)) (hp : pc + 1 = pc') (y : ∀ v, Y cx x nL ret n pc' L (vI v :: S) G (f v)) : Y cx x nL ret n pc L (vI i :: vR c :: S) G (br (rd G c len i) f) := by
  subst hp
  intro r G' ho hS hL hG H locs ls hP hV hl
  by_cases hi : 0 ≤ i ∧ i < (len : Int)
  · unfold rd at ho; rw [if_pos hi] at ho
    have he := wo_at (x := x) (G := G) ht
    rw [ev_int hk (by omega)] at he
    have hv := hG.1 c i.toNat
    rw [(plJ_arr hk (by omega)).1] at hv
    have y' := y _ r G' ho ⟨hv, hS.2.2⟩ hL hG H locs ls hP hV hl
    refine va_cald (D := x.1) (cl := vwCl) F.1 F.2.1 F.2.2.2.2.2.2.1 hP c 2 he rfl (o32_in hS.1 (by rw [hlen]; exact hi)) d ?_
    rw [o32_clamp hS.1]; exact y'
  · unfold rd at ho; rw [if_neg hi] at ho; cases ho
theorem x_zald (F : Fx cx x own cc nL ret) {c len : Nat} {i : Int} {f : Int → RT} (hk : kd c = 23) (hlen : ln c = len) (ht : c < n) (d : decode cc pc = .ok (.baload, 1)) (hp : pc + 1 = pc') (y : ∀ v, Y cx x nL ret n pc' L (vI v :: S) G (f v)) : Y cx x nL ret n pc L (vI i :: vR c :: S) G (br (rd G c len i) f) := by
  subst hp
  intro r G' ho hS hL hG H locs ls hP hV hl
  by_cases hi : 0 ≤ i ∧ i < (len : Int)
  · unfold rd at ho; rw [if_pos hi] at ho
    have he := wo_at (x := x) (G := G) ht
    rw [ev_int hk (by omega)] at he
    have hv := hG.1 c i.toNat
    rw [(plJ_arr hk (by omega)).1] at hv
    have y' := y _ r G' ho ⟨hv, hS.2.2⟩ hL hG H locs ls hP hV hl
    refine va_zald (D := x.1) (cl := vwCl) F.1 F.2.1 F.2.2.2.2.2.2.1 hP c 3 he rfl (o32_in hS.1 (by rw [hlen]; exact hi)) d ?_
    rw [o32_clamp hS.1]; exact y'
  · unfold rd at ho; rw [if_neg hi] at ho; cases ho
theorem x_lald (F : Fx cx x own cc nL ret) {c len : Nat} {i : Int} {f : Int → RT} (hk : kd c = 21) (hlen : ln c = len) (ht : c < n) (d : decode cc pc = .ok (.laload, 1)) (hp : pc + 1 = pc') (y : ∀ v, Y cx x nL ret n pc' L (vL v :: S) G (f v)) : Y cx x nL ret n pc L (vI i :: vR c :: S) G (br (rd G c len i) f) := by
  subst hp
  intro r G' ho hS hL hG H locs ls hP hV hl
  by_cases hi : 0 ≤ i ∧ i < (len : Int)
  · unfold rd at ho; rw [if_pos hi] at ho
    have he := wo_at (x := x) (G := G) ht
    rw [ev_lng hk] at he
    have hv := hG.1 c i.toNat
    rw [(plJ_lng hk).1] at hv
    have y' := y _ r G' ho ⟨hv, hS.2.2⟩ hL hG H locs ls hP hV hl
    refine va_lald (D := x.1) (cl := vwCl) F.1 F.2.1 F.2.2.2.2.2.2.1 hP c 1 he rfl (o32_in hS.1 (by rw [hlen]; exact hi)) d ?_
    rw [o32_clamp hS.1]; exact y'
  · unfold rd at ho; rw [if_neg hi] at ho; cases ho
/-- what the places of an array of references lead to -/
def tabE (c kk : Nat) : Prop := ∀ i, i < ln c → kd (rf c i) = kk
theorem x_aaldS (F : Fx cx x own cc nL ret) {c len kk : Nat} {i : Int} {f : Nat → RT} (hk : kd c = 24) (hlen : ln c = len) (hE : tabE c kk) (d : decode cc pc = .ok (.aaload, 1)) (hp : pc + 1 = pc') (y : ∀ t, kd t = kk → Y cx x nL ret 129 pc' L (vR t :: S) G (f t)) : Y cx x nL ret 129 pc L (vI i :: vR c :: S) G (ra c len i f) := by
  subst hp
  intro r G' ho hS hL hG H locs ls hP hV hl
  have ht : c < 129 := kd_lt (by rw [hk]; decide)
  by_cases hi : 0 ≤ i ∧ i < (len : Int)
  · unfold ra at ho; rw [if_pos hi] at ho
    have he := wo_at (x := x) (G := G) ht
    rw [ev_ref hk (by omega)] at he
    have hil : i.toNat < ln c := by rw [hlen]; omega
    have hf := hG.2 (Nat.le_refl _) c i.toNat ht (by unfold plR; rw [hk]; rfl) hil
    have y' := y _ (hE _ hil) r G' ho ⟨trivial, hS.2.2⟩ hL hG H locs ls hP hV hl
    refine va_aldq (D := x.1) (cl := vwCl) F.1 F.2.1 F.2.2.2.2.2.2.1 hP c 4 he rfl (o32_in hS.1 (by rw [hlen]; exact hi)) d ?_
    rw [o32_clamp hS.1]
    show W _ _ _ _ _ _ _ _ _ _ _ _ _ _ _ (F0 _ _ _ (va_rf (if G c i.toNat = 1 then _ else none) :: _))
    rw [if_pos hf]; exact y'
  · unfold ra at ho; rw [if_neg hi] at ho; cases ho
theorem x_aaldN (F : Fx cx x own cc nL ret) {c len kk : Nat} {i : Int} {f : Nat → RT} (hk : kd c = 25) (hlen : ln c = len) (hE : tabE c kk) (d : decode cc pc = .ok (.aaload, 1)) (hp : pc + 1 = pc') (y : ∀ t, kd t = kk → Y cx x nL ret 129 pc' L (vR t :: S) G (f t)) : Y cx x nL ret 129 pc L (vI i :: vR c :: S) G (ra c len i f) := by
  subst hp
  intro r G' ho hS hL hG H locs ls hP hV hl
  have ht : c < 129 := kd_lt (by rw [hk]; decide)
  by_cases hi : 0 ≤ i ∧ i < (len : Int)
  · unfold ra at ho; rw [if_pos hi] at ho
    have he := wo_at (x := x) (G := G) ht
    rw [ev_ref hk (by omega)] at he
    have hil : i.toNat < ln c := by rw [hlen]; omega
    have hf := hG.2 (Nat.le_refl _) c i.toNat ht (by unfold plR; rw [hk]; rfl) hil
    have y' := y _ (hE _ hil) r G' ho ⟨trivial, hS.2.2⟩ hL hG H locs ls hP hV hl
    refine va_aldq (D := x.1) (cl := vwCl) F.1 F.2.1 F.2.2.2.2.2.2.1 hP c 5 he rfl (o32_in hS.1 (by rw [hlen]; exact hi)) d ?_
    rw [o32_clamp hS.1]
    show W _ _ _ _ _ _ _ _ _ _ _ _ _ _ _ (F0 _ _ _ (va_rf (if G c i.toNat = 1 then _ else none) :: _))
    rw [if_pos hf]; exact y'
  · unfold ra at ho; rw [if_neg hi] at ho; cases ho
theorem upd_o32 {g : Nat → Int} {i : Nat} {v : Int} : upd (fun k => Int32.ofInt (g k)) i (Int32.ofInt v) = fun k => Int32.ofInt (if k = i then v else g k) := by
  funext k; unfold upd; by_cases h : k = i <;> simp [h]
theorem upd_o64 {g : Nat → Int} {i : Nat} {v : Int} : vp_updL (fun k => Int64.ofInt (g k)) i (Int64.ofInt v) = fun k => Int64.ofInt (if k = i then v else g k) := by
  funext k; unfold vp_updL; by_cases h : k = i <;> simp [h]
theorem vp_narZ {v : Int} (h : v = 0 ∨ v = 1) : vp_nar .boolean (Int32.ofInt v) = Int32.ofInt v := by
  unfold vp_nar; rw [(narZ h).1]
theorem vp_narC {v : Int} (h : 0 ≤ v ∧ v ≤ 65535) : vp_nar .char (Int32.ofInt v) = Int32.ofInt v := by
  have e : Int32.ofInt v = nI v.toNat := by
    apply Int32.toInt_inj.mp
    rw [toInt_o32, w32_id ⟨by omega, by omega⟩, nI_toInt (by omega)]; omega
  unfold vp_nar; rw [e, (pk_charN (q := v.toNat) (by omega)).1]
theorem x_iast (F : Fx cx x own cc nL ret) {c len : Nat} {i v : Int} {f : Hp → RT} (hk : kd c = 20) (hlen : ln c = len) (ht : c < n) (hn : n ≤ 129) (d : decode cc pc = .ok (.iastore, 1)) (hp : pc + 1 = pc') (y : ∀ g, Y cx x nL ret n pc' L S g (f g)) : Y cx x nL ret n pc L (vI v :: vI i :: vR c :: S) G (bs (wr G c len i v) f) := by
  subst hp
  intro r G' ho hS hL hG H locs ls hP hV hl
  by_cases hi : 0 ≤ i ∧ i < (len : Int)
  · unfold wr at ho; rw [if_pos hi] at ho
    have he := wo_at (x := x) (G := G) ht
    rw [ev_int hk (by omega)] at he
    refine va_iast (D := x.1) (cl := vwCl) F.1 F.2.1 F.2.2.2.2.2.2.1 hP (wo_D (by omega) F.2.2.2.2.2.2.2.2.1 (AA_in hn)) hV c 0 he rfl (o32_in hS.2.1 (by rw [hlen]; exact hi)) d (fun H1 locs1 hP1 hD1 hV1 => ?_)
    rw [o32_clamp hS.2.1, upd_o32, show (fun k => Int32.ofInt (if k = i.toNat then v else G c k)) = (fun k => Int32.ofInt (up G c i.toNat v c k)) from by rw [up_self], ← ev_int hk (by omega), wo_set ht (fun j hj => up_ne hj)] at hP1
    exact y _ r G' ho hS.2.2.2 hL (okG_up hG (by rw [(plJ_arr hk (by omega)).1]; exact hS.1) (plJ_arr hk (by omega)).2) H1 locs1 ls hP1 hV1 hl
  · unfold wr at ho; rw [if_neg hi] at ho; cases ho
theorem x_cast (F : Fx cx x own cc nL ret) {c len : Nat} {i v : Int} {f : Hp → RT} (hk : kd c = 22) (hlen : ln c = len) (ht : c < n) (hn : n ≤ 129) (d : decode cc pc = .ok (.castore, 1)) (hp : pc + 1 = pc') (y : ∀ g, Y cx x nL ret n pc' L S g (f g)) : Y cx x nL ret n pc L (vI v :: vI i :: vR c :: S) G (bs (wrC G c len i v) f) := by
  subst hp
  intro r G' ho hS hL hG H locs ls hP hV hl
  by_cases hi : (0 ≤ i ∧ i < (len : Int)) ∧ (0 ≤ v ∧ v ≤ 65535)
  · unfold wrC at ho; rw [if_pos hi] at ho
    have he := wo_at (x := x) (G := G) ht
    rw [ev_int hk (by omega)] at he
    refine va_cast (D := x.1) (cl := vwCl) F.1 F.2.1 F.2.2.2.2.2.2.1 hP (wo_D (by omega) F.2.2.2.2.2.2.2.2.1 (AA_in hn)) hV c 2 he rfl (o32_in hS.2.1 (by rw [hlen]; exact hi.1)) d (fun H1 locs1 hP1 hD1 hV1 => ?_)
    rw [o32_clamp hS.2.1, vp_narC hi.2, upd_o32, show (fun k => Int32.ofInt (if k = i.toNat then v else G c k)) = (fun k => Int32.ofInt (up G c i.toNat v c k)) from by rw [up_self], ← ev_int hk (by omega), wo_set ht (fun j hj => up_ne hj)] at hP1
    exact y _ r G' ho hS.2.2.2 hL (okG_up hG (by rw [(plJ_arr hk (by omega)).1]; exact hS.1) (plJ_arr hk (by omega)).2) H1 locs1 ls hP1 hV1 hl
  · unfold wrC at ho; rw [if_neg hi] at ho; cases ho
theorem x_zast (F : Fx cx x own cc nL ret) {c len : Nat} {i v : Int} {f : Hp → RT} (hk : kd c = 23) (hlen : ln c = len) (ht : c < n) (hn : n ≤ 129) (d : decode cc pc = .ok (.bastore, 1)) (hp : pc + 1 = pc') (y : ∀ g, Y cx x nL ret n pc' L S g (f g)) : Y cx x nL ret n pc L (vI v :: vI i :: vR c :: S) G (bs (wrZ G c len i v) f) := by
  subst hp
  intro r G' ho hS hL hG H locs ls hP hV hl
  by_cases hi : (0 ≤ i ∧ i < (len : Int)) ∧ (v = 0 ∨ v = 1)
  · unfold wrZ at ho; rw [if_pos hi] at ho
    have he := wo_at (x := x) (G := G) ht
    rw [ev_int hk (by omega)] at he
    refine va_zast (D := x.1) (cl := vwCl) F.1 F.2.1 F.2.2.2.2.2.2.1 hP (wo_D (by omega) F.2.2.2.2.2.2.2.2.1 (AA_in hn)) hV c 3 he rfl (o32_in hS.2.1 (by rw [hlen]; exact hi.1)) d (fun H1 locs1 hP1 hD1 hV1 => ?_)
    rw [o32_clamp hS.2.1, vp_narZ hi.2, upd_o32, show (fun k => Int32.ofInt (if k = i.toNat then v else G c k)) = (fun k => Int32.ofInt (up G c i.toNat v c k)) from by rw [up_self], ← ev_int hk (by omega), wo_set ht (fun j hj => up_ne hj)] at hP1
    exact y _ r G' ho hS.2.2.2 hL (okG_up hG (by rw [(plJ_arr hk (by omega)).1]; exact hS.1) (plJ_arr hk (by omega)).2) H1 locs1 ls hP1 hV1 hl
  · unfold wrZ at ho; rw [if_neg hi] at ho; cases ho
theorem x_last (F : Fx cx x own cc nL ret) {c len : Nat} {i v : Int} {f : Hp → RT} (hk : kd c = 21) (hlen : ln c = len) (ht : c < n) (hn : n ≤ 129) (d : decode cc pc = .ok (.lastore, 1)) (hp : pc + 1 = pc') (y : ∀ g, Y cx x nL ret n pc' L S g (f g)) : Y cx x nL ret n pc L (vL v :: vI i :: vR c :: S) G (bs (wr G c len i v) f) := by
  subst hp
  intro r G' ho hS hL hG H locs ls hP hV hl
  by_cases hi : 0 ≤ i ∧ i < (len : Int)
  · unfold wr at ho; rw [if_pos hi] at ho
    have he := wo_at (x := x) (G := G) ht
    rw [ev_lng hk] at he
    refine va_last (D := x.1) (cl := vwCl) F.1 F.2.1 F.2.2.2.2.2.2.1 hP (wo_D (by omega) F.2.2.2.2.2.2.2.2.1 (AA_in hn)) hV c 1 he rfl (o32_in hS.2.1 (by rw [hlen]; exact hi)) d (fun H1 locs1 hP1 hD1 hV1 => ?_)
    rw [o32_clamp hS.2.1, upd_o64, show (fun k => Int64.ofInt (if k = i.toNat then v else G c k)) = (fun k => Int64.ofInt (up G c i.toNat v c k)) from by rw [up_self], ← ev_lng hk, wo_set ht (fun j hj => up_ne hj)] at hP1
    exact y _ r G' ho hS.2.2.2 hL (okG_up hG (by rw [(plJ_lng hk).1]; exact hS.1) (plJ_lng hk).2) H1 locs1 ls hP1 hV1 hl
  · unfold wr at ho; rw [if_neg hi] at ho; cases ho
/-! returns -/
theorem x_iret (F : Fx cx x own cc nL (some .int)) {v : Int} (hE : cx.nE = n) (hQ : QS cx x (some .int)) (d : decode cc pc = .ok (.ireturn, 1)) : Y cx x nL (some .int) n pc L [vI v] G (rt v G) := by
  intro r G' ho hS hL hG H locs ls hP hV hl
  cases ho
  rw [← hE] at hG hP ⊢
  rw [hQ.2.2, hQ.1, hQ.2.1]
  exact W.iret (v := Int32.ofInt v) F.1 F.2.1 F.2.2.1 (fun t ht hW => ⟨⟨_, (), rfl, ⟨rfl, hS.1, hG⟩, by rw [ht]; exact hP, va_K.moved hW.alike F.2.2.2.2.2.2.1⟩, hV.F ht⟩) hV.2.2 d F.2.2.2.2.2.2.2.1
theorem x_zret (F : Fx cx x own cc nL (some .boolean)) {v : Int} (hE : cx.nE = n) (hQ : QS cx x (some .boolean)) (d : decode cc pc = .ok (.ireturn, 1)) : Y cx x nL (some .boolean) n pc L [vI v] G (rz v G) := by
  intro r G' ho hS hL hG H locs ls hP hV hl
  unfold rz at ho
  by_cases hz : v = 0 ∨ v = 1
  · rw [if_pos hz] at ho
    cases ho
    rw [← hE] at hG hP ⊢
    rw [hQ.2.2, hQ.1, hQ.2.1]
    exact W.zret (v := Int32.ofInt v) F.1 F.2.1 F.2.2.1 (narZ hz).1 (fun t ht hW => ⟨⟨_, (), rfl, ⟨rfl, hS.1, hG⟩, by rw [ht]; exact hP, va_K.moved hW.alike F.2.2.2.2.2.2.1⟩, hV.F ht⟩) hV.2.2 d F.2.2.2.2.2.2.2.1
  · rw [if_neg hz] at ho; cases ho
theorem x_vret (F : Fx cx x own cc nL none) (hE : cx.nE = n) (hQ : QS cx x none) (d : decode cc pc = .ok (.return_, 1)) : Y cx x nL none n pc L [] G (rt 0 G) := by
  intro r G' ho hS hL hG H locs ls hP hV hl
  cases ho
  rw [← hE] at hG hP ⊢
  rw [hQ.2.2, hQ.1, hQ.2.1]
  exact W.vret F.1 F.2.1 F.2.2.1 (fun t ht hW => ⟨⟨(), rfl, ⟨zok, hG⟩, by rw [ht]; exact hP, va_K.moved hW.alike F.2.2.2.2.2.2.1⟩, hV.F ht⟩) hV.2.2 d F.2.2.2.2.2.2.2.1
end HROWS
