/-! MAKING: the heap grows; a new cell's address is known, for all that is made lies behind each other -/
def BS (cx : CX) (x : WX) : Prop := cx.s.heap.size = x.2.2 cx.n0 ∧ (∀ c, c ≤ 129 → x.2.2 c = x.2.2 0 + c) ∧ cx.kc = 0 ∧ cx.ks = 0
def clr (G : Hp) (n : Nat) : Hp := fun c => if c = n then (fun _ => 0) else G c
theorem clr_self {G : Hp} {n : Nat} : clr G n n = fun _ => 0 := by unfold clr; simp
theorem clr_ne {G : Hp} {n c : Nat} (h : c ≠ n) : clr G n c = G c := by unfold clr; simp [h]
theorem wo_clr {x : WX} {n : Nat} {G : Hp} : wo x (n + 1) (clr G n) = wo x n G ++ [(x.2.2 n, ev x n (fun _ => 0))] := by
  rw [wo_succ, clr_self]
  congr 1
  unfold wo
  apply List.map_congr_left
  intro c hc
  rw [clr_ne (Nat.ne_of_lt (List.mem_range.mp hc))]
theorem sz_succ : ∀ n, n < 129 → sz (n + 1) = sz n + ln n := by decide +kernel
theorem ln_le : ∀ n, n < 129 → ln n ≤ 4000 := by decide +kernel
theorem okG_clr {n : Nat} {G : Hp} (h : okG n G) (hn : n + 1 < 129) : okG (n + 1) (clr G n) := by
  refine ⟨fun c k => ?_, fun e => by omega⟩
  by_cases e : c = n
  · subst e; rw [clr_self]; split
    · show okJ 0; exact ⟨by decide, by decide⟩
    · exact zok
  · rw [clr_ne e]; exact h.1 c k
theorem q_is {cx : CX} {x : WX} {n q : Nat} {G : Hp} {e : va_E} {H1 : Heap} (hB : BS cx x) (hn0 : cx.n0 ≤ n) (hn : n < 129) (hD : va_D (AA x.2.2 cx.s.heap.size) (wo x n G ++ [(q, e)])) (hP : va_P x.1 vwCl (wo x n G ++ [(q, e)]) H1) (hz : H1.size ≤ cx.s.heap.size + (n - cx.n0 + cx.kc + 1)) : q = x.2.2 n := by
  have hat : (wo x n G ++ [(q, e)])[n]? = some (q, e) := by
    rw [List.getElem?_append_right (by rw [wo_len]; exact Nat.le_refl _), wo_len, Nat.sub_self]; rfl
  have hlt : q < H1.size := (hP n _ hat).lt
  have hne : ∀ c, c < n → x.2.2 c ≠ q := by
    intro c hc he
    have h1 : (wo x n G ++ [(q, e)])[c]? = some (x.2.2 c, ev x c (G c)) := by
      rw [List.getElem?_append_left (by rw [wo_len]; exact hc), wo_at hc]
    have := hD.1 c n _ _ h1 hat he
    omega
  have hA := hD.2 n _ hat
  have hb0 := hB.2.1 cx.n0 (by omega)
  have hbn := hB.2.1 n (by omega)
  have hs := hB.1
  have hkc := hB.2.2.1
  have key : ∃ j, q = x.2.2 0 + j := by
    rcases hA with ⟨c, hc, e1⟩ | h1
    · exact ⟨c, by rw [← hB.2.1 c (by omega)]; exact e1⟩
    · have h1 : cx.s.heap.size ≤ q := h1
      exact ⟨q - x.2.2 0, by omega⟩
  obtain ⟨j, hj⟩ := key
  rcases Nat.lt_trichotomy j n with h | h | h
  · exact absurd (by rw [hB.2.1 j (by omega)]; exact hj.symm) (hne j h)
  · rw [hj, hbn, h]
  · omega
def na (n kk : Nat) (len : Int) (o : RT) : RT := if kd n = kk ∧ (ln n : Int) = len then o else none
def no (n ci : Nat) (o : RT) : RT := if kd n = ci then o else none
def gr (G : Hp) (t k : Nat) (o : RT) : RT := if G t k = 1 then o else none
def pf (t k c : Nat) (o : RT) : RT := if rf t k = c then o else none
def aa (a len : Nat) (i : Int) (c : Nat) (o : RT) : RT := if (0 ≤ i ∧ i < (len : Int)) ∧ rf a i.toNat = c then o else none
def ve (n nE : Nat) (G : Hp) : RT := if nE = n then rt 0 G else none
def dv (ci j : Nat) : Value := if isR ci j = true then .null else if isJ ci j = true then .long 0 else .int 0
def NW (own : String) (idx ci : Nat) : Prop := ∃ (C : String) (T : u_T) (N : Nat) (ty : Nat → FieldType), vwCl[ci]? = some (C, T, N) ∧ Cond.classLink own idx C ∈ gw ∧ Cond.instantiable C N ∈ gw ∧ Cond.initialized C ∈ gw ∧ (∀ w ∈ u_ws C T N, w ∈ gw) ∧ (∀ k, k < N → parseFieldDescriptor (T k).2.2.1 = some (ty k)) ∧ (∀ j, j < N → defaultValue (ty j) = dv ci j) ∧ ci < 13 ∧ (∀ c, c < 129 → kd c = ci → ln c = N)
def FF (own : String) (idx ci k : Nat) : Prop := ∃ (C : String) (T : u_T) (N : Nat) (ty0 : Nat → FieldType) (ty : FieldType), vwCl[ci]? = some (C, T, N) ∧ k < N ∧ Cond.fieldLink own idx (T k).1 (T k).2.1 (T k).2.2.1 ∈ gw ∧ (∀ w ∈ u_ws C T N, w ∈ gw) ∧ (∀ k, k < N → parseFieldDescriptor (T k).2.2.1 = some (ty0 k)) ∧ (∀ a, a < N → ∀ b, b < N → a ≠ b → (T a).2.1 ≠ (T b).2.1) ∧ ci < 13 ∧ (∀ c, c < 129 → kd c = ci → ln c = N) ∧ (T k).2.2.2 = true ∧ (T k).1 = own ∧ parseFieldDescriptor (T k).2.2.1 = some ty ∧ (∀ a, narrow ty (.ref a) = .ref a ∧ fits ty (.ref a) = true)
section MROWS
variable {cx : CX} {x : WX} {own : String} {cc : ByteArray} {nL n pc pc' : Nat} {ret : Option FieldType} {L : List (Nat × AV)} {S : List AV} {G : Hp} {o : RT}
theorem AAm {z : Nat} (h : n ≤ 129) : ∀ c, c < n → AA x.2.2 z (x.2.2 c) := fun c hc => AA_in h c hc
theorem x_newaI (F : Fx cx x own cc nL ret) (hB : BS cx x) {len : Int} {f : Hp → RT} (hn0 : cx.n0 ≤ n) (hnE : n + 1 ≤ cx.nE) (hn : n + 1 < 129) (harr : Cond.arrayClass .int ∈ gw) (d : decode cc pc = .ok (.newarray .int, 2)) (hp : pc + 2 = pc') (y : kd n = 20 → (ln n : Int) = len → ∀ g, Y cx x nL ret (n + 1) pc' L (vR n :: S) g (f g)) : Y cx x nL ret n pc L (vI len :: S) G (na n 20 len (bh (clr G n) f)) := by
  subst hp
  intro r G' ho hS hL hG H locs ls hP hV hl
  unfold na at ho
  by_cases hk : kd n = 20 ∧ (ln n : Int) = len
  · rw [if_pos hk] at ho
    obtain ⟨h1, h2⟩ := hk
    have hl0 : ln n ≤ 4000 := ln_le n (by omega)
    have hlen : (Int32.ofInt len).toNatClampNeg = ln n := by rw [o32_clamp hS.1]; omega
    have hmono := sz_mono (a := n + 1) (b := cx.nE) hnE
    have hmono0 := sz_mono hn0
    have hsz := sz_succ n (by omega)
    have hby : ln n * componentBytes .int ≤ 536870912 := by
      have h8 : componentBytes .int ≤ 8 := by decide
      have h9 := Nat.mul_le_mul hl0 h8
      omega
    refine va_newa (D := x.1) (cl := vwCl) (atype := .int) (a0 := (ln n, .inl (fun _ => Int32.ofInt 0))) F.1 F.2.1 (F.2.2.2.2.2.1 _ harr) rfl F.2.2.2.2.2.2.1 hP (wo_D (by omega) F.2.2.2.2.2.2.2.2.1 (AA_in (by omega))) hV (fun q h => Or.inr h) (fun cA => by first | rfl | (show arrV _ _ _ = _; rfl)) (o32_nn hS.1 (by omega)) hlen hby (by have hro := F.2.2.2.2.2.2.2.2.2.2.1; show n - cx.n0 + cx.kc + 1 ≤ cx.r.cells; omega) (by have hro := F.2.2.2.2.2.2.2.2.2.2.1; show sz n - sz cx.n0 + cx.ks + ln n ≤ cx.r.slots; omega) d (fun q cA H1 hK1 hP1 hD1 hV1 => ?_)
    have hcA : cA = x.2.1 20 := by
      have e1 := (hK1.2 6 (cA, .int) rfl).2
      have e2 := (hK1.2 0 (x.2.1 20, .int) rfl).2
      exact Option.some.inj (Eq.trans (Eq.symm e1) e2)
    intro T1 hT1 X1
    have hz := X1.heapSize
    rw [hT1] at hz
    have hq := q_is hB hn0 (by omega) hD1 hP1 hz
    subst hcA
    subst hq
    have y' := y h1 h2 (clr G n) r G' ho ⟨trivial, hS.2⟩ hL (okG_clr hG hn) H1 locs ls (by rw [wo_clr, ev_int h1 (by omega)]; exact hP1) hV1 hl
    rw [show n + 1 - cx.n0 + cx.kc = n - cx.n0 + cx.kc + 1 by omega, show sz (n + 1) - sz cx.n0 + cx.ks = sz n - sz cx.n0 + cx.ks + ln n by omega] at y'
    exact y' T1 hT1 X1
  · rw [if_neg hk] at ho; cases ho
theorem x_newaC (F : Fx cx x own cc nL ret) (hB : BS cx x) {len : Int} {f : Hp → RT} (hn0 : cx.n0 ≤ n) (hnE : n + 1 ≤ cx.nE) (hn : n + 1 < 129) (harr : Cond.arrayClass .char ∈ gw) (d : decode cc pc = .ok (.newarray .char, 2)) (hp : pc + 2 = pc') (y : kd n = 22 → (ln n : Int) = len → ∀ g, Y cx x nL ret (n + 1) pc' L (vR n :: S) g (f g)) : Y cx x nL ret n pc L (vI len :: S) G (na n 22 len (bh (clr G n) f)) := by
  subst hp
  intro r G' ho hS hL hG H locs ls hP hV hl
  unfold na at ho
  by_cases hk : kd n = 22 ∧ (ln n : Int) = len
  · rw [if_pos hk] at ho
    obtain ⟨h1, h2⟩ := hk
    have hl0 : ln n ≤ 4000 := ln_le n (by omega)
    have hlen : (Int32.ofInt len).toNatClampNeg = ln n := by rw [o32_clamp hS.1]; omega
    have hmono := sz_mono (a := n + 1) (b := cx.nE) hnE
    have hmono0 := sz_mono hn0
    have hsz := sz_succ n (by omega)
    have hby : ln n * componentBytes .char ≤ 536870912 := by
      have h8 : componentBytes .char ≤ 8 := by decide
      have h9 := Nat.mul_le_mul hl0 h8
      omega
    refine va_newa (D := x.1) (cl := vwCl) (atype := .char) (a0 := (ln n, .inl (fun _ => Int32.ofInt 0))) F.1 F.2.1 (F.2.2.2.2.2.1 _ harr) rfl F.2.2.2.2.2.2.1 hP (wo_D (by omega) F.2.2.2.2.2.2.2.2.1 (AA_in (by omega))) hV (fun q h => Or.inr h) (fun cA => by first | rfl | (show arrV _ _ _ = _; rfl)) (o32_nn hS.1 (by omega)) hlen hby (by have hro := F.2.2.2.2.2.2.2.2.2.2.1; show n - cx.n0 + cx.kc + 1 ≤ cx.r.cells; omega) (by have hro := F.2.2.2.2.2.2.2.2.2.2.1; show sz n - sz cx.n0 + cx.ks + ln n ≤ cx.r.slots; omega) d (fun q cA H1 hK1 hP1 hD1 hV1 => ?_)
    have hcA : cA = x.2.1 22 := by
      have e1 := (hK1.2 6 (cA, .char) rfl).2
      have e2 := (hK1.2 2 (x.2.1 22, .char) rfl).2
      exact Option.some.inj (Eq.trans (Eq.symm e1) e2)
    intro T1 hT1 X1
    have hz := X1.heapSize
    rw [hT1] at hz
    have hq := q_is hB hn0 (by omega) hD1 hP1 hz
    subst hcA
    subst hq
    have y' := y h1 h2 (clr G n) r G' ho ⟨trivial, hS.2⟩ hL (okG_clr hG hn) H1 locs ls (by rw [wo_clr, ev_int h1 (by omega)]; exact hP1) hV1 hl
    rw [show n + 1 - cx.n0 + cx.kc = n - cx.n0 + cx.kc + 1 by omega, show sz (n + 1) - sz cx.n0 + cx.ks = sz n - sz cx.n0 + cx.ks + ln n by omega] at y'
    exact y' T1 hT1 X1
  · rw [if_neg hk] at ho; cases ho
theorem x_newaZ (F : Fx cx x own cc nL ret) (hB : BS cx x) {len : Int} {f : Hp → RT} (hn0 : cx.n0 ≤ n) (hnE : n + 1 ≤ cx.nE) (hn : n + 1 < 129) (harr : Cond.arrayClass .boolean ∈ gw) (d : decode cc pc = .ok (.newarray .boolean, 2)) (hp : pc + 2 = pc') (y : kd n = 23 → (ln n : Int) = len → ∀ g, Y cx x nL ret (n + 1) pc' L (vR n :: S) g (f g)) : Y cx x nL ret n pc L (vI len :: S) G (na n 23 len (bh (clr G n) f)) := by
  subst hp
  intro r G' ho hS hL hG H locs ls hP hV hl
  unfold na at ho
  by_cases hk : kd n = 23 ∧ (ln n : Int) = len
  · rw [if_pos hk] at ho
    obtain ⟨h1, h2⟩ := hk
    have hl0 : ln n ≤ 4000 := ln_le n (by omega)
    have hlen : (Int32.ofInt len).toNatClampNeg = ln n := by rw [o32_clamp hS.1]; omega
    have hmono := sz_mono (a := n + 1) (b := cx.nE) hnE
    have hmono0 := sz_mono hn0
    have hsz := sz_succ n (by omega)
    have hby : ln n * componentBytes .boolean ≤ 536870912 := by
      have h8 : componentBytes .boolean ≤ 8 := by decide
      have h9 := Nat.mul_le_mul hl0 h8
      omega
    refine va_newa (D := x.1) (cl := vwCl) (atype := .boolean) (a0 := (ln n, .inl (fun _ => Int32.ofInt 0))) F.1 F.2.1 (F.2.2.2.2.2.1 _ harr) rfl F.2.2.2.2.2.2.1 hP (wo_D (by omega) F.2.2.2.2.2.2.2.2.1 (AA_in (by omega))) hV (fun q h => Or.inr h) (fun cA => by first | rfl | (show arrV _ _ _ = _; rfl)) (o32_nn hS.1 (by omega)) hlen hby (by have hro := F.2.2.2.2.2.2.2.2.2.2.1; show n - cx.n0 + cx.kc + 1 ≤ cx.r.cells; omega) (by have hro := F.2.2.2.2.2.2.2.2.2.2.1; show sz n - sz cx.n0 + cx.ks + ln n ≤ cx.r.slots; omega) d (fun q cA H1 hK1 hP1 hD1 hV1 => ?_)
    have hcA : cA = x.2.1 23 := by
      have e1 := (hK1.2 6 (cA, .boolean) rfl).2
      have e2 := (hK1.2 3 (x.2.1 23, .boolean) rfl).2
      exact Option.some.inj (Eq.trans (Eq.symm e1) e2)
    intro T1 hT1 X1
    have hz := X1.heapSize
    rw [hT1] at hz
    have hq := q_is hB hn0 (by omega) hD1 hP1 hz
    subst hcA
    subst hq
    have y' := y h1 h2 (clr G n) r G' ho ⟨trivial, hS.2⟩ hL (okG_clr hG hn) H1 locs ls (by rw [wo_clr, ev_int h1 (by omega)]; exact hP1) hV1 hl
    rw [show n + 1 - cx.n0 + cx.kc = n - cx.n0 + cx.kc + 1 by omega, show sz (n + 1) - sz cx.n0 + cx.ks = sz n - sz cx.n0 + cx.ks + ln n by omega] at y'
    exact y' T1 hT1 X1
  · rw [if_neg hk] at ho; cases ho
theorem x_newaJ (F : Fx cx x own cc nL ret) (hB : BS cx x) {len : Int} {f : Hp → RT} (hn0 : cx.n0 ≤ n) (hnE : n + 1 ≤ cx.nE) (hn : n + 1 < 129) (harr : Cond.arrayClass .long ∈ gw) (d : decode cc pc = .ok (.newarray .long, 2)) (hp : pc + 2 = pc') (y : kd n = 21 → (ln n : Int) = len → ∀ g, Y cx x nL ret (n + 1) pc' L (vR n :: S) g (f g)) : Y cx x nL ret n pc L (vI len :: S) G (na n 21 len (bh (clr G n) f)) := by
  subst hp
  intro r G' ho hS hL hG H locs ls hP hV hl
  unfold na at ho
  by_cases hk : kd n = 21 ∧ (ln n : Int) = len
  · rw [if_pos hk] at ho
    obtain ⟨h1, h2⟩ := hk
    have hl0 : ln n ≤ 4000 := ln_le n (by omega)
    have hlen : (Int32.ofInt len).toNatClampNeg = ln n := by rw [o32_clamp hS.1]; omega
    have hmono := sz_mono (a := n + 1) (b := cx.nE) hnE
    have hmono0 := sz_mono hn0
    have hsz := sz_succ n (by omega)
    have hby : ln n * componentBytes .long ≤ 536870912 := by
      have h8 : componentBytes .long ≤ 8 := by decide
      have h9 := Nat.mul_le_mul hl0 h8
      omega
    refine va_newa (D := x.1) (cl := vwCl) (atype := .long) (a0 := (ln n, .inr (.inl (fun _ => Int64.ofInt 0)))) F.1 F.2.1 (F.2.2.2.2.2.1 _ harr) rfl F.2.2.2.2.2.2.1 hP (wo_D (by omega) F.2.2.2.2.2.2.2.2.1 (AA_in (by omega))) hV (fun q h => Or.inr h) (fun cA => by first | rfl | (show arrV _ _ _ = _; rfl)) (o32_nn hS.1 (by omega)) hlen hby (by have hro := F.2.2.2.2.2.2.2.2.2.2.1; show n - cx.n0 + cx.kc + 1 ≤ cx.r.cells; omega) (by have hro := F.2.2.2.2.2.2.2.2.2.2.1; show sz n - sz cx.n0 + cx.ks + ln n ≤ cx.r.slots; omega) d (fun q cA H1 hK1 hP1 hD1 hV1 => ?_)
    have hcA : cA = x.2.1 21 := by
      have e1 := (hK1.2 6 (cA, .long) rfl).2
      have e2 := (hK1.2 1 (x.2.1 21, .long) rfl).2
      exact Option.some.inj (Eq.trans (Eq.symm e1) e2)
    intro T1 hT1 X1
    have hz := X1.heapSize
    rw [hT1] at hz
    have hq := q_is hB hn0 (by omega) hD1 hP1 hz
    subst hcA
    subst hq
    have y' := y h1 h2 (clr G n) r G' ho ⟨trivial, hS.2⟩ hL (okG_clr hG hn) H1 locs ls (by rw [wo_clr, ev_lng h1]; exact hP1) hV1 hl
    rw [show n + 1 - cx.n0 + cx.kc = n - cx.n0 + cx.kc + 1 by omega, show sz (n + 1) - sz cx.n0 + cx.ks = sz n - sz cx.n0 + cx.ks + ln n by omega] at y'
    exact y' T1 hT1 X1
  · rw [if_neg hk] at ho; cases ho
theorem x_newO (F : Fx cx x own cc nL ret) (hB : BS cx x) {idx ci : Nat} {f : Hp → RT} (hW : NW own idx ci) (hn0 : cx.n0 ≤ n) (hnE : n + 1 ≤ cx.nE) (hn : n + 1 < 129) (d : decode cc pc = .ok (.new idx, 3)) (hp : pc + 3 = pc') (y : kd n = ci → ∀ g, Y cx x nL ret (n + 1) pc' L (vR n :: S) g (f g)) : Y cx x nL ret n pc L S G (no n ci (bh (clr G n) f)) := by
  subst hp
  intro r G' ho hS hL hG H locs ls hP hV hl
  unfold no at ho
  by_cases hk : kd n = ci
  · rw [if_pos hk] at ho
    obtain ⟨C, T, N, ty, hc, hw1, hw2, hw3, hin, hty, hdv, hci, hN⟩ := hW
    have hNn : ln n = N := hN n (by omega) hk
    have hmono := sz_mono (a := n + 1) (b := cx.nE) hnE
    have hmono0 := sz_mono hn0
    have hsz := sz_succ n (by omega)
    have hfs : ∀ j, j < N → defaultValue (ty j) = vp_V ((List.range (ln n)).map (fvv x n (fun _ => 0))) j := by
      intro j hj
      rw [hdv j hj]
      show dv ci j = List.getD _ j .null
      rw [List.getD_eq_getElem?_getD, fvv_at (by omega)]
      unfold dv fvv
      rw [hk]
      by_cases a1 : isR ci j = true
      · rw [if_pos a1, if_pos a1]; rfl
      · rw [if_neg a1, if_neg a1]
        by_cases a2 : isJ ci j = true
        · rw [if_pos a2, if_pos a2]; rfl
        · rw [if_neg a2, if_neg a2]; rfl
    refine va_new (D := x.1) (cl := vwCl) (C := C) (T := T) (N := N) (ci := ci) F.1 F.2.1 F.2.2.2.2.2.1 hin ty hty F.2.2.2.2.1 (F.2.2.2.2.2.1 _ hw1) (F.2.2.2.2.2.1 _ hw2) (F.2.2.2.2.2.1 _ hw3) F.2.2.2.2.2.2.1 hP (wo_D (by omega) F.2.2.2.2.2.2.2.2.1 (AA_in (by omega))) hV (fun q h => Or.inr h) hc hfs (by have hro := F.2.2.2.2.2.2.2.2.2.2.1; show n - cx.n0 + cx.kc + 1 ≤ cx.r.cells; omega) (by have hro := F.2.2.2.2.2.2.2.2.2.2.1; show sz n - sz cx.n0 + cx.ks + N ≤ cx.r.slots; omega) d (fun q H1 hP1 hD1 hV1 => ?_)
    intro T1 hT1 X1
    have hz := X1.heapSize
    rw [hT1] at hz
    have hq := q_is hB hn0 (by omega) hD1 hP1 hz
    subst hq
    have y' := y hk (clr G n) r G' ho ⟨trivial, hS⟩ hL (okG_clr hG hn) H1 locs ls (by rw [wo_clr, ev_obj hk hci]; exact hP1) hV1 hl
    rw [show n + 1 - cx.n0 + cx.kc = n - cx.n0 + cx.kc + 1 by omega, show sz (n + 1) - sz cx.n0 + cx.ks = sz n - sz cx.n0 + cx.ks + N by omega] at y'
    exact y' T1 hT1 X1
  · rw [if_neg hk] at ho; cases ho
theorem x_getRc (F : Fx cx x own cc nL ret) {idx ci k t : Nat} (fl : FL own idx ci k) (hk : kd t = ci) (ht : t < n) (hn : n ≤ 129) (hb : isR ci k = true) (d : decode cc pc = .ok (.getfield idx, 3)) (hp : pc + 3 = pc') (y : Y cx x nL ret n pc' L (vR (rf t k) :: S) G o) : Y cx x nL ret n pc L (vR t :: S) G (gr G t k o) := by
  unfold gr
  by_cases hg : G t k = 1
  · rw [if_pos hg]
    exact x_get F fl hk ht hn d hp (v := vR (rf t k)) (by unfold fvv; rw [hk, hb, if_pos rfl, if_pos hg]; rfl) (fun _ => trivial) y
  · rw [if_neg hg]; exact Y_none
theorem x_putFR (F : Fx cx x own cc nL ret) (hI : cx.t.name = "<init>") {idx ci k t c : Nat} {f : Hp → RT} (ff : FF own idx ci k) (hk : kd t = ci) (ht : t < n) (hn : n < 129) (hb : isR ci k = true) (hbj : isJ ci k = false) (d : decode cc pc = .ok (.putfield idx, 3)) (hp : pc + 3 = pc') (y : ∀ g, Y cx x nL ret n pc' L S g (f g)) : Y cx x nL ret n pc L (vR c :: vR t :: S) G (pf t k c (bh (up G t k 1) f)) := by
  subst hp
  intro r G' ho hS hL hG H locs ls hP hV hl
  unfold pf at ho
  by_cases hc9 : rf t k = c
  · rw [if_pos hc9] at ho
    obtain ⟨C, T, N, ty0, ty, hc, hkN, hlk, hin, hty, hnm, hci, hN, hfin, hdecl, hpd, hnf⟩ := ff
    have hNt := hN t (by omega) hk
    have he := wo_at (x := x) (G := G) ht
    rw [ev_obj hk hci, hNt] at he
    have hv : fvv x t (up G t k 1 t) k = .ref (x.2.2 c) := by
      unfold fvv; rw [hk, hb, if_pos rfl, up_self, if_pos (by simp), hc9]
    refine va_putF (D := x.1) (cl := vwCl) (C := C) (T := T) (N := N) (v := .ref (x.2.2 c)) F.1 F.2.1 F.2.2.2.2.2.1 hin ty0 hty hnm F.2.2.2.2.1 F.2.2.2.2.2.2.1 hP (wo_D (by omega) F.2.2.2.2.2.2.2.2.1 (AA_in (by omega))) hV t he hc k hkN (F.2.2.2.2.2.1 _ hlk) (fun _ h9 => h9) hfin hI hdecl hpd (hnf _).1 (hnf _).2 (by simp; exact hkN) d (fun H1 locs1 hP1 hD1 hV1 => ?_)
    have e1 : ∀ j, j ≠ k → up G t k 1 t j = G t j := by intro j hj; rw [up_self]; simp [hj]
    rw [← hv, fvv_set e1, ← hNt, ← ev_obj hk hci, wo_set ht (fun j hj => up_ne hj)] at hP1
    refine y _ r G' ho hS.2.2 hL ⟨fun c' k' => ?_, fun e => by omega⟩ H1 locs1 ls hP1 hV1 hl
    by_cases e : c' = t
    · subst e; rw [up_self]
      by_cases e2 : k' = k
      · subst e2; rw [(pl_obj hk hci).1, hbj]; simp; exact ⟨by decide, by decide⟩
      · simp only [e2, if_false]; exact hG.1 c' k'
    · rw [up_ne e]; exact hG.1 c' k'
  · rw [if_neg hc9] at ho; cases ho
theorem x_objI (F : Fx cx x own cc nL ret) {idx t : Nat} (hw : Cond.methodLink own idx Lib.objectInit ∈ gw) (h1 : Cond.instanceMethod Lib.objectInit ∈ gw) (h2 : Cond.code Lib.objectInit ⟨#[0xb1]⟩ 1 none ∈ gw) (hd : 1 ≤ cx.d) (h8 : wS S ≤ 8) (d : decode cc pc = .ok (.invokespecial idx, 3)) (hp : pc + 3 = pc') (y : Y cx x nL ret n pc' L S G o) : Y cx x nL ret n pc L (vR t :: S) G o := by
  subst hp
  intro r G' ho hS hL hG H locs ls hP hV hl
  exact W.objInit F.1 F.2.1 F.2.2.2.2.1 (F.2.2.2.2.2.1 _ hw) (F.2.2.2.2.2.1 _ h1) (F.2.2.2.2.2.1 _ h2) rfl (by rw [F.2.2.2.1]; exact hl.1) rfl d (by have hro := F.2.2.2.2.2.2.2.2.2.2.1; show 1 ≤ cx.r.frames; omega) (by rw [wS_cat]; have hro := F.2.2.2.2.2.2.2.2.2.2.1; show 2 * 0 + wS S + 12 ≤ cx.r.locals; omega) (y r G' ho hS.2 hL hG H locs ls hP hV hl)
theorem x_anewS (F : Fx cx x own cc nL ret) (hB : BS cx x) {idx : Nat} {len : Int} {f : Hp → RT} (hw : Cond.classLink own idx RX6 ∈ gw) (hn0 : cx.n0 ≤ n) (hnE : n + 1 ≤ cx.nE) (hn : n + 1 < 129) (d : decode cc pc = .ok (.anewarray idx, 3)) (hp : pc + 3 = pc') (y : kd n = 24 → (ln n : Int) = len → ∀ g, Y cx x nL ret (n + 1) pc' L (vR n :: S) g (f g)) : Y cx x nL ret n pc L (vI len :: S) G (na n 24 len (bh (clr G n) f)) := by
  subst hp
  intro r G' ho hS hL hG H locs ls hP hV hl
  unfold na at ho
  by_cases hk : kd n = 24 ∧ (ln n : Int) = len
  · rw [if_pos hk] at ho
    obtain ⟨h1, h2⟩ := hk
    have hl0 : ln n ≤ 4000 := ln_le n (by omega)
    have hlen : (Int32.ofInt len).toNatClampNeg = ln n := by rw [o32_clamp hS.1]; omega
    have hmono := sz_mono (a := n + 1) (b := cx.nE) hnE
    have hmono0 := sz_mono hn0
    have hsz := sz_succ n (by omega)
    refine va_newq (D := x.1) (cl := vwCl) (C := RX6) F.1 F.2.1 F.2.2.2.2.1 (F.2.2.2.2.2.1 _ hw) F.2.2.2.2.2.2.2.2.2.2.2.2.2.2.2.2.2.1 F.2.2.2.2.2.2.1 hP (wo_D (by omega) F.2.2.2.2.2.2.2.2.1 (AA_in (by omega))) hV (fun q h => Or.inr h) (o32_nn hS.1 (by omega)) hlen (by omega) (by have hro := F.2.2.2.2.2.2.2.2.2.2.1; show n - cx.n0 + cx.kc + 1 ≤ cx.r.cells; omega) (by have hro := F.2.2.2.2.2.2.2.2.2.2.1; show sz n - sz cx.n0 + cx.ks + ln n ≤ cx.r.slots; omega) d (fun q cA H1 hK1 hP1 hD1 hV1 => ?_)
    have hcA : cA = x.2.1 24 := by
      obtain ⟨k1, c1, -, -, -, e1⟩ := (hK1.2 6 (cA, .object RX6) rfl).2
      obtain ⟨k2, c2, -, -, -, e2⟩ := (hK1.2 4 (x.2.1 24, .object RX6) rfl).2
      exact Option.some.inj (Eq.trans (Eq.symm e1) e2)
    intro T1 hT1 X1
    have hz := X1.heapSize
    rw [hT1] at hz
    have hq := q_is hB hn0 (by omega) hD1 hP1 hz
    subst hcA
    subst hq
    have y' := y h1 h2 (clr G n) r G' ho ⟨trivial, hS.2⟩ hL (okG_clr hG hn) H1 locs ls (by rw [wo_clr, ev_ref h1 (by omega)]; exact hP1) hV1 hl
    rw [show n + 1 - cx.n0 + cx.kc = n - cx.n0 + cx.kc + 1 by omega, show sz (n + 1) - sz cx.n0 + cx.ks = sz n - sz cx.n0 + cx.ks + ln n by omega] at y'
    exact y' T1 hT1 X1
  · rw [if_neg hk] at ho; cases ho
theorem x_aastS (F : Fx cx x own cc nL ret) {a len c : Nat} {i : Int} {f : Hp → RT} (hk : kd a = 24) (hlen : ln a = len) (hc : kd c = 6) (ht : a < n) (htc : c < n) (hn : n < 129) (d : decode cc pc = .ok (.aastore, 1)) (hp : pc + 1 = pc') (y : ∀ g, Y cx x nL ret n pc' L S g (f g)) : Y cx x nL ret n pc L (vR c :: vI i :: vR a :: S) G (aa a len i c (bh (up G a i.toNat 1) f)) := by
  subst hp
  intro r G' ho hS hL hG H locs ls hP hV hl
  unfold aa at ho
  by_cases hi : (0 ≤ i ∧ i < (len : Int)) ∧ rf a i.toNat = c
  · rw [if_pos hi] at ho
    obtain ⟨hi, hrc⟩ := hi
    have he := wo_at (x := x) (G := G) ht
    rw [ev_ref hk (by omega)] at he
    have hec := wo_at (x := x) (G := G) htc
    rw [ev_obj hc (by omega)] at hec
    refine va_astq (D := x.1) (cl := vwCl) F.1 F.2.1 F.2.2.2.2.2.2.1 hP (wo_D (by omega) F.2.2.2.2.2.2.2.2.1 (AA_in (by omega))) hV a 4 c 6 he rfl hec rfl (o32_in hS.2.1 (by rw [hlen]; exact hi)) d (fun H1 locs1 hP1 hD1 hV1 => ?_)
    have eu : va_up (fun k => if G a k = 1 then some (x.2.2 (rf a k)) else none) i.toNat (some (x.2.2 c)) = (fun k => if up G a i.toNat 1 a k = 1 then some (x.2.2 (rf a k)) else none) := by
      funext k
      unfold va_up
      rw [up_self]
      by_cases e : k = i.toNat
      · subst e; simp [hrc]
      · simp [e]
    rw [o32_clamp hS.2.1, eu, ← ev_ref hk (by omega), wo_set ht (fun j hj => up_ne hj)] at hP1
    refine y _ r G' ho hS.2.2.2 hL ⟨fun c' k' => ?_, fun e => by omega⟩ H1 locs1 ls hP1 hV1 hl
    by_cases e : c' = a
    · subst e; rw [up_self]
      by_cases e2 : k' = i.toNat
      · subst e2
        have hpj : plJ c' i.toNat = false := by unfold plJ; rw [hk]; rfl
        rw [hpj]; simp; exact ⟨by decide, by decide⟩
      · simp only [e2, if_false]; exact hG.1 c' k'
    · rw [up_ne e]; exact hG.1 c' k'
  · rw [if_neg hi] at ho; cases ho
theorem x_anewN (F : Fx cx x own cc nL ret) (hB : BS cx x) {idx : Nat} {len : Int} {f : Hp → RT} (hw : Cond.classLink own idx RX5 ∈ gw) (hn0 : cx.n0 ≤ n) (hnE : n + 1 ≤ cx.nE) (hn : n + 1 < 129) (d : decode cc pc = .ok (.anewarray idx, 3)) (hp : pc + 3 = pc') (y : kd n = 25 → (ln n : Int) = len → ∀ g, Y cx x nL ret (n + 1) pc' L (vR n :: S) g (f g)) : Y cx x nL ret n pc L (vI len :: S) G (na n 25 len (bh (clr G n) f)) := by
  subst hp
  intro r G' ho hS hL hG H locs ls hP hV hl
  unfold na at ho
  by_cases hk : kd n = 25 ∧ (ln n : Int) = len
  · rw [if_pos hk] at ho
    obtain ⟨h1, h2⟩ := hk
    have hl0 : ln n ≤ 4000 := ln_le n (by omega)
    have hlen : (Int32.ofInt len).toNatClampNeg = ln n := by rw [o32_clamp hS.1]; omega
    have hmono := sz_mono (a := n + 1) (b := cx.nE) hnE
    have hmono0 := sz_mono hn0
    have hsz := sz_succ n (by omega)
    refine va_newq (D := x.1) (cl := vwCl) (C := RX5) F.1 F.2.1 F.2.2.2.2.1 (F.2.2.2.2.2.1 _ hw) F.2.2.2.2.2.2.2.2.2.2.2.2.2.2.2.2.2.2.1 F.2.2.2.2.2.2.1 hP (wo_D (by omega) F.2.2.2.2.2.2.2.2.1 (AA_in (by omega))) hV (fun q h => Or.inr h) (o32_nn hS.1 (by omega)) hlen (by omega) (by have hro := F.2.2.2.2.2.2.2.2.2.2.1; show n - cx.n0 + cx.kc + 1 ≤ cx.r.cells; omega) (by have hro := F.2.2.2.2.2.2.2.2.2.2.1; show sz n - sz cx.n0 + cx.ks + ln n ≤ cx.r.slots; omega) d (fun q cA H1 hK1 hP1 hD1 hV1 => ?_)
    have hcA : cA = x.2.1 25 := by
      obtain ⟨k1, c1, -, -, -, e1⟩ := (hK1.2 6 (cA, .object RX5) rfl).2
      obtain ⟨k2, c2, -, -, -, e2⟩ := (hK1.2 5 (x.2.1 25, .object RX5) rfl).2
      exact Option.some.inj (Eq.trans (Eq.symm e1) e2)
    intro T1 hT1 X1
    have hz := X1.heapSize
    rw [hT1] at hz
    have hq := q_is hB hn0 (by omega) hD1 hP1 hz
    subst hcA
    subst hq
    have y' := y h1 h2 (clr G n) r G' ho ⟨trivial, hS.2⟩ hL (okG_clr hG hn) H1 locs ls (by rw [wo_clr, ev_ref h1 (by omega)]; exact hP1) hV1 hl
    rw [show n + 1 - cx.n0 + cx.kc = n - cx.n0 + cx.kc + 1 by omega, show sz (n + 1) - sz cx.n0 + cx.ks = sz n - sz cx.n0 + cx.ks + ln n by omega] at y'
    exact y' T1 hT1 X1
  · rw [if_neg hk] at ho; cases ho
theorem x_aastN (F : Fx cx x own cc nL ret) {a len c : Nat} {i : Int} {f : Hp → RT} (hk : kd a = 25) (hlen : ln a = len) (hc : kd c = 5) (ht : a < n) (htc : c < n) (hn : n < 129) (d : decode cc pc = .ok (.aastore, 1)) (hp : pc + 1 = pc') (y : ∀ g, Y cx x nL ret n pc' L S g (f g)) : Y cx x nL ret n pc L (vR c :: vI i :: vR a :: S) G (aa a len i c (bh (up G a i.toNat 1) f)) := by
  subst hp
  intro r G' ho hS hL hG H locs ls hP hV hl
  unfold aa at ho
  by_cases hi : (0 ≤ i ∧ i < (len : Int)) ∧ rf a i.toNat = c
  · rw [if_pos hi] at ho
    obtain ⟨hi, hrc⟩ := hi
    have he := wo_at (x := x) (G := G) ht
    rw [ev_ref hk (by omega)] at he
    have hec := wo_at (x := x) (G := G) htc
    rw [ev_obj hc (by omega)] at hec
    refine va_astq (D := x.1) (cl := vwCl) F.1 F.2.1 F.2.2.2.2.2.2.1 hP (wo_D (by omega) F.2.2.2.2.2.2.2.2.1 (AA_in (by omega))) hV a 5 c 5 he rfl hec rfl (o32_in hS.2.1 (by rw [hlen]; exact hi)) d (fun H1 locs1 hP1 hD1 hV1 => ?_)
    have eu : va_up (fun k => if G a k = 1 then some (x.2.2 (rf a k)) else none) i.toNat (some (x.2.2 c)) = (fun k => if up G a i.toNat 1 a k = 1 then some (x.2.2 (rf a k)) else none) := by
      funext k
      unfold va_up
      rw [up_self]
      by_cases e : k = i.toNat
      · subst e; simp [hrc]
      · simp [e]
    rw [o32_clamp hS.2.1, eu, ← ev_ref hk (by omega), wo_set ht (fun j hj => up_ne hj)] at hP1
    refine y _ r G' ho hS.2.2.2 hL ⟨fun c' k' => ?_, fun e => by omega⟩ H1 locs1 ls hP1 hV1 hl
    by_cases e : c' = a
    · subst e; rw [up_self]
      by_cases e2 : k' = i.toNat
      · subst e2
        have hpj : plJ c' i.toNat = false := by unfold plJ; rw [hk]; rfl
        rw [hpj]; simp; exact ⟨by decide, by decide⟩
      · simp only [e2, if_false]; exact hG.1 c' k'
    · rw [up_ne e]; exact hG.1 c' k'
  · rw [if_neg hi] at ho; cases ho
theorem x_vretC (F : Fx cx x own cc nL none) (hQ : QS cx x none) {nE : Nat} (hE : cx.nE = nE) (d : decode cc pc = .ok (.return_, 1)) : Y cx x nL none n pc L [] G (ve n nE G) := by
  unfold ve
  by_cases h : nE = n
  · rw [if_pos h]; exact x_vret F (hE.trans h) hQ d
  · rw [if_neg h]; exact Y_none
end MROWS
/-- a constructor's contract: as a method's, in a heap that ends where the next cell will lie -/
def CtC (l : Launch) (x : WX) (y : MethodName) (cc : ByteArray) (nL d n n' : Nat) (av : List AV) (G : Hp) (o : RT) : Prop :=
  ∀ (r : Int) (G' : Hp), o = some (r, G') → okS av → okG n G → Met l y (Cond.code y cc nL none :: gw) (rmd d n n') (va_Pc (cS x.2.2 av) (fun U => U.heap.size = x.2.2 n ∧ va_P x.1 vwCl (wo x n G) U.heap ∧ va_K x.1 vwCl (tysO x.2.1) U ∧ EX x U)) (QQ x none n' r G' (AA x.2.2 (x.2.2 n))) (n' - n) (sz n' - sz n) (AA x.2.2 (x.2.2 n))
theorem ctc_of {l : Launch} {x : WX} {y : MethodName} {cc : ByteArray} {nL d n n' : Nat} {av : List AV} {G : Hp} {o : RT} (hy : plainFor y = true) (hyn : y.name = "<init>") (hi : Inj x.2.2) (had : ∀ c, c ≤ 129 → x.2.2 c = x.2.2 0 + c) (hn : n ≤ n') (hn' : n' ≤ 129) (hw : wS av ≤ nL)
    (h : ∀ cx : CX, Fx cx x y.cls cc nL none → cx.d = d → cx.n0 = n → cx.nE = n' → cx.l = l → QS cx x none → BS cx x → cx.t.name = "<init>" → Y cx x nL none n 0 (aL 0 av) [] G o) : CtC l x y cc nL d n n' av G o := by
  intro r G' ho hav hG
  refine Met_ofF (cc := cc) (maxL := nL) (ret := none) hy rfl ?_
  intro p e s m args below meth c s₁ B hml hv
  obtain ⟨rfl, hsz, hP, hK, hE⟩ := hv
  have hts := atoms_spec (ws := Cond.code y cc nL none :: gw) B.pre
  rw [← hsz]
  have k := h (p, l, e, d, s, m, (cS x.2.2 av).toArray, below, meth, c, n, n', fun r G' => MQ below (QQ x none n' r G' (AA x.2.2 s.heap.size)) (cS x.2.2 av).toArray s (n' - n) (sz n' - sz n) (AA x.2.2 s.heap.size), rmd d n n', 0, 0) ⟨B.exec, B.bytes, B.returns, hml, findClass_of_methodNamed B.named, fun w hw => hts w (List.mem_cons_of_mem _ hw), hK, B.notSynchronized, hi, hn, ⟨Nat.le_refl _, Nat.le_refl _, Nat.le_refl _, Nat.le_refl _⟩, hE⟩ rfl rfl rfl rfl ⟨rfl, rfl, rfl⟩ ⟨hsz, had, rfl, rfl⟩ ((name_of_methodNamed B.named B.method).1.trans hyn)
  have hl := lv_entry (cS x.2.2 av) (n := nL) (by rw [wS_sl]; exact hw)
  rw [aL_args] at hl
  have k2 := k r G' ho trivial (aL_ok av 0 hav) hG s.heap [] _ hP va_S.rf hl
  rw [lg_entry_eq]
  have e1 : n - n + 0 = 0 := by omega
  have e2 : sz n - sz n + 0 = 0 := by omega
  simp only [CX.n0, CX.kc, CX.ks, e1, e2] at k2
  exact k2
theorem blindC {av : List Value} {x : WX} {n : Nat} {G : Hp} : FrameBlind (va_Pc av (fun U => U.heap.size = x.2.2 n ∧ va_P x.1 vwCl (wo x n G) U.heap ∧ va_K x.1 vwCl (tysO x.2.1) U ∧ EX x U)) := fun a U g mk q => by
  obtain ⟨q0, q1, qP, qK, qE⟩ := q
  exact ⟨q0, q1, qP, va_K.moved (u := U) (U := U.calling g mk a) (Vm.Alike.refl U.vm) qK, qE.same (U := U.calling g mk a) rfl rfl⟩
section CCROW
variable {cx : CX} {x : WX} {own : String} {cc : ByteArray} {nL n pc pc' : Nat} {ret : Option FieldType} {L : List (Nat × AV)} {S : List AV} {G : Hp} {o : RT}
/-- where the heap ends -/
theorem size_is {T : State} {H : Heap} {locs : List Loc} {slots : Nat} {p : Program} {l : Launch} {e : Env} {R : Room} {m : MethodId} {args : Array Value} {below : List Frame} {meth : Method} {c : Code} (hB : BS cx x) (hn0 : cx.n0 ≤ n) (hn : n ≤ 129) (hP : va_P x.1 vwCl (wo x n G) H) (hV : va_S (AA x.2.2 cx.s.heap.size) cx.s.heap H locs) (hT : T.heap = H) (X : Stand p l e R cx.s m args below meth c T locs (n - cx.n0 + cx.kc) slots) : H.size = x.2.2 n := by
  have hz := X.heapSize
  rw [hT] at hz
  have h0 := hB.2.1 cx.n0 (by omega)
  have h1 := hB.2.1 n hn
  have hs := hB.1
  have hkc := hB.2.2.1
  rcases Nat.lt_or_ge cx.n0 n with q | q
  · have hlt : x.2.2 (n - 1) < H.size := (hP (n - 1) _ (wo_at (by omega))).lt
    have h2 := hB.2.1 (n - 1) (by omega)
    omega
  · have := hV.1
    have e : n = cx.n0 := by omega
    subst e
    omega
/-- new C(..): the constructor is called -/
theorem x_callC (F : Fx cx x own cc nL ret) (hB : BS cx x) {idx mL d' n1 t : Nat} {y : MethodName} {bc : ByteArray} {as S0 : List AV} {f : Hp → RT} (hw : Cond.methodLink own idx y ∈ gw) (hy1 : y.name = "<init>") (hwi : Cond.instanceMethod y ∈ gw) (hini : Cond.initialized y.cls ∈ gw) (hcode : Cond.code y bc mL none ∈ gw) (hy : y.cls ≠ "java/lang/invoke/MethodHandle" ∧ y.cls ≠ "java/lang/invoke/VarHandle" ∧ (parseMethodDescriptor y.desc).map (fun d => d.parameters.length) = some as.length) (hmL : mL ≤ 40)
    (hn : n ≤ n1) (hn1 : n1 ≤ cx.nE) (hn0 : cx.n0 ≤ n) (h129 : n ≤ 129) (hct : CtC cx.l x y bc mL d' n n1 (vR t :: as) G o) (hd : d' + 1 ≤ cx.d) (h8 : wS S ≤ 8) (d : decode cc pc = .ok (.invokespecial idx, 3)) (hp : pc + 3 = pc') (hst : S0 = as.reverse ++ vR t :: S) (k : ∀ g, Y cx x nL ret n1 pc' L S g (f g)) : Y cx x nL ret n pc L S0 G (bn o (fun _ g => f g)) := by
  subst hst
  subst hp
  intro r G' ho hS hL hG H locs ls hP hV hl
  cases o with
  | none => cases ho
  | some q =>
    obtain ⟨ro, Go⟩ := q
    have hs := okS_app hS
    have hav : okS (vR t :: as) := ⟨trivial, okS_rev hs.1⟩
    have hct' := hct ro Go rfl hav hG
    have hro := F.2.2.2.2.2.2.2.2.2.2.1
    have hmono1 := sz_mono hn0
    have hmono2 := sz_mono hn
    have hmono3 := sz_mono hn1
    intro T hT X
    have hz := size_is hB hn0 (by omega) hP hV hT X
    have cb : CallB cx.r cx.s cx.a own idx y bc mL none (Cond.code y bc mL none :: gw) (rmd d' n n1) (n1 - n) (sz n1 - sz n) as.length := callB_of as.length F.2.2.2.2.2.1 (gw_code hcode) rfl rfl rfl (F.2.2.2.2.2.1 _ hini) (F.2.2.2.2.2.1 _ hw) hy ⟨by show d' + 1 ≤ cx.r.frames; omega, by show 8 + (mL + 11) + 64 * d' ≤ cx.r.locals; omega⟩
    have run := va_runI (e := cx.e) (below := cx.b) (meth := cx.t) (locs := locs) (cells := n - cx.n0 + cx.kc) (slots := sz n - sz cx.n0 + cx.ks) (As := cS x.2.2 as) (rest := cS x.2.2 S) (g := F0 cx.m pc ls (cS x.2.2 (as.reverse ++ vR t :: S))) (b := x.2.2 t) (Ts := gw) ⟨F.1, F.2.1, F.2.2.2.1, F.2.2.2.2.1, F.2.2.2.2.2.1⟩ hct' ⟨cb, hy1, F.2.2.2.2.2.1 _ hwi⟩ ⟨blindC, fun U hU hW => ⟨rfl, by rw [hU]; exact hz, by rw [hU]; exact hP, va_K.moved hW.alike F.2.2.2.2.2.2.1, F.2.2.2.2.2.2.2.2.2.2.2.call hV hU hW⟩⟩ rfl (cS_len _ _) hl.1 (by show cS x.2.2 _ = _; rw [cS_app, cS_rev]; rfl) (lv_room (by rw [wS_cat]; exact h8)) d ⟨by show n - cx.n0 + cx.kc + (n1 - n) ≤ cx.r.cells; omega, by show sz n - sz cx.n0 + cx.ks + (sz n1 - sz n) ≤ cx.r.slots; omega⟩
    refine (va_callv (a := #[]) run hV (fun q hq h => h.elim (fun h => Or.inl h) (fun h => absurd hq (Nat.not_lt.mpr (by rw [hz]; exact h)))) (fun q h => h.elim (fun h => Or.inl h) (fun h => Or.inr (Nat.le_trans hV.1 (by rw [hz]; exact h)))) (fun u t1 H1 locs1 ht1 hvm hpost hB1 hz1 hk1 hV1 => ?_)) T hT X
    have k' := k Go r G' ho hs.2.2 hL hpost.2 H1 locs1 ls (by rw [← ht1]; exact hB1.1) hV1 hl
    rw [show n1 - cx.n0 + cx.kc = n - cx.n0 + cx.kc + (n1 - n) by omega, show sz n1 - sz cx.n0 + cx.ks = sz n - sz cx.n0 + cx.ks + (sz n1 - sz n) by omega] at k'
    exact k'
end CCROW

def AF (g : Hp) : Prop := ∀ c k, c < 129 → plR c k = true → k < ln c → g c k = 1
noncomputable def nl (t k : Nat) (len : Int) (G : Hp) (f : Hp → RT) : RT := @ite RT (kd 128 = 20 ∧ (ln 128 : Int) = len ∧ rf t k = 128 ∧ AF (up (clr G 128) t k 1)) (Classical.propDecidable _) (f (up (clr G 128) t k 1)) none
/-- the last cell: made and laid into its field -/
theorem x_newLast {cx : CX} {x : WX} {own : String} {cc : ByteArray} {nL pc pc' : Nat} {ret : Option FieldType} {L : List (Nat × AV)} {S : List AV} {G : Hp} (F : Fx cx x own cc nL ret) (hB : BS cx x) (hI : cx.t.name = "<init>") {idx ci k t : Nat} {len : Int} {f : Hp → RT} (ff : FF own idx ci k) (hk : kd t = ci) (ht : t < 128) (hb : isR ci k = true) (hbj : isJ ci k = false) (hn0 : cx.n0 ≤ 128) (hnE : 129 ≤ cx.nE) (harr : Cond.arrayClass .int ∈ gw) (d : decode cc pc = .ok (.newarray .int, 2)) (d2 : decode cc (pc + 2) = .ok (.putfield idx, 3)) (hp : pc + 5 = pc') (y : ∀ g, Y cx x nL ret 129 pc' L S g (f g)) : Y cx x nL ret 128 pc L (vI len :: vR t :: S) G (nl t k len G f) := by
  subst hp
  intro r G' ho hS hL hG H locs ls hP hV hl
  unfold nl at ho
  by_cases hq9 : kd 128 = 20 ∧ (ln 128 : Int) = len ∧ rf t k = 128 ∧ AF (up (clr G 128) t k 1)
  · rw [if_pos hq9] at ho
    obtain ⟨h1, h2, hrk, haf⟩ := hq9
    have hl0 : ln 128 ≤ 4000 := ln_le 128 (by omega)
    have hlen : (Int32.ofInt len).toNatClampNeg = ln 128 := by rw [o32_clamp hS.1]; omega
    have hmono := sz_mono (a := 129) (b := cx.nE) hnE
    have hmono0 := sz_mono hn0
    have hsz : sz 129 = sz 128 + ln 128 := sz_succ 128 (by omega)
    have hby : ln 128 * componentBytes .int ≤ 536870912 := by
      have h8 : componentBytes .int ≤ 8 := by decide
      have h9 := Nat.mul_le_mul hl0 h8
      omega
    refine va_newa (D := x.1) (cl := vwCl) (atype := .int) (a0 := (ln 128, .inl (fun _ => Int32.ofInt 0))) F.1 F.2.1 (F.2.2.2.2.2.1 _ harr) rfl F.2.2.2.2.2.2.1 hP (wo_D (by omega) F.2.2.2.2.2.2.2.2.1 (AA_in (by omega))) hV (fun q h => Or.inr h) (fun cA => by first | rfl | (show arrV _ _ _ = _; rfl)) (o32_nn hS.1 (by omega)) hlen hby (by have hro := F.2.2.2.2.2.2.2.2.2.2.1; show 128 - cx.n0 + cx.kc + 1 ≤ cx.r.cells; omega) (by have hro := F.2.2.2.2.2.2.2.2.2.2.1; show sz 128 - sz cx.n0 + cx.ks + ln 128 ≤ cx.r.slots; omega) d (fun q cA H1 hK1 hP1 hD1 hV1 => ?_)
    have hcA : cA = x.2.1 20 := by
      have e1 := (hK1.2 6 (cA, .int) rfl).2
      have e2 := (hK1.2 0 (x.2.1 20, .int) rfl).2
      exact Option.some.inj (Eq.trans (Eq.symm e1) e2)
    intro T1 hT1 X1
    have hz := X1.heapSize
    rw [hT1] at hz
    have hq := q_is hB hn0 (by omega) hD1 hP1 hz
    subst hcA
    subst hq
    have hP2 : va_P x.1 vwCl (wo x 129 (clr G 128)) H1 := by
      rw [show (129 : Nat) = 128 + 1 from rfl, wo_clr, ev_int h1 (by omega)]; exact hP1
    refine (?_ : W _ _ _ _ _ _ _ _ _ _ _ _ _ _ _ _) T1 hT1 X1
    obtain ⟨C, T, N, ty0, ty, hc, hkN, hlk, hin, hty, hnm, hci, hN, hfin, hdecl, hpd, hnf⟩ := ff
    have hNt := hN t (by omega) hk
    have he := wo_at (x := x) (G := clr G 128) (show t < 129 by omega)
    rw [ev_obj hk hci, hNt] at he
    have hv : fvv x t (up (clr G 128) t k 1 t) k = .ref (x.2.2 128) := by
      unfold fvv; rw [hk, hb, if_pos rfl, up_self, if_pos (by simp), hrk]
    refine va_putF (D := x.1) (cl := vwCl) (C := C) (T := T) (N := N) (v := .ref (x.2.2 128)) F.1 F.2.1 F.2.2.2.2.2.1 hin ty0 hty hnm F.2.2.2.2.1 F.2.2.2.2.2.2.1 hP2 (wo_D (by omega) F.2.2.2.2.2.2.2.2.1 (AA_in (by omega))) hV1 t he hc k hkN (F.2.2.2.2.2.1 _ hlk) (fun _ h9 => h9) hfin hI hdecl hpd (hnf _).1 (hnf _).2 (by simp; exact hkN) d2 (fun H2 locs2 hP3 hD3 hV3 => ?_)
    have e1 : ∀ j, j ≠ k → up (clr G 128) t k 1 t j = clr G 128 t j := by intro j hj; rw [up_self]; simp [hj]
    rw [← hv, fvv_set e1, ← hNt, ← ev_obj hk hci, wo_set (by omega) (fun j hj => up_ne hj)] at hP3
    have hokc : ∀ c k', if plJ c k' = true then okJ (clr G 128 c k') else okI (clr G 128 c k') := by
      intro c k'
      by_cases e : c = 128
      · subst e; rw [clr_self]; split
        · show okJ 0; exact ⟨by decide, by decide⟩
        · exact zok
      · rw [clr_ne e]; exact hG.1 c k'
    have y' := y _ r G' ho hS.2.2 hL ⟨fun c' k' => by
      by_cases e : c' = t
      · subst e; rw [up_self]
        by_cases e2 : k' = k
        · subst e2; rw [(pl_obj hk hci).1, hbj]; simp; exact ⟨by decide, by decide⟩
        · simp only [e2, if_false]; exact hokc c' k'
      · rw [up_ne e]; exact hokc c' k', fun _ => haf⟩ H2 locs2 ls hP3 hV3 hl
    rw [show 129 - cx.n0 + cx.kc = 128 - cx.n0 + cx.kc + 1 by omega, show sz 129 - sz cx.n0 + cx.ks = sz 128 - sz cx.n0 + cx.ks + ln 128 by omega] at y'
    exact y'
  · rw [if_neg hq9] at ho; cases ho

