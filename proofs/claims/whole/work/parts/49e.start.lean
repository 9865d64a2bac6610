/-! THE LAW'S START: the world at its entry -/
def szA (z : Nat) (adK adV : Nat → Nat) (b n : Nat) : Nat := if n < 200 then z + n else if n < 300 then adK (n - 200) else if n < 500 then adV (n - 300) else b
theorem arrT {s : State} {args : Array Value} {ty : FieldType} (h : (Cond.arrayClass ty).before args s = true) : ∃ c : ClassId, ArrOfT s c ty ∧ s.vm.findClass ("[" ++ ty.toString) = some c := by
  obtain ⟨c, k, comp, h1, h2, h3⟩ := Cond.arrayClass_spec (args := args) (first := s) (o := none) (s := s) (idx := []) h
  exact ⟨c, fun n z => ⟨(fun k h => by cases h), k, h2, comp, h3⟩, h1⟩
theorem arrQ {s : State} {C : String} (h : va_AO C s) : ∃ c : ClassId, ArrOfT s c (.object C) ∧ va_RA s c (.object C) := by
  obtain ⟨comp, c, k, h1, h2, h3, h4, h5⟩ := Cond.arrayOver_spec (args := #[]) (first := s) (o := none) (s := s) (idx := []) h
  exact ⟨c, fun n z => ⟨(fun k h => by cases h), k, h3, comp, h4⟩, k, comp, h3, h4, h1, h5⟩
def csA (a b c d e f : ClassId) (n : Nat) : ClassId := if n = 20 then a else if n = 21 then b else if n = 22 then c else if n = 23 then d else if n = 24 then e else f
set_option maxRecDepth 20000 in
theorem start_D {s : State} {args : Array Value} (hg : ∀ w ∈ gw, w.before args s = true) : ∀ c : Nat, ∃ q : ClassId × (Nat → Nat), ∀ r : vw_C, vwCl[c]? = some r → u_Kn s r.1 r.2.1 r.2.2 q.1 q.2
  | 0 => by
    obtain ⟨cC, iS, h⟩ := u_known (ws := gw) hg iX0 (hg _ wd_2_53)
    exact ⟨(cC, iS), fun r hr => by cases hr; exact h⟩
  | 1 => by
    obtain ⟨cC, iS, h⟩ := u_known (ws := gw) hg iX1 (hg _ wd_2_25)
    exact ⟨(cC, iS), fun r hr => by cases hr; exact h⟩
  | 2 => by
    obtain ⟨cC, iS, h⟩ := u_known (ws := gw) hg iX2 (hg _ wd_2_72)
    exact ⟨(cC, iS), fun r hr => by cases hr; exact h⟩
  | 3 => by
    obtain ⟨cC, iS, h⟩ := u_known (ws := gw) hg iX3 (hg _ wd_2_142)
    exact ⟨(cC, iS), fun r hr => by cases hr; exact h⟩
  | 4 => by
    obtain ⟨cC, iS, h⟩ := u_known (ws := gw) hg iX4 (hg _ wd_1_199)
    exact ⟨(cC, iS), fun r hr => by cases hr; exact h⟩
  | 5 => by
    obtain ⟨cC, iS, h⟩ := u_known (ws := gw) hg iX5 (hg _ wd_2_118)
    exact ⟨(cC, iS), fun r hr => by cases hr; exact h⟩
  | 6 => by
    obtain ⟨cC, iS, h⟩ := u_known (ws := gw) hg iX6 (hg _ wd_2_8)
    exact ⟨(cC, iS), fun r hr => by cases hr; exact h⟩
  | 7 => by
    obtain ⟨cC, iS, h⟩ := u_known (ws := gw) hg iX7 (hg _ wd_1_35)
    exact ⟨(cC, iS), fun r hr => by cases hr; exact h⟩
  | 8 => by
    obtain ⟨cC, iS, h⟩ := u_known (ws := gw) hg iX8 (hg _ wd_1_132)
    exact ⟨(cC, iS), fun r hr => by cases hr; exact h⟩
  | 9 => by
    obtain ⟨cC, iS, h⟩ := u_known (ws := gw) hg iX9 (hg _ wd_2_88)
    exact ⟨(cC, iS), fun r hr => by cases hr; exact h⟩
  | 10 => by
    obtain ⟨cC, iS, h⟩ := u_known (ws := gw) hg iX10 (hg _ wd_1_224)
    exact ⟨(cC, iS), fun r hr => by cases hr; exact h⟩
  | 11 => by
    obtain ⟨cC, iS, h⟩ := u_known (ws := gw) hg iX11 (hg _ wd_1_27)
    exact ⟨(cC, iS), fun r hr => by cases hr; exact h⟩
  | 12 => by
    obtain ⟨cC, iS, h⟩ := u_known (ws := gw) hg iX12 (hg _ wd_6_194)
    exact ⟨(cC, iS), fun r hr => by cases hr; exact h⟩
  | c + 13 => ⟨(0, fun _ => 0), fun r hr => by cases hr⟩
def tmS (i : Nat) : Term := .string "NameRing$Tape" (sIdx i)
set_option maxRecDepth 20000 in
theorem tm_el : ∀ i, i < 2 → ∀ j, j < sLen.getD i 0 → Cond.eq (.elem (.field (tmS i) "java/lang/String" "value" "[B") (.int (Int32.ofNat j))) (.int ((sByt.getD i []).getD j 0)) ∈ flatC (Jvm.Cond.and given_1 narrow_1) := by decide +kernel
set_option maxRecDepth 20000 in
theorem tm_rest : ∀ i, i < 2 → Cond.exactly (tmS i) "java/lang/String" ∈ flatC (Jvm.Cond.and given_1 narrow_1) ∧ Cond.eq (.field (tmS i) "java/lang/String" "coder" "B") (.int 0) ∈ flatC (Jvm.Cond.and given_1 narrow_1) ∧ Cond.arrayOf (.field (tmS i) "java/lang/String" "value" "[B") .byte ∈ flatC (Jvm.Cond.and given_1 narrow_1) ∧ Cond.eq (.length (.field (tmS i) "java/lang/String" "value" "[B")) (.int (Int32.ofNat (sLen.getD i 0))) ∈ flatC (Jvm.Cond.and given_1 narrow_1) := by decide +kernel
set_option maxRecDepth 20000 in
theorem tm_ne : ∀ i, i < 2 → ∀ j, j < 2 → i ≠ j → Cond.not (Cond.eq (tmS i) (tmS j)) ∈ flatC (Jvm.Cond.and given_1 narrow_1) ∨ Cond.not (Cond.eq (tmS j) (tmS i)) ∈ flatC (Jvm.Cond.and given_1 narrow_1) := by decide +kernel
set_option maxRecDepth 20000 in
theorem tm_stat : Cond.eq (.static "java/lang/String" "COMPACT_STRINGS" "Z") (.int 1) ∈ flatC (Jvm.Cond.and given_1 narrow_1) ∧ Cond.isRef (.static "jdk/internal/util/Preconditions" "SIOOBE_FORMATTER" "Ljava/util/function/BiFunction;") ∈ flatC (Jvm.Cond.and given_1 narrow_1) ∧ Cond.isRef (.static Bundle.tN "UNASSIGNED_STACK" Bundle.steD) ∈ flatC (Jvm.Cond.and given_1 narrow_1) ∧ Cond.isRef (.static Bundle.tN "SUPPRESSED_SENTINEL" Bundle.listD) ∈ flatC (Jvm.Cond.and given_1 narrow_1) := by decide +kernel
set_option maxRecDepth 20000 in
theorem tb_str : ∀ i, i < 2 → Cond.stringRef RX7 (sIdx i) (sTxt i) ∈ lw_tbl := by decide +kernel
set_option maxRecDepth 20000 in
theorem tb_oth : Cond.arrayOver (.object RX6) ∈ lw_tbl ∧ Cond.arrayOver (.object RX5) ∈ lw_tbl ∧ Cond.laysStatic "java/lang/String" "COMPACT_STRINGS" "Z" ∈ lw_tbl ∧ Cond.laysStatic "jdk/internal/util/Preconditions" "SIOOBE_FORMATTER" "Ljava/util/function/BiFunction;" ∈ lw_tbl ∧ Cond.laysStatic Bundle.tN "UNASSIGNED_STACK" Bundle.steD ∈ lw_tbl ∧ Cond.laysStatic Bundle.tN "SUPPRESSED_SENTINEL" Bundle.listD ∈ lw_tbl ∧ Cond.initialized "java/lang/String" ∈ lw_tbl ∧ Cond.initialized "jdk/internal/util/Preconditions" ∈ lw_tbl ∧ Cond.initialized Bundle.tN ∈ lw_tbl ∧ (∀ w ∈ exW, w ∈ lw_tbl) := by decide +kernel
theorem start_x {s : State} {b : Nat} {args : Array Value} (hts : ∀ w ∈ lw_tbl, w.before args s = true) (hgv : (Jvm.Cond.and given_1 narrow_1).before args s = true) : ∃ x : WX, Inj x.2.2 ∧ x.2.2 500 = b ∧ (∀ c, c ≤ 129 → x.2.2 c = s.heap.size + c) ∧ va_K x.1 vwCl (tysO x.2.1) s ∧ EX x s := by
  have hg : ∀ w ∈ gw, w.before args s = true := fun w hw => hts w (gw_in hw)
  have hs := flat_of_before _ hgv
  obtain ⟨D, hD⟩ := Classical.axiomOfChoice (start_D hg)
  obtain ⟨a1, a2, a3, a4, a5, a6, a7, a8, a9, a10⟩ := tb_oth
  obtain ⟨c0, h0, r0⟩ := arrT (hg _ wd_1_197)
  obtain ⟨c1, h1, r1⟩ := arrT (hg _ wd_1_129)
  obtain ⟨c2, h2, r2⟩ := arrT (hg _ wd_1_128)
  obtain ⟨c3, h3, r3⟩ := arrT (hg _ wd_2_140)
  have hao6 : va_AO RX6 s := va_AO.of (hts _ a1)
  have hao5 : va_AO RX5 s := va_AO.of (hts _ a2)
  obtain ⟨c4, h4, r4⟩ := arrQ hao6
  obtain ⟨c5, h5, r5⟩ := arrQ hao5
  let A : Nat → Prop := fun q => s.heap.size ≤ q
  have hA : ∀ a : Nat, a < s.heap.size → ¬ A a := fun a h q => absurd h (Nat.not_lt.mpr q)
  obtain ⟨adK, adV, hS, hE⟩ := vk_Sof (N := 2) (tm := tmS) (len := sLen) (byt := sByt) (A := A) (s := s) (args := args) (by decide) (fun i hi => hs _ (tm_rest i hi).1) (fun i hi => hs _ (tm_rest i hi).2.1) (fun i hi => hs _ (tm_rest i hi).2.2.1) (fun i hi => hs _ (tm_rest i hi).2.2.2) (fun i hi j hj => hs _ (tm_el i hi j hj)) (fun i j hi hj hn => (tm_ne i hi j hj hn).elim (fun h => Or.inl (hs _ h)) (fun h => Or.inr (hs _ h))) hA
  have hAA : ∀ q, AA (szA s.heap.size adK adV b) s.heap.size q → A q := by
    rintro q (⟨c, hc, rfl⟩ | h)
    · show s.heap.size ≤ szA s.heap.size adK adV b c
      unfold szA; rw [if_pos (by omega)]; omega
    · exact h
  refine ⟨((fun c => (D c).1, fun c => (D c).2), csA c0 c1 c2 c3 c4 c5, szA s.heap.size adK adV b), ?_, rfl, ?_, ⟨fun c q hq => hD c q hq, ?_⟩, ?_⟩
  · intro i j hi hj h
    have e1 : szA s.heap.size adK adV b i = s.heap.size + i := by unfold szA; rw [if_pos (by omega)]
    have e2 : szA s.heap.size adK adV b j = s.heap.size + j := by unfold szA; rw [if_pos (by omega)]
    have h : szA s.heap.size adK adV b i = szA s.heap.size adK adV b j := h
    omega
  · intro c hc
    show szA s.heap.size adK adV b c = s.heap.size + c
    unfold szA; rw [if_pos (by omega)]
  · intro k q hk
    match k, hk with
    | 0, hk => cases hk; exact ⟨h0, r0⟩
    | 1, hk => cases hk; exact ⟨h1, r1⟩
    | 2, hk => cases hk; exact ⟨h2, r2⟩
    | 3, hk => cases hk; exact ⟨h3, r3⟩
    | 4, hk => cases hk; exact ⟨h4, r4⟩
    | 5, hk => cases hk; exact ⟨h5, r5⟩
    | k + 6, hk => cases hk
  · refine ⟨?_, ?_, (va_Zof (hts _ a3) (hts _ a7) (va_eqt (hs _ tm_stat.1)) hA).narrow hAA, (va_Zqof (hts _ a4) (hts _ a8) (hs _ tm_stat.2.1) hA).narrow hAA, (vx_Zqof (hts _ a5) (hts _ a9) (hs _ tm_stat.2.2.1) hA).narrow hAA, (vx_Zqof (hts _ a6) (hts _ a9) (hs _ tm_stat.2.2.2) hA).narrow hAA, hao6, hao5, fun w hw => ?_⟩
    · refine vk_S.narrow (A := A) ?_ hAA
      refine ⟨fun i hi => ?_, fun i j hi hj e => ?_⟩
      · match i, hi with
        | 0, hi => exact hS.1 0 hi
        | 1, hi => exact hS.1 1 hi
      · match i, j, hi, hj with
        | 0, 0, _, _ => rfl
        | 1, 1, _, _ => rfl
        | 0, 1, hi, hj => exact hS.2 0 1 hi hj e
        | 1, 0, hi, hj => exact hS.2 1 0 hi hj e
    · intro i hi
      have h2 := hE i hi
      have h1 := hts _ (tb_str i hi)
      match i, hi with
      | 0, hi => exact vk_R.of h1 h2
      | 1, hi => exact vk_R.of h1 h2
    · refine va_Nw.of ?_ (hts w (a10 w hw))
      simp only [exW, List.mem_cons, List.not_mem_nil, or_false] at hw
      rcases hw with rfl | rfl | rfl | rfl <;> rfl
/-- what is left, in plain numbers: the law's plain program answers 1 on every script -/
def PURE : Prop := ∀ (sn : Nat) (sc : Nat → Int), sn ≤ 3584 → (∀ j, okI (sc j)) → ∃ G', fL_law sn sc (fun _ _ => 0) = some (1, G')
theorem whole_of (pure : PURE) {p : Program} {e : Env} {s : State} {m : MethodId} {below : List Frame} {meth : Method} {c : Code} (l : Launch) (hst : l.stackTraces = false) {b L : Nat} {xs : Nat → Int32} (hL : L ≤ 3584) (C0 : lw_At p s m meth c b L xs) : W p l e room_1 s m #[Value.ref b] below meth c s.heap [] 0 0 (lw_Z below #[Value.ref b] s) (entryFrame m ([Value.ref b] : List Value).toArray 7) := by
  obtain ⟨hx, hb, hr, hml, hown, hts, hX, hbl, hlk, hgv⟩ := C0
  obtain ⟨x, hi, hx500, had, hK, hE⟩ := start_x (b := b) hts hgv
  have e0 : x.2.2 0 = s.heap.size := had 0 (by omega)
  have hxs : ∀ j, okI ((xs j).toInt) := fun j => toInt_ok _
  have C : LC (p, l, e, 200, s, m, #[Value.ref b], below, meth, c, 0, 130, fun r _ t => r = 1 → lw_Z below #[Value.ref b] s t, room_1, 0, 0) x b L (fun j => (xs j).toInt) := by
    refine ⟨⟨hx, hb, hr, hml, hown, fun w hw => hts w (gw_in hw), hK, hlk, hi, by show 0 ≤ 130; omega, ⟨by show 200 ≤ 2048; omega, by show 64 * 200 ≤ 84000; omega, by show 130 - 0 + 4000 ≤ 601024; omega, ?_⟩, hE⟩, rfl, rfl, rfl, hst, ⟨hx500, ?_, hbl, hxs, hL⟩, ⟨e0.symm, fun c hc => by rw [had c hc, e0]⟩, rfl, rfl, rfl⟩
    · have h130 : sz 130 ≤ 100000 := by decide +kernel
      show sz 130 - sz 0 + 24000 ≤ 7293034
      exact Nat.le_trans (Nat.add_le_add_right (Nat.le_trans (Nat.sub_le _ _) h130) _) (by decide)
    · have e : (fun j => Int32.ofInt ((xs j).toInt)) = xs := by funext j; exact o32_toInt _
      rw [e]; exact hX
  obtain ⟨G', hp⟩ := pure L _ hL hxs
  have hl := lv_entry ([Value.ref b]) (n := 7) (by show 1 ≤ 7; omega)
  have hl : lv_has ((lg_sl [Value.ref b] ++ List.replicate (7 - (lg_sl [Value.ref b]).length) Slot.unset).toArray) 7 (cL x.2.2 [(0, vR 500)]) := by
    have e : cL x.2.2 [(0, vR 500)] = [(0, Value.ref b)] := by show [(0, Value.ref (x.2.2 500))] = _; rw [hx500]
    rw [e]; exact hl
  have k := uL_law C (fun _ _ => 0) 1 G' hp trivial ⟨trivial, trivial⟩ ⟨fun c k => by split; exact (show okJ 0 from ⟨by decide, by decide⟩); exact zok, fun h => absurd h (by decide)⟩ s.heap [] _ (fun k q h => by cases h) va_S.rf hl
  rw [lg_entry_eq]
  intro T hT X
  obtain ⟨t, a1, b1⟩ := k T hT (by
    have e2 : sz 0 - sz 0 + 6 * 0 = 0 := by omega
    show Stand p l e room_1 s m #[Value.ref b] below meth c T [] (0 - 0 + 0) (sz 0 - sz 0 + 6 * 0)
    rw [e2]; exact X)
  exact ⟨t, a1, b1 rfl⟩
