/-! THE HEAP: which cells there are (all are made by the two constructors and the law), what they hold -/
abbrev Hp : Type := Nat → Nat → Int
abbrev AV : Type := Int ⊕ (Int ⊕ Nat)
abbrev vI (a : Int) : AV := .inl a
abbrev vL (a : Int) : AV := .inr (.inl a)
abbrev vR (c : Nat) : AV := .inr (.inr c)
def okV : AV → Prop
  | .inl a => okI a
  | .inr (.inl a) => okJ a
  | .inr (.inr _) => True
def okS : List AV → Prop
  | [] => True
  | v :: r => okV v ∧ okS r
def okL : List (Nat × AV) → Prop
  | [] => True
  | q :: r => okV q.2 ∧ okL r
def cv (ad : Nat → Nat) : AV → Value
  | .inl a => .int (Int32.ofInt a)
  | .inr (.inl a) => .long (Int64.ofInt a)
  | .inr (.inr c) => .ref (ad c)
def cS (ad : Nat → Nat) : List AV → List Value
  | [] => []
  | v :: r => cv ad v :: cS ad r
def cL (ad : Nat → Nat) : List (Nat × AV) → List (Nat × Value)
  | [] => []
  | q :: r => (q.1, cv ad q.2) :: cL ad r
/-- of each cell: its kind (a class by its number, or 20 int[], 21 long[], 22 char[], 23 boolean[], 24 State[], 25 Seen[]), how many places, whom it refers to -/
def SH : List (Nat × Nat × List Nat) := [(11, 12, [1, 4, 11, 19, 23, 27, 29, 31, 33, 34, 39, 44]), (7, 9, [2, 3]), (22, 1000, []), (21, 25, []), (8, 10, [0, 0, 0, 0, 5, 6, 7, 8, 9, 10]), (20, 8, []), (20, 8, []), (21, 8, []), (20, 10, []), (20, 10, []), (21, 10, []), (4, 5, [1, 12]), (8, 10, [0, 0, 0, 0, 13, 14, 15, 16, 17, 18]), (20, 8, []), (20, 8, []), (21, 8, []), (20, 10, []), (20, 10, []), (21, 10, []), (10, 4, [20, 21, 22]), (20, 40, []), (20, 40, []), (20, 40, []), (10, 4, [24, 25, 26]), (20, 40, []), (20, 40, []), (20, 40, []), (6, 2, [28]), (20, 114, []), (1, 5, [4, 27, 30]), (20, 20, []), (0, 4, [4, 27, 29, 32]), (20, 4, []), (2, 3, [4, 27, 29]), (9, 7, [4, 27, 31, 33, 35, 37]), (6, 2, [36]), (20, 114, []), (6, 2, [38]), (20, 114, []), (5, 5, [40, 41, 42, 43]), (20, 8, []), (20, 8, []), (23, 8, []), (20, 22, []), (3, 6, [45, 80, 81, 82]), (24, 17, [46, 48, 50, 52, 54, 56, 58, 60, 62, 64, 66, 68, 70, 72, 74, 76, 78]), (6, 2, [47]), (20, 114, []), (6, 2, [49]), (20, 114, []), (6, 2, [51]), (20, 114, []), (6, 2, [53]), (20, 114, []), (6, 2, [55]), (20, 114, []), (6, 2, [57]), (20, 114, []), (6, 2, [59]), (20, 114, []), (6, 2, [61]), (20, 114, []), (6, 2, [63]), (20, 114, []), (6, 2, [65]), (20, 114, []), (6, 2, [67]), (20, 114, []), (6, 2, [69]), (20, 114, []), (6, 2, [71]), (20, 114, []), (6, 2, [73]), (20, 114, []), (6, 2, [75]), (20, 114, []), (6, 2, [77]), (20, 114, []), (6, 2, [79]), (20, 114, []), (24, 4, [83, 90, 97, 104]), (25, 4, [85, 92, 99, 106]), (23, 4, []), (6, 2, [84]), (20, 114, []), (5, 5, [86, 87, 88, 89]), (20, 8, []), (20, 8, []), (23, 8, []), (20, 22, []), (6, 2, [91]), (20, 114, []), (5, 5, [93, 94, 95, 96]), (20, 8, []), (20, 8, []), (23, 8, []), (20, 22, []), (6, 2, [98]), (20, 114, []), (5, 5, [100, 101, 102, 103]), (20, 8, []), (20, 8, []), (23, 8, []), (20, 22, []), (6, 2, [105]), (20, 114, []), (5, 5, [107, 108, 109, 110]), (20, 8, []), (20, 8, []), (23, 8, []), (20, 22, []), (12, 26, [0, 112, 0, 0, 113, 114, 115, 0, 0, 116, 117, 118, 0, 119, 120, 121, 122, 123, 0, 124, 125, 0, 126, 127, 128]), (20, 1000, []), (20, 1002, []), (20, 1002, []), (21, 1002, []), (21, 26, []), (20, 64, []), (20, 2200, []), (21, 36, []), (20, 241, []), (20, 4, []), (20, 64, []), (20, 3565, []), (23, 4, []), (20, 10, []), (20, 20, []), (20, 4, []), (20, 22, []), (26, 1, [])]
def RFS : List (List Nat) := [[1, 1, 1, 1], [1, 1, 1, 0, 0], [1, 1, 1], [1, 1, 1, 1, 0, 0], [1, 1, 0, 0, 0], [1, 1, 1, 1, 0], [1, 0], [1, 1, 0, 0, 0, 0, 0, 0, 0], [0, 0, 0, 0, 1, 1, 1, 1, 1, 1], [1, 1, 1, 1, 1, 1, 0], [1, 1, 1, 0], [1, 1, 1, 1, 1, 1, 1, 1, 1, 1, 1, 1], [0, 1, 0, 0, 1, 1, 1, 0, 0, 1, 1, 1, 0, 1, 1, 1, 1, 1, 0, 1, 1, 0, 1, 1, 1, 0]]
def kd (c : Nat) : Nat := (SH.getD c (99, 0, [])).1
def ln (c : Nat) : Nat := (SH.getD c (99, 0, [])).2.1
def rf (c k : Nat) : Nat := ((SH.getD c (99, 0, [])).2.2).getD k 0
def isR (ci k : Nat) : Bool := ((RFS.getD ci []).getD k 0) == 1
def isJ (ci k : Nat) : Bool := (ci == 7 && k == 7) || (ci == 9 && k == 6) || (ci == 12 && k == 25)
def sz (n : Nat) : Nat := ((SH.take n).map (fun q => q.2.1)).sum
theorem kd_lt {c : Nat} (h : kd c < 26) : c < 129 := by
  rcases Nat.lt_trichotomy c 129 with q | q | q
  · exact q
  · subst q; exact absurd h (by decide)
  · exfalso
    have e : kd c = 99 := by unfold kd; rw [List.getD_eq_getElem?_getD, List.getElem?_eq_none (by exact q)]; rfl
    omega
/-- is the place k of the cell c a long's, a reference's -/
def plJ (c k : Nat) : Bool := kd c == 21 || kd c == 26 || isJ (kd c) k
def plR (c k : Nat) : Bool := kd c == 24 || kd c == 25 || isR (kd c) k
abbrev WX : Type := va_G × (Nat → ClassId) × (Nat → Nat)
/-- what lies at cell c -/
def fvv (x : WX) (c : Nat) (g : Nat → Int) (k : Nat) : Value :=
  if isR (kd c) k = true then (if g k = 1 then .ref (x.2.2 (rf c k)) else .null) else if isJ (kd c) k = true then .long (Int64.ofInt (g k)) else .int (Int32.ofInt (g k))
def ev (x : WX) (c : Nat) (g : Nat → Int) : va_E :=
  if kd c = 20 ∨ kd c = 22 ∨ kd c = 23 then .inl (x.2.1 (kd c), ln c, .inl (fun k => Int32.ofInt (g k)))
  else if kd c = 21 ∨ kd c = 26 then .inl (x.2.1 21, ln c, .inr (.inl (fun k => Int64.ofInt (g k))))
  else if kd c = 24 ∨ kd c = 25 then .inl (x.2.1 (kd c), ln c, .inr (.inr (.inr (.inr (fun k => if g k = 1 then some (x.2.2 (rf c k)) else none)))))
  else .inr (kd c, (List.range (ln c)).map (fvv x c g))
def wo (x : WX) (n : Nat) (G : Hp) : va_W := (List.range n).map (fun c => (x.2.2 c, ev x c (G c)))
theorem wo_at {x : WX} {n : Nat} {G : Hp} {c : Nat} (h : c < n) : (wo x n G)[c]? = some (x.2.2 c, ev x c (G c)) := by
  unfold wo; rw [List.getElem?_map, List.getElem?_range h]; rfl
theorem wo_len {x : WX} {n : Nat} {G : Hp} : (wo x n G).length = n := by unfold wo; simp
theorem wo_set {x : WX} {n : Nat} {G G' : Hp} {c : Nat} (h : c < n) (hG : ∀ j, j ≠ c → G' j = G j) : (wo x n G).set c (x.2.2 c, ev x c (G' c)) = wo x n G' := by
  apply List.ext_getElem?
  intro j
  rcases Nat.lt_or_ge j n with q | q
  · rw [wo_at q]
    by_cases hj : j = c
    · subst hj; rw [List.getElem?_set_self (by rw [wo_len]; exact h)]
    · rw [List.getElem?_set_ne (Ne.symm hj), wo_at q, hG j hj]
  · rw [List.getElem?_eq_none (by rw [List.length_set, wo_len]; exact q), List.getElem?_eq_none (by rw [wo_len]; exact q)]
theorem wo_succ {x : WX} {n : Nat} {G : Hp} : wo x (n + 1) G = wo x n G ++ [(x.2.2 n, ev x n (G n))] := by
  unfold wo; rw [List.range_succ, List.map_append]; rfl
def Inj (ad : Nat → Nat) : Prop := ∀ i j, i < 130 → j < 130 → ad i = ad j → i = j
def AA (ad : Nat → Nat) (sz : Nat) : Nat → Prop := fun q => (∃ c, c < 129 ∧ q = ad c) ∨ sz ≤ q
theorem wo_D {x : WX} {n : Nat} {G : Hp} {A : Nat → Prop} (hn : n ≤ 130) (hi : Inj x.2.2) (hA : ∀ c, c < n → A (x.2.2 c)) : va_D A (wo x n G) := by
  have key : ∀ (k : Nat) (q : Nat × va_E), (wo x n G)[k]? = some q → k < n ∧ q.1 = x.2.2 k := by
    intro k q hk
    rcases Nat.lt_or_ge k n with z | z
    · rw [wo_at z] at hk; cases hk; exact ⟨z, rfl⟩
    · rw [List.getElem?_eq_none (by rw [wo_len]; exact z)] at hk; cases hk
  refine ⟨fun i j p q hp hq e => ?_, fun k q hk => ?_⟩
  · obtain ⟨h1, h2⟩ := key i p hp
    obtain ⟨h3, h4⟩ := key j q hq
    exact hi i j (by omega) (by omega) (by rw [← h2, ← h4]; exact e)
  · obtain ⟨h1, h2⟩ := key k q hk
    rw [h2]; exact hA k (by omega)
def tysO (cs : Nat → ClassId) : List (ClassId × FieldType) := [(cs 20, .int), (cs 21, .long), (cs 22, .char), (cs 23, .boolean), (cs 24, .object RX6), (cs 25, .object RX5)]
/-- the heap's numbers are ints and longs; when all is made, the references stand -/
def okG (n : Nat) (G : Hp) : Prop := (∀ c k, if plJ c k = true then okJ (G c k) else okI (G c k)) ∧ (129 ≤ n → ∀ c k, c < 129 → plR c k = true → k < ln c → G c k = 1)
def up (G : Hp) (c k : Nat) (v : Int) : Hp := fun c' => if c' = c then (fun k' => if k' = k then v else G c k') else G c'
theorem up_self {G : Hp} {c k : Nat} {v : Int} : up G c k v c = fun k' => if k' = k then v else G c k' := by unfold up; simp
theorem up_ne {G : Hp} {c k j : Nat} {v : Int} (h : j ≠ c) : up G c k v j = G j := by unfold up; simp [h]
theorem okG_up {n : Nat} {G : Hp} {c k : Nat} {v : Int} (h : okG n G) (hv : if plJ c k = true then okJ v else okI v) (hr : plR c k = false) : okG n (up G c k v) := by
  refine ⟨fun c' k' => ?_, fun hn c' k' h1 h2 h3 => ?_⟩
  · by_cases e : c' = c
    · subst e; rw [up_self]; by_cases e2 : k' = k
      · subst e2; simpa using hv
      · simp only [e2, if_false]; exact h.1 c' k'
    · rw [up_ne e]; exact h.1 c' k'
  · by_cases e : c' = c
    · subst e; rw [up_self]; by_cases e2 : k' = k
      · subst e2; rw [h2] at hr; cases hr
      · simp only [e2, if_false]; exact h.2 hn c' k' h1 h2 h3
    · rw [up_ne e]; exact h.2 hn c' k' h1 h2 h3
/-! the two texts of the class that is checked, and what else lies in the heap from the start -/
def sTxt (i : Nat) : String := if i = 0 then "circle list node key at lies begin join leave fail tidy flush fix put hand plain short shy blind not and or told which nodes" else "()<=+-*;"
def sIdx (i : Nat) : Nat := if i = 0 then 19 else 64
def sByt : List (List Int32) := [[99, 105, 114, 99, 108, 101, 32, 108, 105, 115, 116, 32, 110, 111, 100, 101, 32, 107, 101, 121, 32, 97, 116, 32, 108, 105, 101, 115, 32, 98, 101, 103, 105, 110, 32, 106, 111, 105, 110, 32, 108, 101, 97, 118, 101, 32, 102, 97, 105, 108, 32, 116, 105, 100, 121, 32, 102, 108, 117, 115, 104, 32, 102, 105, 120, 32, 112, 117, 116, 32, 104, 97, 110, 100, 32, 112, 108, 97, 105, 110, 32, 115, 104, 111, 114, 116, 32, 115, 104, 121, 32, 98, 108, 105, 110, 100, 32, 110, 111, 116, 32, 97, 110, 100, 32, 111, 114, 32, 116, 111, 108, 100, 32, 119, 104, 105, 99, 104, 32, 110, 111, 100, 101, 115], [40, 41, 60, 61, 43, 45, 42, 59]]
def sLen : List Nat := [124, 8]
def EX (x : WX) (U : State) : Prop := vk_S 2 sLen sByt (fun i => x.2.2 (200 + i)) (fun i => x.2.2 (300 + i)) (AA x.2.2 U.heap.size) U U.heap ∧ (∀ i, i < 2 → vk_R RX7 (sIdx i) (sTxt i) (x.2.2 (200 + i)) U) ∧ va_Z "java/lang/String" "COMPACT_STRINGS" "Z" (.int 1) (AA x.2.2 U.heap.size) U U.heap ∧ va_Zq "jdk/internal/util/Preconditions" "SIOOBE_FORMATTER" "Ljava/util/function/BiFunction;" (AA x.2.2 U.heap.size) U U.heap ∧ vx_Zq Bundle.tN "UNASSIGNED_STACK" Bundle.steD (AA x.2.2 U.heap.size) U U.heap ∧ vx_Zq Bundle.tN "SUPPRESSED_SENTINEL" Bundle.listD (AA x.2.2 U.heap.size) U U.heap ∧ va_AO RX6 U ∧ va_AO RX5 U ∧ (∀ w ∈ exW, va_Nw w U)
theorem AA_mono {ad : Nat → Nat} {a b : Nat} (h : a ≤ b) : ∀ q, AA ad b q → AA ad a q := fun q hq => hq.elim Or.inl (fun h2 => Or.inr (Nat.le_trans h h2))
theorem EX.at' {x : WX} {s U : State} (h : EX x s) (h1 : s.heap.size ≤ U.heap.size) (hk : ∀ q : Nat, q < s.heap.size → ¬ AA x.2.2 s.heap.size q → U.heap[q]? = s.heap[q]?) (hW : s.vm.Alike U.vm) (hR : ∀ i, i < 2 → vk_R RX7 (sIdx i) (sTxt i) (x.2.2 (200 + i)) U) (hX : ∀ w ∈ exW, va_Nw w U) : EX x U :=
  ⟨vk_S.moved hW ((h.1.kept hk).narrow (AA_mono h1)), hR, va_Z.moved hW ((h.2.2.1.kept hk).narrow (AA_mono h1)), va_Zq.moved hW ((h.2.2.2.1.kept hk).narrow (AA_mono h1)), vx_Zq.moved hW ((h.2.2.2.2.1.kept hk).narrow (AA_mono h1)), vx_Zq.moved hW ((h.2.2.2.2.2.1.kept hk).narrow (AA_mono h1)), va_AO.moved hW h.2.2.2.2.2.2.1, va_AO.moved hW h.2.2.2.2.2.2.2.1, hX⟩
theorem EX.call {x : WX} {s U : State} {H : Heap} {locs : List Loc} (h : EX x s) (hV : va_S (AA x.2.2 s.heap.size) s.heap H locs) (hU : U.heap = H) (hW : s.WarmedH U.vm) : EX x U :=
  h.at' (by rw [hU]; exact hV.1) (fun q h1 h2 => by rw [hU]; exact hV.2.1 q h1 h2) hW.alike (fun i hi => (h.2.1 i hi).warm hW) (fun w hw => exW_warm hw hW (h.2.2.2.2.2.2.2.2 w hw))
theorem EX.same {x : WX} {s U : State} (h : EX x s) (hU : U.heap = s.heap) (hv : U.vm = s.vm) : EX x U :=
  h.at' (by rw [hU]; exact Nat.le_refl _) (fun q h1 h2 => by rw [hU]) (by rw [hv]; exact Vm.Alike.refl _) (fun i hi => (h.2.1 i hi).same hv) (fun w hw => exW_same hw hv.symm (h.2.2.2.2.2.2.2.2 w hw))
/-! THE JUDGEMENT: from this frame the method ends as o says -/
def rmd (d n n' : Nat) : Room := { frames := d, cells := n' - n, slots := sz n' - sz n, locals := 64 * d }
abbrev CX : Type := Program × Launch × Env × Nat × State × MethodId × Array Value × List Frame × Method × Code × Nat × Nat × (Int → Hp → State → Prop) × Room × Nat × Nat
abbrev CX.p (c : CX) : Program := c.1
abbrev CX.l (c : CX) : Launch := c.2.1
abbrev CX.e (c : CX) : Env := c.2.2.1
abbrev CX.d (c : CX) : Nat := c.2.2.2.1
abbrev CX.s (c : CX) : State := c.2.2.2.2.1
abbrev CX.m (c : CX) : MethodId := c.2.2.2.2.2.1
abbrev CX.a (c : CX) : Array Value := c.2.2.2.2.2.2.1
abbrev CX.b (c : CX) : List Frame := c.2.2.2.2.2.2.2.1
abbrev CX.t (c : CX) : Method := c.2.2.2.2.2.2.2.2.1
abbrev CX.c (c : CX) : Code := c.2.2.2.2.2.2.2.2.2.1
abbrev CX.n0 (c : CX) : Nat := c.2.2.2.2.2.2.2.2.2.2.1
abbrev CX.nE (c : CX) : Nat := c.2.2.2.2.2.2.2.2.2.2.2.1
abbrev CX.q (c : CX) : Int → Hp → State → Prop := c.2.2.2.2.2.2.2.2.2.2.2.2.1
abbrev CX.r (c : CX) : Room := c.2.2.2.2.2.2.2.2.2.2.2.2.2.1
abbrev CX.kc (c : CX) : Nat := c.2.2.2.2.2.2.2.2.2.2.2.2.2.2.1
abbrev CX.ks (c : CX) : Nat := c.2.2.2.2.2.2.2.2.2.2.2.2.2.2.2
def QQ (x : WX) (ret : Option FieldType) (n : Nat) (r : Int) (G : Hp) (A : Nat → Prop) : Array Value → State → Outcome → State → Prop :=
  match ret with
  | none => va_Qv (S := Unit) (fun _ => okI r ∧ okG n G) (fun _ t => va_P x.1 vwCl (wo x n G) t.heap ∧ va_K x.1 vwCl (tysO x.2.1) t) A
  | some _ => va_Qi (S := Unit) (fun v _ => v = Int32.ofInt r ∧ okI r ∧ okG n G) (fun _ t => va_P x.1 vwCl (wo x n G) t.heap ∧ va_K x.1 vwCl (tysO x.2.1) t) A
def Y (cx : CX) (x : WX) (nL : Nat) (ret : Option FieldType) (n pc : Nat) (L : List (Nat × AV)) (S : List AV) (G : Hp) (o : Option (Int × Hp)) : Prop :=
  ∀ (r : Int) (G' : Hp), o = some (r, G') → okS S → okL L → okG n G → ∀ (H : Heap) (locs : List Loc) (ls : Array Slot), va_P x.1 vwCl (wo x n G) H → va_S (AA x.2.2 cx.s.heap.size) cx.s.heap H locs → lv_has ls nL (cL x.2.2 L) →
    W cx.p cx.l cx.e cx.r cx.s cx.m cx.a cx.b cx.t cx.c H locs (n - cx.n0 + cx.kc) (sz n - sz cx.n0 + cx.ks) (cx.q r G') (F0 cx.m pc ls (cS x.2.2 S))
def Fx (cx : CX) (x : WX) (own : String) (cc : ByteArray) (nL : Nat) (ret : Option FieldType) : Prop :=
  cx.p.tables.exec = Jvm.exec ∧ cx.c.code = cc ∧ cx.t.sig.returnType = ret ∧ cx.c.maxLocals = nL ∧ cx.s.vm.findClass own = some cx.m.cls ∧ (∀ w ∈ gw, w.before cx.a cx.s = true) ∧ va_K x.1 vwCl (tysO x.2.1) cx.s ∧ cx.t.locks = false ∧ Inj x.2.2 ∧ cx.n0 ≤ cx.nE ∧ (cx.d ≤ cx.r.frames ∧ 64 * cx.d ≤ cx.r.locals ∧ cx.nE - cx.n0 + cx.kc ≤ cx.r.cells ∧ sz cx.nE - sz cx.n0 + cx.ks ≤ cx.r.slots) ∧ EX x cx.s
def QS (cx : CX) (x : WX) (ret : Option FieldType) : Prop := cx.kc = 0 ∧ cx.ks = 0 ∧ cx.q = fun r G' => MQ cx.b (QQ x ret cx.nE r G' (AA x.2.2 cx.s.heap.size)) cx.a cx.s (cx.nE - cx.n0) (sz cx.nE - sz cx.n0) (AA x.2.2 cx.s.heap.size)
/-- the contract of a method -/
def Ct (l : Launch) (x : WX) (y : MethodName) (cc : ByteArray) (nL : Nat) (ret : Option FieldType) (d n n' : Nat) (av : List AV) (G : Hp) (o : Option (Int × Hp)) : Prop :=
  ∀ (r : Int) (G' : Hp), o = some (r, G') → okS av → okG n G → ∀ z : Nat, Met l y (Cond.code y cc nL ret :: gw) (rmd d n n') (va_Pc (cS x.2.2 av) (fun U => U.heap.size = z ∧ va_P x.1 vwCl (wo x n G) U.heap ∧ va_K x.1 vwCl (tysO x.2.1) U ∧ EX x U)) (QQ x ret n' r G' (AA x.2.2 z)) (n' - n) (sz n' - sz n) (AA x.2.2 z)
def isLg : AV → Bool
  | .inr (.inl _) => true
  | _ => false
def aL : Nat → List AV → List (Nat × AV)
  | _, [] => []
  | i, v :: r => (i, v) :: aL (if isLg v = true then i + 2 else i + 1) r
theorem cv_cat (ad : Nat → Nat) (v : AV) : (cv ad v).category = if isLg v = true then 2 else 1 := by
  rcases v with a | a | c <;> rfl
theorem aL_args (ad : Nat → Nat) : ∀ (av : List AV) (i : Nat), lv_args i (cS ad av) = cL ad (aL i av)
  | [], _ => rfl
  | v :: r, i => by
    have ih := aL_args ad r
    show (i, cv ad v) :: lv_args (if (cv ad v).category = 2 then i + 2 else i + 1) (cS ad r) = (i, cv ad v) :: cL ad (aL _ r)
    rw [ih, cv_cat]
    cases isLg v <;> rfl
theorem aL_ok : ∀ (av : List AV) (i : Nat), okS av → okL (aL i av)
  | [], _, _ => trivial
  | v :: r, i, h => ⟨h.1, aL_ok r _ h.2⟩
def wS : List AV → Nat
  | [] => 0
  | v :: r => (if isLg v = true then 2 else 1) + wS r
theorem wS_sl (ad : Nat → Nat) : ∀ av : List AV, (lg_sl (cS ad av)).length = wS av
  | [] => rfl
  | v :: r => by
    have ih := wS_sl ad r
    show (lg_sl (cv ad v :: cS ad r)).length = _
    rw [show lg_sl (cv ad v :: cS ad r) = (if (cv ad v).category = 2 then [.val (cv ad v), .second] else [.val (cv ad v)]) ++ lg_sl (cS ad r) from rfl, List.length_append, ih, cv_cat, show wS (v :: r) = (if isLg v = true then 2 else 1) + wS r from rfl]
    cases isLg v <;> rfl
theorem wS_cat (ad : Nat → Nat) : ∀ av : List AV, ((cS ad av).map fun v => v.category).sum = wS av
  | [] => rfl
  | v :: r => by
    have ih := wS_cat ad r
    show (((cv ad v) :: cS ad r).map fun v => v.category).sum = _
    rw [List.map_cons, List.sum_cons, ih, cv_cat]; rfl
theorem Met_ofF {l : Launch} {y : MethodName} {ws ws' : List Cond} {rm : Room} {Pc : Array Value → State → Prop} {Qc : Array Value → State → Outcome → State → Prop} {mc ms : Nat} {free : Addr → Prop} {cc : ByteArray} {maxL : Nat} {ret : Option FieldType}
    (hy : plainFor y = true) (hw : ws = Cond.code y cc maxL ret :: ws')
    (body : ∀ p e s m args below meth c s₁, BodyLoose p l y (headSpec ws rm) cc maxL ret e s m args below meth c s₁ → c.maxLocals = maxL → Pc args s →
      W p l e (headSpec ws rm).room s m args below meth c s.heap [] 0 0 (MQ below Qc args s mc ms free) (entryFrame m args maxL)) : Met l y ws rm Pc Qc mc ms free := by
  refine MetFree.of_bodySF (code := cc) (maxLocals := maxL) (ret := ret) hy ?_ ?_
  · intro args s m h hn
    obtain ⟨meth, c, h1, h2, h3, h4, h5, h6, -, -⟩ := Cond.code_spec hn (atoms_spec (ws := ws) h _ (by rw [hw]; exact List.mem_cons_self))
    exact ⟨meth, c, h1, h2, h3, h4, h5, h6⟩
  · intro p e s m args below meth c s₁ B hml hP _
    have hh0 : s₁.heap = s.heap := by rw [B.state]; rfl
    obtain ⟨t, a1, o, b1, b2, b3⟩ := body p e s m args below meth c s₁ B hml hP s₁ hh0 (Stand.of_body B)
    exact ⟨t, o, a1, b1, b2, ⟨b3.1, b3.2⟩⟩
theorem ct_of {l : Launch} {x : WX} {y : MethodName} {cc : ByteArray} {nL : Nat} {ret : Option FieldType} {d n n' : Nat} {av : List AV} {G : Hp} {o : Option (Int × Hp)} (hy : plainFor y = true) (hi : Inj x.2.2) (hn : n ≤ n') (hn' : n' ≤ 129) (hw : wS av ≤ nL)
    (h : ∀ cx : CX, Fx cx x y.cls cc nL ret → cx.d = d → cx.n0 = n → cx.nE = n' → cx.l = l → QS cx x ret → Y cx x nL ret n 0 (aL 0 av) [] G o) : Ct l x y cc nL ret d n n' av G o := by
  intro r G' ho hav hG z
  refine Met_ofF (cc := cc) (maxL := nL) (ret := ret) hy rfl ?_
  intro p e s m args below meth c s₁ B hml hv
  obtain ⟨rfl, hsz, hP, hK, hE⟩ := hv
  have hts := atoms_spec (ws := Cond.code y cc nL ret :: gw) B.pre
  subst hsz
  have k := h (p, l, e, d, s, m, (cS x.2.2 av).toArray, below, meth, c, n, n', fun r G' => MQ below (QQ x ret n' r G' (AA x.2.2 s.heap.size)) (cS x.2.2 av).toArray s (n' - n) (sz n' - sz n) (AA x.2.2 s.heap.size), rmd d n n', 0, 0) ⟨B.exec, B.bytes, B.returns, hml, findClass_of_methodNamed B.named, fun w hw => hts w (List.mem_cons_of_mem _ hw), hK, B.notSynchronized, hi, hn, ⟨Nat.le_refl _, Nat.le_refl _, Nat.le_refl _, Nat.le_refl _⟩, hE⟩ rfl rfl rfl rfl ⟨rfl, rfl, rfl⟩
  have hl := lv_entry (cS x.2.2 av) (n := nL) (by rw [wS_sl]; exact hw)
  rw [aL_args] at hl
  have k2 := k r G' ho trivial (aL_ok av 0 hav) hG s.heap [] _ hP va_S.rf hl
  rw [lg_entry_eq]
  have e1 : n - n + 0 = 0 := by omega
  have e2 : sz n - sz n + 0 = 0 := by omega
  simp only [CX.n0, CX.kc, CX.ks, e1, e2] at k2
  exact k2
