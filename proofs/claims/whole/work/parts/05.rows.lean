/-! ROWS: an instruction each -/
def gL : List (Nat × AV) → Nat → Option AV
  | [], _ => none
  | q :: r, k => bif Nat.beq q.1 k then some q.2 else gL r k
def dL : List (Nat × AV) → Nat → List (Nat × AV)
  | [], _ => []
  | q :: r, k => bif Nat.beq q.1 k then dL r k else q :: dL r k
def sL : List (Nat × AV) → Nat → AV → List (Nat × AV)
  | [], k, v => [(k, v)]
  | q :: r, k, v => bif Nat.beq q.1 k then (k, v) :: dL r k else q :: sL r k v
def okK : List (Nat × AV) → Nat → Bool → Bool
  | [], _, _ => true
  | q :: r, k, b => !(Nat.beq (q.1 + 1) k && isLg q.2) && (!(b && Nat.beq q.1 (k + 1)) && okK r k b)
theorem gL_mem : ∀ {L : List (Nat × AV)} {k : Nat} {v : AV}, gL L k = some v → (k, v) ∈ L
  | [], _, _, h => by cases h
  | q :: r, k, v, h => by
    unfold gL at h
    cases e : Nat.beq q.1 k with
    | true =>
      rw [e] at h
      have e2 := Nat.eq_of_beq_eq_true e
      have e3 : q.2 = v := Option.some.inj h
      rw [← e2, ← e3]
      exact List.mem_cons_self
    | false => rw [e] at h; exact List.mem_cons_of_mem _ (gL_mem h)
theorem cL_mem {ad : Nat → Nat} : ∀ {L : List (Nat × AV)} {k : Nat} {v : AV}, (k, v) ∈ L → (k, cv ad v) ∈ cL ad L
  | [], _, _, h => by cases h
  | q :: r, k, v, h => by
    rcases List.mem_cons.mp h with h | h
    · subst h; exact List.mem_cons_self
    · exact List.mem_cons_of_mem _ (cL_mem h)
theorem cL_inv {ad : Nat → Nat} : ∀ {L : List (Nat × AV)} {q : Nat × Value}, q ∈ cL ad L → ∃ z ∈ L, q = (z.1, cv ad z.2)
  | [], _, h => by cases h
  | z :: r, q, h => by
    rcases List.mem_cons.mp h with h | h
    · exact ⟨z, List.mem_cons_self, h⟩
    · obtain ⟨z', h1, h2⟩ := cL_inv h
      exact ⟨z', List.mem_cons_of_mem _ h1, h2⟩
theorem okL_mem : ∀ {L : List (Nat × AV)} {q : Nat × AV}, okL L → q ∈ L → okV q.2
  | [], _, _, h => by cases h
  | z :: r, q, ok, h => by
    rcases List.mem_cons.mp h with h | h
    · subst h; exact ok.1
    · exact okL_mem ok.2 h
theorem okL_of : ∀ {L : List (Nat × AV)}, (∀ q ∈ L, okV q.2) → okL L
  | [], _ => trivial
  | z :: r, h => ⟨h z List.mem_cons_self, okL_of (fun q hq => h q (List.mem_cons_of_mem _ hq))⟩
theorem dL_mem : ∀ {L : List (Nat × AV)} {k : Nat} {q : Nat × AV}, q ∈ dL L k → q ∈ L ∧ q.1 ≠ k
  | [], _, _, h => by cases h
  | z :: r, k, q, h => by
    unfold dL at h
    cases e : Nat.beq z.1 k with
    | true => rw [e] at h; exact ⟨List.mem_cons_of_mem _ (dL_mem h).1, (dL_mem h).2⟩
    | false =>
      rw [e] at h
      rcases List.mem_cons.mp h with h | h
      · subst h; exact ⟨List.mem_cons_self, fun c => by rw [c, Nat.beq_refl] at e; cases e⟩
      · exact ⟨List.mem_cons_of_mem _ (dL_mem h).1, (dL_mem h).2⟩
theorem sL_mem : ∀ {L : List (Nat × AV)} {k : Nat} {v : AV} {q : Nat × AV}, q ∈ sL L k v → q = (k, v) ∨ (q ∈ L ∧ q.1 ≠ k)
  | [], _, _, _, h => Or.inl (List.mem_singleton.mp h)
  | z :: r, k, v, q, h => by
    unfold sL at h
    cases e : Nat.beq z.1 k with
    | true =>
      rw [e] at h
      rcases List.mem_cons.mp h with h | h
      · exact Or.inl h
      · exact Or.inr ⟨List.mem_cons_of_mem _ (dL_mem h).1, (dL_mem h).2⟩
    | false =>
      rw [e] at h
      rcases List.mem_cons.mp h with h | h
      · subst h; exact Or.inr ⟨List.mem_cons_self, fun c => by rw [c, Nat.beq_refl] at e; cases e⟩
      · rcases sL_mem h with h | h
        · exact Or.inl h
        · exact Or.inr ⟨List.mem_cons_of_mem _ h.1, h.2⟩
theorem okK_mem : ∀ {L : List (Nat × AV)} {k : Nat} {b : Bool} {q : Nat × AV}, okK L k b = true → q ∈ L → ¬ (q.1 + 1 = k ∧ isLg q.2 = true) ∧ ¬ (b = true ∧ q.1 = k + 1)
  | [], _, _, _, _, h => by cases h
  | z :: r, k, b, q, ok, h => by
    unfold okK at ok
    simp only [Bool.and_eq_true, Bool.not_eq_true'] at ok
    rcases List.mem_cons.mp h with h | h
    · subst h
      refine ⟨fun c => ?_, fun c => ?_⟩
      · have := ok.1; rw [c.1, c.2, Nat.beq_refl] at this; cases this
      · have := ok.2.1; rw [c.1, c.2, Nat.beq_refl] at this; cases this
    · exact okK_mem ok.2.2 h
theorem sL_ok {L : List (Nat × AV)} {k : Nat} {v : AV} (h : okL L) (hv : okV v) : okL (sL L k v) := okL_of (fun q hq => by
  rcases sL_mem hq with e | e
  · rw [e]; exact hv
  · exact okL_mem h e.1)
theorem gL_at {ad : Nat → Nat} {ls : Array Slot} {nL : Nat} {L : List (Nat × AV)} {k : Nat} {v : AV} (hl : lv_has ls nL (cL ad L)) (h : gL L k = some v) : ls[k]? = some (.val (cv ad v)) := hl.2.2 (k, cv ad v) (cL_mem (gL_mem h))
theorem sL_has1 {ad : Nat → Nat} {ls : Array Slot} {nL : Nat} {L : List (Nat × AV)} {k : Nat} {v : AV} (hk : okK L k false = true)
    (h : lv_has ls nL ((k, cv ad v) :: (cL ad L).filter (fun q => !(q.1 == k) && !(q.1 + 1 == k && q.2.category == 2)))) : lv_has ls nL (cL ad (sL L k v)) := by
  refine ⟨h.1, h.2.1, fun q hq => h.2.2 q ?_⟩
  obtain ⟨z, h1, rfl⟩ := cL_inv hq
  rcases sL_mem h1 with e | e
  · rw [e]; exact List.mem_cons_self
  · refine List.mem_cons_of_mem _ (List.mem_filter.mpr ⟨cL_mem e.1, ?_⟩)
    have o := okK_mem hk e.1
    have c1 : (z.1 == k) = false := by simpa using e.2
    show (!(z.1 == k) && !(z.1 + 1 == k && (cv ad z.2).category == 2)) = true
    rw [c1, cv_cat]
    by_cases hz : z.1 + 1 = k
    · have : isLg z.2 = false := by cases q : isLg z.2 with
        | true => exact absurd ⟨hz, q⟩ o.1
        | false => rfl
      rw [this]; simp
    · have : (z.1 + 1 == k) = false := by simpa using hz
      rw [this]; rfl
theorem sL_has2 {ad : Nat → Nat} {ls : Array Slot} {nL : Nat} {L : List (Nat × AV)} {k : Nat} {v : AV} (hk : okK L k true = true)
    (h : lv_has ls nL ((k, cv ad v) :: (cL ad L).filter (fun q => !(q.1 == k) && (!(q.1 == k + 1) && !(q.1 + 1 == k && q.2.category == 2))))) : lv_has ls nL (cL ad (sL L k v)) := by
  refine ⟨h.1, h.2.1, fun q hq => h.2.2 q ?_⟩
  obtain ⟨z, h1, rfl⟩ := cL_inv hq
  rcases sL_mem h1 with e | e
  · rw [e]; exact List.mem_cons_self
  · refine List.mem_cons_of_mem _ (List.mem_filter.mpr ⟨cL_mem e.1, ?_⟩)
    have o := okK_mem hk e.1
    have c1 : (z.1 == k) = false := by simpa using e.2
    have c2 : (z.1 == k + 1) = false := by simpa using fun c => o.2 ⟨rfl, c⟩
    show (!(z.1 == k) && (!(z.1 == k + 1) && !(z.1 + 1 == k && (cv ad z.2).category == 2))) = true
    rw [c1, c2, cv_cat]
    by_cases hz : z.1 + 1 = k
    · have : isLg z.2 = false := by cases q : isLg z.2 with
        | true => exact absurd ⟨hz, q⟩ o.1
        | false => rfl
      rw [this]; simp
    · have : (z.1 + 1 == k) = false := by simpa using hz
      rw [this]; rfl
/-! the words of plain programs -/
abbrev RT : Type := Option (Int × Hp)
def rt (r : Int) (G : Hp) : RT := some (r, G)
def rz (r : Int) (G : Hp) : RT := if r = 0 ∨ r = 1 then some (r, G) else none
def bd (e : Int) (f : Int → RT) : RT := f e
def bh (g : Hp) (f : Hp → RT) : RT := f g
def bn (o : RT) (f : Int → Hp → RT) : RT := match o with
  | none => none
  | some p => f p.1 p.2
def br (o : Option Int) (f : Int → RT) : RT := match o with
  | none => none
  | some v => f v
def bs (o : Option Hp) (f : Hp → RT) : RT := match o with
  | none => none
  | some v => f v
def nz (b : Int) (o : RT) : RT := if b = 0 then none else o
def rd (G : Hp) (c len : Nat) (i : Int) : Option Int := if 0 ≤ i ∧ i < (len : Int) then some (G c i.toNat) else none
def wr (G : Hp) (c len : Nat) (i v : Int) : Option Hp := if 0 ≤ i ∧ i < (len : Int) then some (up G c i.toNat v) else none
def wrZ (G : Hp) (c len : Nat) (i v : Int) : Option Hp := if (0 ≤ i ∧ i < (len : Int)) ∧ (v = 0 ∨ v = 1) then some (up G c i.toNat v) else none
def wrC (G : Hp) (c len : Nat) (i v : Int) : Option Hp := if (0 ≤ i ∧ i < (len : Int)) ∧ (0 ≤ v ∧ v ≤ 65535) then some (up G c i.toNat v) else none
def ra (c len : Nat) (i : Int) (f : Nat → RT) : RT := if 0 ≤ i ∧ i < (len : Int) then f (rf c i.toNat) else none
def jn {X : Type} (K : X) (f : X → RT) : RT := f K
def lp {X : Type} (b : X) : Nat → (X → X) → X
  | 0, _ => b
  | n + 1, F => F (lp b n F)
section ROWS
variable {cx : CX} {x : WX} {own : String} {cc : ByteArray} {nL n pc pc' : Nat} {ret : Option FieldType} {L : List (Nat × AV)} {S : List AV} {G : Hp} {o : RT}
theorem Y_none : Y cx x nL ret n pc L S G none := by
  intro r G' ho; cases ho
theorem x_ite {c : Prop} {D : Decidable c} {o1 o2 : RT} (h1 : c → Y cx x nL ret n pc L S G o1) (h2 : ¬ c → Y cx x nL ret n pc L S G o2) : Y cx x nL ret n pc L S G (@ite RT c D o1 o2) := by
  by_cases h : c
  · rw [if_pos h]; exact h1 h
  · rw [if_neg h]; exact h2 h
theorem x_jn {X : Type} {K : X} {f : X → RT} (P : X → Prop) (hK : P K) (h : ∀ K : X, P K → Y cx x nL ret n pc L S G (f K)) : Y cx x nL ret n pc L S G (jn K f) := h K hK
theorem x_lp {X : Type} {b : X} {F : X → X} (P : X → Prop) (h0 : P b) (hs : ∀ r, P r → P (F r)) : ∀ k, P (lp b k F)
  | 0 => h0
  | k + 1 => hs _ (x_lp P h0 hs k)
theorem x_dr {L' : List (Nat × AV)} (hs : ∀ q ∈ L', q ∈ L) (k : Y cx x nL ret n pc L' S G o) : Y cx x nL ret n pc L S G o := by
  intro r G' ho hS hL hG H locs ls hP hV hl
  refine k r G' ho hS (okL_of fun q hq => okL_mem hL (hs q hq)) hG H locs ls hP hV ⟨hl.1, hl.2.1, fun q hq => ?_⟩
  obtain ⟨z, h1, rfl⟩ := cL_inv hq
  exact hl.2.2 _ (cL_mem (hs z h1))
theorem x_iconst (F : Fx cx x own cc nL ret) {k : Int} (d : decode cc pc = .ok (.iconst k, 1)) (hk : okI k) (hp : pc + 1 = pc') (y : Y cx x nL ret n pc' L (vI k :: S) G o) : Y cx x nL ret n pc L S G o := by
  subst hp
  intro r G' ho hS hL hG H locs ls hP hV hl
  exact lv_iconst F.1 F.2.1 d rfl (y r G' ho ⟨hk, hS⟩ hL hG H locs ls hP hV hl)
theorem x_bipush (F : Fx cx x own cc nL ret) {k : Int} (d : decode cc pc = .ok (.bipush k, 2)) (hk : okI k) (hv : (Int8.ofInt k).toInt32 = Int32.ofInt k) (hp : pc + 2 = pc') (y : Y cx x nL ret n pc' L (vI k :: S) G o) : Y cx x nL ret n pc L S G o := by
  subst hp
  intro r G' ho hS hL hG H locs ls hP hV hl
  exact lv_bipush F.1 F.2.1 d hv (y r G' ho ⟨hk, hS⟩ hL hG H locs ls hP hV hl)
theorem x_sipush (F : Fx cx x own cc nL ret) {k : Int} (d : decode cc pc = .ok (.sipush k, 3)) (hk : okI k) (hv : (Int16.ofInt k).toInt32 = Int32.ofInt k) (hp : pc + 3 = pc') (y : Y cx x nL ret n pc' L (vI k :: S) G o) : Y cx x nL ret n pc L S G o := by
  subst hp
  intro r G' ho hS hL hG H locs ls hP hV hl
  exact lv_sipush F.1 F.2.1 d hv (y r G' ho ⟨hk, hS⟩ hL hG H locs ls hP hV hl)
theorem x_lconst (F : Fx cx x own cc nL ret) {k : Fin 2} {v : Int} (d : decode cc pc = .ok (.lconst k, 1)) (hk : okJ v) (hv : Int64.ofNat (k : Nat) = Int64.ofInt v) (hp : pc + 1 = pc') (y : Y cx x nL ret n pc' L (vL v :: S) G o) : Y cx x nL ret n pc L S G o := by
  subst hp
  intro r G' ho hS hL hG H locs ls hP hV hl
  exact lv_lconst F.1 F.2.1 d hv (y r G' ho ⟨hk, hS⟩ hL hG H locs ls hP hV hl)
theorem x_ldc (F : Fx cx x own cc nL ret) {k : Nat} {v : Int} {v' : Int32} (hw : Cond.constant own k v' ∈ gw) (d : decode cc pc = .ok (.ldc k, 2)) (hk : okI v) (hv : v' = Int32.ofInt v) (hp : pc + 2 = pc') (y : Y cx x nL ret n pc' L (vI v :: S) G o) : Y cx x nL ret n pc L S G o := by
  subst hv
  subst hp
  intro r G' ho hS hL hG H locs ls hP hV hl
  exact lv_ldc F.1 F.2.1 F.2.2.2.2.1 (F.2.2.2.2.2.1 _ hw) d (y r G' ho ⟨hk, hS⟩ hL hG H locs ls hP hV hl)
theorem x_ldc2 (F : Fx cx x own cc nL ret) {k : Nat} {v : Int} {v' : Int64} (hw : Cond.constantLong own k v' ∈ gw) (d : decode cc pc = .ok (.ldc2_w k, 3)) (hk : okJ v) (hv : v' = Int64.ofInt v) (hp : pc + 3 = pc') (y : Y cx x nL ret n pc' L (vL v :: S) G o) : Y cx x nL ret n pc L S G o := by
  subst hv
  subst hp
  intro r G' ho hS hL hG H locs ls hP hV hl
  exact lv_ldc2 F.1 F.2.1 F.2.2.2.2.1 (F.2.2.2.2.2.1 _ hw) d (y r G' ho ⟨hk, hS⟩ hL hG H locs ls hP hV hl)
theorem x_iload_n (F : Fx cx x own cc nL ret) {k : Fin 4} {i : Nat} {a : Int} (d : decode cc pc = .ok (.iload_n k, 1)) (hi : (k : Nat) = i) (hg : gL L i = some (vI a)) (hp : pc + 1 = pc') (y : Y cx x nL ret n pc' L (vI a :: S) G o) : Y cx x nL ret n pc L S G o := by
  subst hp
  intro r G' ho hS hL hG H locs ls hP hV hl
  exact lv_iload_n F.1 F.2.1 d hi (gL_at hl hg) (y r G' ho ⟨okL_mem hL (gL_mem hg), hS⟩ hL hG H locs ls hP hV hl)
theorem x_iload (F : Fx cx x own cc nL ret) {i : Nat} {a : Int} (d : decode cc pc = .ok (.iload i, 2)) (hg : gL L i = some (vI a)) (hp : pc + 2 = pc') (y : Y cx x nL ret n pc' L (vI a :: S) G o) : Y cx x nL ret n pc L S G o := by
  subst hp
  intro r G' ho hS hL hG H locs ls hP hV hl
  exact lv_iload F.1 F.2.1 d (gL_at hl hg) (y r G' ho ⟨okL_mem hL (gL_mem hg), hS⟩ hL hG H locs ls hP hV hl)
theorem x_lload_n (F : Fx cx x own cc nL ret) {k : Fin 4} {i : Nat} {a : Int} (d : decode cc pc = .ok (.lload_n k, 1)) (hi : (k : Nat) = i) (hg : gL L i = some (vL a)) (hp : pc + 1 = pc') (y : Y cx x nL ret n pc' L (vL a :: S) G o) : Y cx x nL ret n pc L S G o := by
  subst hp
  intro r G' ho hS hL hG H locs ls hP hV hl
  exact lv_lload_n F.1 F.2.1 d hi (gL_at hl hg) (y r G' ho ⟨okL_mem hL (gL_mem hg), hS⟩ hL hG H locs ls hP hV hl)
theorem x_lload (F : Fx cx x own cc nL ret) {i : Nat} {a : Int} (d : decode cc pc = .ok (.lload i, 2)) (hg : gL L i = some (vL a)) (hp : pc + 2 = pc') (y : Y cx x nL ret n pc' L (vL a :: S) G o) : Y cx x nL ret n pc L S G o := by
  subst hp
  intro r G' ho hS hL hG H locs ls hP hV hl
  exact lv_lload F.1 F.2.1 d (gL_at hl hg) (y r G' ho ⟨okL_mem hL (gL_mem hg), hS⟩ hL hG H locs ls hP hV hl)
theorem x_aload_n (F : Fx cx x own cc nL ret) {k : Fin 4} {i : Nat} {a : Nat} (d : decode cc pc = .ok (.aload_n k, 1)) (hi : (k : Nat) = i) (hg : gL L i = some (vR a)) (hp : pc + 1 = pc') (y : Y cx x nL ret n pc' L (vR a :: S) G o) : Y cx x nL ret n pc L S G o := by
  subst hp
  intro r G' ho hS hL hG H locs ls hP hV hl
  exact lv_aload_n F.1 F.2.1 d hi (gL_at hl hg) (y r G' ho ⟨okL_mem hL (gL_mem hg), hS⟩ hL hG H locs ls hP hV hl)
theorem x_aload (F : Fx cx x own cc nL ret) {i : Nat} {a : Nat} (d : decode cc pc = .ok (.aload i, 2)) (hg : gL L i = some (vR a)) (hp : pc + 2 = pc') (y : Y cx x nL ret n pc' L (vR a :: S) G o) : Y cx x nL ret n pc L S G o := by
  subst hp
  intro r G' ho hS hL hG H locs ls hP hV hl
  exact lv_aload F.1 F.2.1 d (gL_at hl hg) (y r G' ho ⟨okL_mem hL (gL_mem hg), hS⟩ hL hG H locs ls hP hV hl)
theorem x_istore_n (F : Fx cx x own cc nL ret) {k : Fin 4} {i : Nat} {e : Int} {f : Int → RT} (d : decode cc pc = .ok (.istore_n k, 1)) (hi : (k : Nat) = i) (hn : i < nL) (hk : okK L i false = true) (hp : pc + 1 = pc') (y : ∀ t, Y cx x nL ret n pc' (sL L i (vI t)) S G (f t)) : Y cx x nL ret n pc L (vI e :: S) G (bd e f) := by
  subst hp
  intro r G' ho hS hL hG H locs ls hP hV hl
  exact lv_istore_n F.1 F.2.1 d hi hl hn rfl (fun ls' hl' => y e r G' ho hS.2 (sL_ok hL hS.1) hG H locs ls' hP hV (sL_has1 hk hl'))
theorem x_istore (F : Fx cx x own cc nL ret) {i : Nat} {e : Int} {f : Int → RT} (d : decode cc pc = .ok (.istore i, 2)) (hn : i < nL) (hk : okK L i false = true) (hp : pc + 2 = pc') (y : ∀ t, Y cx x nL ret n pc' (sL L i (vI t)) S G (f t)) : Y cx x nL ret n pc L (vI e :: S) G (bd e f) := by
  subst hp
  intro r G' ho hS hL hG H locs ls hP hV hl
  exact lv_istore F.1 F.2.1 d hl hn rfl (fun ls' hl' => y e r G' ho hS.2 (sL_ok hL hS.1) hG H locs ls' hP hV (sL_has1 hk hl'))
theorem x_lstore_n (F : Fx cx x own cc nL ret) {k : Fin 4} {i : Nat} {e : Int} {f : Int → RT} (d : decode cc pc = .ok (.lstore_n k, 1)) (hi : (k : Nat) = i) (hn : i + 1 < nL) (hk : okK L i true = true) (hp : pc + 1 = pc') (y : ∀ t, Y cx x nL ret n pc' (sL L i (vL t)) S G (f t)) : Y cx x nL ret n pc L (vL e :: S) G (bd e f) := by
  subst hp
  intro r G' ho hS hL hG H locs ls hP hV hl
  exact lv_lstore_n F.1 F.2.1 d hi hl hn rfl (fun ls' hl' => y e r G' ho hS.2 (sL_ok hL hS.1) hG H locs ls' hP hV (sL_has2 hk hl'))
theorem x_lstore (F : Fx cx x own cc nL ret) {i : Nat} {e : Int} {f : Int → RT} (d : decode cc pc = .ok (.lstore i, 2)) (hn : i + 1 < nL) (hk : okK L i true = true) (hp : pc + 2 = pc') (y : ∀ t, Y cx x nL ret n pc' (sL L i (vL t)) S G (f t)) : Y cx x nL ret n pc L (vL e :: S) G (bd e f) := by
  subst hp
  intro r G' ho hS hL hG H locs ls hP hV hl
  exact lv_lstore F.1 F.2.1 d hl hn rfl (fun ls' hl' => y e r G' ho hS.2 (sL_ok hL hS.1) hG H locs ls' hP hV (sL_has2 hk hl'))
theorem x_astore_n (F : Fx cx x own cc nL ret) {k : Fin 4} {i c : Nat} (d : decode cc pc = .ok (.astore_n k, 1)) (hi : (k : Nat) = i) (hn : i < nL) (hk : okK L i false = true) (hp : pc + 1 = pc') (y : Y cx x nL ret n pc' (sL L i (vR c)) S G o) : Y cx x nL ret n pc L (vR c :: S) G o := by
  subst hp
  intro r G' ho hS hL hG H locs ls hP hV hl
  exact lv_astore_n F.1 F.2.1 d hi hl hn rfl (fun ls' hl' => y r G' ho hS.2 (sL_ok hL hS.1) hG H locs ls' hP hV (sL_has1 hk hl'))
theorem cL_idx {ad : Nat → Nat} {L : List (Nat × AV)} {k : Nat} {v : AV} (h : gL L k = some v) : ∃ j : Nat, (cL ad L)[j]? = some (k, cv ad v) := List.getElem?_of_mem (cL_mem (gL_mem h))
theorem x_iinc (F : Fx cx x own cc nL ret) {i : Nat} {k a : Int} {f : Int → RT} (d : decode cc pc = .ok (.iinc i k, 3)) (hg : gL L i = some (vI a)) (hn : i < nL) (hk : okK L i false = true) (hp : pc + 3 = pc') (y : ∀ t, Y cx x nL ret n pc' (sL L i (vI t)) S G (f t)) : Y cx x nL ret n pc L S G (bd (iadd a k) f) := by
  subst hp
  intro r G' ho hS hL hG H locs ls hP hV hl
  obtain ⟨j, hj⟩ := cL_idx (ad := x.2.2) hg
  exact lv_iinc (v := Int32.ofInt (iadd a k)) F.1 F.2.1 d hl hj (o32_add a k).symm hn rfl (fun ls' hl' => y _ r G' ho hS (sL_ok hL (v := vI (iadd a k)) (w32_ok _)) hG H locs ls' hP hV (sL_has1 (v := vI (iadd a k)) hk hl'))
theorem x_iadd (F : Fx cx x own cc nL ret) {a b : Int} (d : decode cc pc = .ok (.iadd, 1)) (hp : pc + 1 = pc') (y : Y cx x nL ret n pc' L (vI (iadd a b) :: S) G o) : Y cx x nL ret n pc L (vI b :: vI a :: S) G o := by
  subst hp
  intro r G' ho hS hL hG H locs ls hP hV hl
  have y' := y r G' ho ⟨w32_ok _, hS.2.2⟩ hL hG H locs ls hP hV hl
  rw [show cS x.2.2 (vI (iadd a b) :: S) = .int (Int32.ofInt a + Int32.ofInt b) :: cS x.2.2 S from by show Value.int _ :: _ = _; rw [o32_add]] at y'
  exact lv_iadd F.1 F.2.1 d  y'
theorem x_isub (F : Fx cx x own cc nL ret) {a b : Int} (d : decode cc pc = .ok (.isub, 1)) (hp : pc + 1 = pc') (y : Y cx x nL ret n pc' L (vI (isub a b) :: S) G o) : Y cx x nL ret n pc L (vI b :: vI a :: S) G o := by
  subst hp
  intro r G' ho hS hL hG H locs ls hP hV hl
  have y' := y r G' ho ⟨w32_ok _, hS.2.2⟩ hL hG H locs ls hP hV hl
  rw [show cS x.2.2 (vI (isub a b) :: S) = .int (Int32.ofInt a - Int32.ofInt b) :: cS x.2.2 S from by show Value.int _ :: _ = _; rw [o32_sub]] at y'
  exact lv_isub F.1 F.2.1 d  y'
theorem x_imul (F : Fx cx x own cc nL ret) {a b : Int} (d : decode cc pc = .ok (.imul, 1)) (hp : pc + 1 = pc') (y : Y cx x nL ret n pc' L (vI (imul a b) :: S) G o) : Y cx x nL ret n pc L (vI b :: vI a :: S) G o := by
  subst hp
  intro r G' ho hS hL hG H locs ls hP hV hl
  have y' := y r G' ho ⟨w32_ok _, hS.2.2⟩ hL hG H locs ls hP hV hl
  rw [show cS x.2.2 (vI (imul a b) :: S) = .int (Int32.ofInt a * Int32.ofInt b) :: cS x.2.2 S from by show Value.int _ :: _ = _; rw [o32_mul]] at y'
  exact lv_imul F.1 F.2.1 d  y'
theorem x_iand (F : Fx cx x own cc nL ret) {a b : Int} (d : decode cc pc = .ok (.iand, 1)) (hp : pc + 1 = pc') (y : Y cx x nL ret n pc' L (vI (iand a b) :: S) G o) : Y cx x nL ret n pc L (vI b :: vI a :: S) G o := by
  subst hp
  intro r G' ho hS hL hG H locs ls hP hV hl
  have y' := y r G' ho ⟨toInt_ok _, hS.2.2⟩ hL hG H locs ls hP hV hl
  rw [show cS x.2.2 (vI (iand a b) :: S) = .int (Int32.ofInt a &&& Int32.ofInt b) :: cS x.2.2 S from by show Value.int _ :: _ = _; unfold iand; rw [o32_toInt]] at y'
  exact lv_iand F.1 F.2.1 d  y'
theorem x_ior (F : Fx cx x own cc nL ret) {a b : Int} (d : decode cc pc = .ok (.ior, 1)) (hp : pc + 1 = pc') (y : Y cx x nL ret n pc' L (vI (ior a b) :: S) G o) : Y cx x nL ret n pc L (vI b :: vI a :: S) G o := by
  subst hp
  intro r G' ho hS hL hG H locs ls hP hV hl
  have y' := y r G' ho ⟨toInt_ok _, hS.2.2⟩ hL hG H locs ls hP hV hl
  rw [show cS x.2.2 (vI (ior a b) :: S) = .int (Int32.ofInt a ||| Int32.ofInt b) :: cS x.2.2 S from by show Value.int _ :: _ = _; unfold ior; rw [o32_toInt]] at y'
  exact lv_ior F.1 F.2.1 d  y'
theorem x_ixor (F : Fx cx x own cc nL ret) {a b : Int} (d : decode cc pc = .ok (.ixor, 1)) (hp : pc + 1 = pc') (y : Y cx x nL ret n pc' L (vI (ixor a b) :: S) G o) : Y cx x nL ret n pc L (vI b :: vI a :: S) G o := by
  subst hp
  intro r G' ho hS hL hG H locs ls hP hV hl
  have y' := y r G' ho ⟨toInt_ok _, hS.2.2⟩ hL hG H locs ls hP hV hl
  rw [show cS x.2.2 (vI (ixor a b) :: S) = .int (Int32.ofInt a ^^^ Int32.ofInt b) :: cS x.2.2 S from by show Value.int _ :: _ = _; unfold ixor; rw [o32_toInt]] at y'
  exact lv_ixor F.1 F.2.1 d  y'
theorem x_ishl (F : Fx cx x own cc nL ret) {a b : Int} (d : decode cc pc = .ok (.ishl, 1)) (hp : pc + 1 = pc') (y : Y cx x nL ret n pc' L (vI (ishl a b) :: S) G o) : Y cx x nL ret n pc L (vI b :: vI a :: S) G o := by
  subst hp
  intro r G' ho hS hL hG H locs ls hP hV hl
  have y' := y r G' ho ⟨toInt_ok _, hS.2.2⟩ hL hG H locs ls hP hV hl
  rw [show cS x.2.2 (vI (ishl a b) :: S) = .int (Int32.ofInt a <<< (Int32.ofInt b &&& 31)) :: cS x.2.2 S from by show Value.int _ :: _ = _; unfold ishl; rw [o32_toInt]] at y'
  exact lv_ishl F.1 F.2.1 d  y'
theorem x_ishr (F : Fx cx x own cc nL ret) {a b : Int} (d : decode cc pc = .ok (.ishr, 1)) (hp : pc + 1 = pc') (y : Y cx x nL ret n pc' L (vI (ishr a b) :: S) G o) : Y cx x nL ret n pc L (vI b :: vI a :: S) G o := by
  subst hp
  intro r G' ho hS hL hG H locs ls hP hV hl
  have y' := y r G' ho ⟨toInt_ok _, hS.2.2⟩ hL hG H locs ls hP hV hl
  rw [show cS x.2.2 (vI (ishr a b) :: S) = .int (Int32.ofInt a >>> (Int32.ofInt b &&& 31)) :: cS x.2.2 S from by show Value.int _ :: _ = _; unfold ishr; rw [o32_toInt]] at y'
  exact lv_ishr F.1 F.2.1 d  y'
theorem x_ladd (F : Fx cx x own cc nL ret) {a b : Int} (d : decode cc pc = .ok (.ladd, 1)) (hp : pc + 1 = pc') (y : Y cx x nL ret n pc' L (vL (ladd a b) :: S) G o) : Y cx x nL ret n pc L (vL b :: vL a :: S) G o := by
  subst hp
  intro r G' ho hS hL hG H locs ls hP hV hl
  have y' := y r G' ho ⟨w64_ok _, hS.2.2⟩ hL hG H locs ls hP hV hl
  rw [show cS x.2.2 (vL (ladd a b) :: S) = .long (Int64.ofInt a + Int64.ofInt b) :: cS x.2.2 S from by show Value.long _ :: _ = _; rw [o64_add]] at y'
  exact lv_ladd F.1 F.2.1 d  y'
theorem x_lsub (F : Fx cx x own cc nL ret) {a b : Int} (d : decode cc pc = .ok (.lsub, 1)) (hp : pc + 1 = pc') (y : Y cx x nL ret n pc' L (vL (lsub a b) :: S) G o) : Y cx x nL ret n pc L (vL b :: vL a :: S) G o := by
  subst hp
  intro r G' ho hS hL hG H locs ls hP hV hl
  have y' := y r G' ho ⟨w64_ok _, hS.2.2⟩ hL hG H locs ls hP hV hl
  rw [show cS x.2.2 (vL (lsub a b) :: S) = .long (Int64.ofInt a - Int64.ofInt b) :: cS x.2.2 S from by show Value.long _ :: _ = _; rw [o64_sub]] at y'
  exact lv_lsub F.1 F.2.1 d  y'
theorem x_lmul (F : Fx cx x own cc nL ret) {a b : Int} (d : decode cc pc = .ok (.lmul, 1)) (hp : pc + 1 = pc') (y : Y cx x nL ret n pc' L (vL (lmul a b) :: S) G o) : Y cx x nL ret n pc L (vL b :: vL a :: S) G o := by
  subst hp
  intro r G' ho hS hL hG H locs ls hP hV hl
  have y' := y r G' ho ⟨w64_ok _, hS.2.2⟩ hL hG H locs ls hP hV hl
  rw [show cS x.2.2 (vL (lmul a b) :: S) = .long (Int64.ofInt a * Int64.ofInt b) :: cS x.2.2 S from by show Value.long _ :: _ = _; rw [o64_mul]] at y'
  exact lv_lmul F.1 F.2.1 d  y'
theorem x_land (F : Fx cx x own cc nL ret) {a b : Int} (d : decode cc pc = .ok (.land, 1)) (hp : pc + 1 = pc') (y : Y cx x nL ret n pc' L (vL (land' a b) :: S) G o) : Y cx x nL ret n pc L (vL b :: vL a :: S) G o := by
  subst hp
  intro r G' ho hS hL hG H locs ls hP hV hl
  have y' := y r G' ho ⟨toInt_okJ _, hS.2.2⟩ hL hG H locs ls hP hV hl
  rw [show cS x.2.2 (vL (land' a b) :: S) = .long (Int64.ofInt a &&& Int64.ofInt b) :: cS x.2.2 S from by show Value.long _ :: _ = _; unfold land'; rw [o64_toInt]] at y'
  exact lv_land F.1 F.2.1 d  y'
theorem x_lor (F : Fx cx x own cc nL ret) {a b : Int} (d : decode cc pc = .ok (.lor, 1)) (hp : pc + 1 = pc') (y : Y cx x nL ret n pc' L (vL (lor' a b) :: S) G o) : Y cx x nL ret n pc L (vL b :: vL a :: S) G o := by
  subst hp
  intro r G' ho hS hL hG H locs ls hP hV hl
  have y' := y r G' ho ⟨toInt_okJ _, hS.2.2⟩ hL hG H locs ls hP hV hl
  rw [show cS x.2.2 (vL (lor' a b) :: S) = .long (Int64.ofInt a ||| Int64.ofInt b) :: cS x.2.2 S from by show Value.long _ :: _ = _; unfold lor'; rw [o64_toInt]] at y'
  exact lv_lor F.1 F.2.1 d  y'
theorem x_irem (F : Fx cx x own cc nL ret) {a b : Int} (d : decode cc pc = .ok (.irem, 1)) (hp : pc + 1 = pc') (y : Y cx x nL ret n pc' L (vI (irem a b) :: S) G o) : Y cx x nL ret n pc L (vI b :: vI a :: S) G (nz b o) := by
  subst hp
  intro r G' ho hS hL hG H locs ls hP hV hl
  unfold nz at ho
  by_cases hb : b = 0
  · rw [if_pos hb] at ho; cases ho
  · rw [if_neg hb] at ho
    have y' := y r G' ho ⟨toInt_ok _, hS.2.2⟩ hL hG H locs ls hP hV hl
    rw [show cS x.2.2 (vI (irem a b) :: S) = .int (Int32.ofInt a - Int32.ofInt a / Int32.ofInt b * Int32.ofInt b) :: cS x.2.2 S from by show Value.int _ :: _ = _; unfold irem; rw [o32_toInt]] at y'
    exact lv_irem F.1 F.2.1 d (fun h => hb ((o32_inj hS.1 ⟨by decide, by decide⟩).mp h)) y'
theorem x_idiv (F : Fx cx x own cc nL ret) {a b : Int} (d : decode cc pc = .ok (.idiv, 1)) (hp : pc + 1 = pc') (y : Y cx x nL ret n pc' L (vI (idiv a b) :: S) G o) : Y cx x nL ret n pc L (vI b :: vI a :: S) G (nz b o) := by
  subst hp
  intro r G' ho hS hL hG H locs ls hP hV hl
  unfold nz at ho
  by_cases hb : b = 0
  · rw [if_pos hb] at ho; cases ho
  · rw [if_neg hb] at ho
    have y' := y r G' ho ⟨toInt_ok _, hS.2.2⟩ hL hG H locs ls hP hV hl
    rw [show cS x.2.2 (vI (idiv a b) :: S) = .int (Int32.ofInt a / Int32.ofInt b) :: cS x.2.2 S from by show Value.int _ :: _ = _; unfold idiv; rw [o32_toInt]] at y'
    exact lv_idiv F.1 F.2.1 d (fun h => hb ((o32_inj hS.1 ⟨by decide, by decide⟩).mp h)) y'
theorem x_lrem (F : Fx cx x own cc nL ret) {a b : Int} (d : decode cc pc = .ok (.lrem, 1)) (hp : pc + 1 = pc') (y : Y cx x nL ret n pc' L (vL (lrem a b) :: S) G o) : Y cx x nL ret n pc L (vL b :: vL a :: S) G (nz b o) := by
  subst hp
  intro r G' ho hS hL hG H locs ls hP hV hl
  unfold nz at ho
  by_cases hb : b = 0
  · rw [if_pos hb] at ho; cases ho
  · rw [if_neg hb] at ho
    have y' := y r G' ho ⟨toInt_okJ _, hS.2.2⟩ hL hG H locs ls hP hV hl
    rw [show cS x.2.2 (vL (lrem a b) :: S) = .long (Int64.ofInt a - Int64.ofInt a / Int64.ofInt b * Int64.ofInt b) :: cS x.2.2 S from by show Value.long _ :: _ = _; unfold lrem; rw [o64_toInt]] at y'
    exact lv_lrem F.1 F.2.1 d (fun h => hb ((o64_inj hS.1 ⟨by decide, by decide⟩).mp h)) y'
theorem x_ldiv (F : Fx cx x own cc nL ret) {a b : Int} (d : decode cc pc = .ok (.ldiv, 1)) (hp : pc + 1 = pc') (y : Y cx x nL ret n pc' L (vL (ldiv a b) :: S) G o) : Y cx x nL ret n pc L (vL b :: vL a :: S) G (nz b o) := by
  subst hp
  intro r G' ho hS hL hG H locs ls hP hV hl
  unfold nz at ho
  by_cases hb : b = 0
  · rw [if_pos hb] at ho; cases ho
  · rw [if_neg hb] at ho
    have y' := y r G' ho ⟨toInt_okJ _, hS.2.2⟩ hL hG H locs ls hP hV hl
    rw [show cS x.2.2 (vL (ldiv a b) :: S) = .long (Int64.ofInt a / Int64.ofInt b) :: cS x.2.2 S from by show Value.long _ :: _ = _; unfold ldiv; rw [o64_toInt]] at y'
    exact lv_ldiv F.1 F.2.1 d (fun h => hb ((o64_inj hS.1 ⟨by decide, by decide⟩).mp h)) y'
theorem x_lshl (F : Fx cx x own cc nL ret) {a b : Int} (d : decode cc pc = .ok (.lshl, 1)) (hp : pc + 1 = pc') (y : Y cx x nL ret n pc' L (vL (lshl a b) :: S) G o) : Y cx x nL ret n pc L (vI b :: vL a :: S) G o := by
  subst hp
  intro r G' ho hS hL hG H locs ls hP hV hl
  exact lv_lshl F.1 F.2.1 d (v := Int64.ofInt (lshl a b)) (by unfold lshl; rw [o64_toInt]) (y r G' ho ⟨toInt_okJ _, hS.2.2⟩ hL hG H locs ls hP hV hl)
theorem x_lshr (F : Fx cx x own cc nL ret) {a b : Int} (d : decode cc pc = .ok (.lshr, 1)) (hp : pc + 1 = pc') (y : Y cx x nL ret n pc' L (vL (lshr a b) :: S) G o) : Y cx x nL ret n pc L (vI b :: vL a :: S) G o := by
  subst hp
  intro r G' ho hS hL hG H locs ls hP hV hl
  exact lv_lshr F.1 F.2.1 d (v := Int64.ofInt (lshr a b)) (by unfold lshr; rw [o64_toInt]) (y r G' ho ⟨toInt_okJ _, hS.2.2⟩ hL hG H locs ls hP hV hl)
theorem x_lushr (F : Fx cx x own cc nL ret) {a b : Int} (d : decode cc pc = .ok (.lushr, 1)) (hp : pc + 1 = pc') (y : Y cx x nL ret n pc' L (vL (lushr a b) :: S) G o) : Y cx x nL ret n pc L (vI b :: vL a :: S) G o := by
  subst hp
  intro r G' ho hS hL hG H locs ls hP hV hl
  exact lv_lushr F.1 F.2.1 d (v := Int64.ofInt (lushr a b)) (by unfold lushr; rw [o64_toInt]) (y r G' ho ⟨toInt_okJ _, hS.2.2⟩ hL hG H locs ls hP hV hl)
theorem x_i2l (F : Fx cx x own cc nL ret) {a : Int} (d : decode cc pc = .ok (.i2l, 1)) (hp : pc + 1 = pc') (y : Y cx x nL ret n pc' L (vL a :: S) G o) : Y cx x nL ret n pc L (vI a :: S) G o := by
  subst hp
  intro r G' ho hS hL hG H locs ls hP hV hl
  refine lv_i2l F.1 F.2.1 d (o32_i2l hS.1) (y r G' ho ⟨?_, hS.2⟩ hL hG H locs ls hP hV hl)
  have h : okI a := hS.1
  unfold okI at h; show okJ a; unfold okJ; omega
theorem x_l2i (F : Fx cx x own cc nL ret) {a : Int} (d : decode cc pc = .ok (.l2i, 1)) (hp : pc + 1 = pc') (y : Y cx x nL ret n pc' L (vI (l2i a) :: S) G o) : Y cx x nL ret n pc L (vL a :: S) G o := by
  subst hp
  intro r G' ho hS hL hG H locs ls hP hV hl
  exact lv_l2i F.1 F.2.1 d (o64_l2i a) (y r G' ho ⟨w32_ok _, hS.2⟩ hL hG H locs ls hP hV hl)
theorem x_i2c (F : Fx cx x own cc nL ret) {a : Int} (d : decode cc pc = .ok (.i2c, 1)) (hp : pc + 1 = pc') (y : Y cx x nL ret n pc' L (vI (i2c a) :: S) G o) : Y cx x nL ret n pc L (vI a :: S) G o := by
  subst hp
  intro r G' ho hS hL hG H locs ls hP hV hl
  exact lv_i2c F.1 F.2.1 d (v := Int32.ofInt (i2c a)) (by unfold i2c; rw [o32_toInt]) (y r G' ho ⟨toInt_ok _, hS.2⟩ hL hG H locs ls hP hV hl)
theorem lcmp_o {a b : Int} (ha : okJ a) (hb : okJ b) : lg_cmp (Int64.ofInt a) (Int64.ofInt b) = Int32.ofInt (lcmp' a b) := by
  unfold lg_cmp lcmp'
  have e1 : (Int64.ofInt a > Int64.ofInt b) ↔ b < a := o64_lt hb ha
  simp only [e1, o64_inj ha hb]
  rcases Int.lt_trichotomy a b with h | h | h
  · rw [if_neg (by omega), if_neg (by omega), if_pos h]; rfl
  · rw [if_neg (by omega), if_pos h, if_neg (by omega), if_pos h]; rfl
  · rw [if_pos h, if_neg (by omega), if_neg (by omega)]; rfl
theorem x_lcmp (F : Fx cx x own cc nL ret) {a b : Int} (d : decode cc pc = .ok (.lcmp, 1)) (hp : pc + 1 = pc') (y : Y cx x nL ret n pc' L (vI (lcmp' a b) :: S) G o) : Y cx x nL ret n pc L (vL b :: vL a :: S) G o := by
  subst hp
  intro r G' ho hS hL hG H locs ls hP hV hl
  have y' := y r G' ho ⟨by show okI (lcmp' a b); unfold lcmp' okI; (repeat' split) <;> omega, hS.2.2⟩ hL hG H locs ls hP hV hl
  rw [show cS x.2.2 (vI (lcmp' a b) :: S) = .int (lg_cmp (Int64.ofInt a) (Int64.ofInt b)) :: cS x.2.2 S from by show Value.int _ :: _ = _; rw [lcmp_o hS.2.1 hS.1]] at y'
  exact W.lcmp F.1 F.2.1 d y'
theorem x_dup (F : Fx cx x own cc nL ret) {v : AV} (d : decode cc pc = .ok (.dup, 1)) (hc : isLg v = false) (hp : pc + 1 = pc') (y : Y cx x nL ret n pc' L (v :: v :: S) G o) : Y cx x nL ret n pc L (v :: S) G o := by
  subst hp
  intro r G' ho hS hL hG H locs ls hP hV hl
  exact lv_dup F.1 F.2.1 d (by rw [cv_cat, hc]; rfl) (y r G' ho ⟨hS.1, hS⟩ hL hG H locs ls hP hV hl)
theorem x_pop (F : Fx cx x own cc nL ret) {v : AV} (d : decode cc pc = .ok (.pop, 1)) (hc : isLg v = false) (hp : pc + 1 = pc') (y : Y cx x nL ret n pc' L S G o) : Y cx x nL ret n pc L (v :: S) G o := by
  subst hp
  intro r G' ho hS hL hG H locs ls hP hV hl
  exact lv_pop F.1 F.2.1 d (by rw [cv_cat, hc]; rfl) (y r G' ho hS.2 hL hG H locs ls hP hV hl)
theorem x_dup2 (F : Fx cx x own cc nL ret) {v v' : AV} (d : decode cc pc = .ok (.dup2, 1)) (hc : isLg v = false) (hc' : isLg v' = false) (hp : pc + 1 = pc') (y : Y cx x nL ret n pc' L (v :: v' :: v :: v' :: S) G o) : Y cx x nL ret n pc L (v :: v' :: S) G o := by
  subst hp
  intro r G' ho hS hL hG H locs ls hP hV hl
  exact lv_dup2_11 F.1 F.2.1 d (by rw [cv_cat, hc]; rfl) (by rw [cv_cat, hc']; rfl) (y r G' ho ⟨hS.1, hS.2.1, hS⟩ hL hG H locs ls hP hV hl)
theorem x_goto (F : Fx cx x own cc nL ret) {off : Int} (d : decode cc pc = .ok (.goto off, 3)) (hp : (pc : Int) + off = (pc' : Int)) (y : Y cx x nL ret n pc' L S G o) : Y cx x nL ret n pc L S G o := by
  intro r G' ho hS hL hG H locs ls hP hV hl
  exact lv_goto F.1 F.2.1 d hp (y r G' ho hS hL hG H locs ls hP hV hl)
theorem zok : okI 0 := ⟨by decide, by decide⟩
theorem x_ifeq (F : Fx cx x own cc nL ret) {a off : Int} {pt pf : Nat} {o1 o2 : RT} (d : decode cc pc = .ok (.ifCond .eq off, 3)) (ht : (pc : Int) + off = (pt : Int)) (hp : pc + 3 = pf) (y1 : Y cx x nL ret n pt L S G o1) (y2 : Y cx x nL ret n pf L S G o2) : Y cx x nL ret n pc L (vI a :: S) G (if a = 0 then o1 else o2) := by
  subst hp
  intro r G' ho hS hL hG H locs ls hP hV hl
  refine lv_if_eq F.1 F.2.1 d ht (fun h => ?_) (fun h => ?_)
  · have hc : a = 0 := (o32_inj hS.1 zok).mp h
    rw [if_pos hc] at ho
    exact y1 r G' ho hS.2 hL hG H locs ls hP hV hl
  · have hc : ¬ (a = 0) := fun q => h ((o32_inj hS.1 zok).mpr q)
    rw [if_neg hc] at ho
    exact y2 r G' ho hS.2 hL hG H locs ls hP hV hl
theorem x_ifne (F : Fx cx x own cc nL ret) {a off : Int} {pt pf : Nat} {o1 o2 : RT} (d : decode cc pc = .ok (.ifCond .ne off, 3)) (ht : (pc : Int) + off = (pt : Int)) (hp : pc + 3 = pf) (y1 : Y cx x nL ret n pf L S G o1) (y2 : Y cx x nL ret n pt L S G o2) : Y cx x nL ret n pc L (vI a :: S) G (if a = 0 then o1 else o2) := by
  subst hp
  intro r G' ho hS hL hG H locs ls hP hV hl
  refine lv_if_ne F.1 F.2.1 d ht (fun h => ?_) (fun h => ?_)
  · have hc : ¬ (a = 0) := fun q => h ((o32_inj hS.1 zok).mpr q)
    rw [if_neg hc] at ho
    exact y2 r G' ho hS.2 hL hG H locs ls hP hV hl
  · have hc : a = 0 := (o32_inj hS.1 zok).mp h
    rw [if_pos hc] at ho
    exact y1 r G' ho hS.2 hL hG H locs ls hP hV hl
theorem x_iflt (F : Fx cx x own cc nL ret) {a off : Int} {pt pf : Nat} {o1 o2 : RT} (d : decode cc pc = .ok (.ifCond .lt off, 3)) (ht : (pc : Int) + off = (pt : Int)) (hp : pc + 3 = pf) (y1 : Y cx x nL ret n pt L S G o1) (y2 : Y cx x nL ret n pf L S G o2) : Y cx x nL ret n pc L (vI a :: S) G (if a < 0 then o1 else o2) := by
  subst hp
  intro r G' ho hS hL hG H locs ls hP hV hl
  refine lv_if_lt F.1 F.2.1 d ht (fun h => ?_) (fun h => ?_)
  · have hc : a < 0 := (o32_lt hS.1 zok).mp h
    rw [if_pos hc] at ho
    exact y1 r G' ho hS.2 hL hG H locs ls hP hV hl
  · have hc : ¬ (a < 0) := fun q => h ((o32_lt hS.1 zok).mpr q)
    rw [if_neg hc] at ho
    exact y2 r G' ho hS.2 hL hG H locs ls hP hV hl
theorem x_ifge (F : Fx cx x own cc nL ret) {a off : Int} {pt pf : Nat} {o1 o2 : RT} (d : decode cc pc = .ok (.ifCond .ge off, 3)) (ht : (pc : Int) + off = (pt : Int)) (hp : pc + 3 = pf) (y1 : Y cx x nL ret n pf L S G o1) (y2 : Y cx x nL ret n pt L S G o2) : Y cx x nL ret n pc L (vI a :: S) G (if a < 0 then o1 else o2) := by
  subst hp
  intro r G' ho hS hL hG H locs ls hP hV hl
  refine lv_if_ge F.1 F.2.1 d ht (fun h => ?_) (fun h => ?_)
  · have hc : ¬ (a < 0) := Int.not_lt.mpr ((o32_le zok hS.1).mp h)
    rw [if_neg hc] at ho
    exact y2 r G' ho hS.2 hL hG H locs ls hP hV hl
  · have hc : a < 0 := Int.not_le.mp (fun q => h ((o32_le zok hS.1).mpr q))
    rw [if_pos hc] at ho
    exact y1 r G' ho hS.2 hL hG H locs ls hP hV hl
theorem x_ifgt (F : Fx cx x own cc nL ret) {a off : Int} {pt pf : Nat} {o1 o2 : RT} (d : decode cc pc = .ok (.ifCond .gt off, 3)) (ht : (pc : Int) + off = (pt : Int)) (hp : pc + 3 = pf) (y1 : Y cx x nL ret n pt L S G o1) (y2 : Y cx x nL ret n pf L S G o2) : Y cx x nL ret n pc L (vI a :: S) G (if 0 < a then o1 else o2) := by
  subst hp
  intro r G' ho hS hL hG H locs ls hP hV hl
  refine lv_if_gt F.1 F.2.1 d ht (fun h => ?_) (fun h => ?_)
  · have hc : 0 < a := (o32_lt zok hS.1).mp h
    rw [if_pos hc] at ho
    exact y1 r G' ho hS.2 hL hG H locs ls hP hV hl
  · have hc : ¬ (0 < a) := fun q => h ((o32_lt zok hS.1).mpr q)
    rw [if_neg hc] at ho
    exact y2 r G' ho hS.2 hL hG H locs ls hP hV hl
theorem x_ifle (F : Fx cx x own cc nL ret) {a off : Int} {pt pf : Nat} {o1 o2 : RT} (d : decode cc pc = .ok (.ifCond .le off, 3)) (ht : (pc : Int) + off = (pt : Int)) (hp : pc + 3 = pf) (y1 : Y cx x nL ret n pf L S G o1) (y2 : Y cx x nL ret n pt L S G o2) : Y cx x nL ret n pc L (vI a :: S) G (if 0 < a then o1 else o2) := by
  subst hp
  intro r G' ho hS hL hG H locs ls hP hV hl
  refine lv_if_le F.1 F.2.1 d ht (fun h => ?_) (fun h => ?_)
  · have hc : ¬ (0 < a) := Int.not_lt.mpr ((o32_le hS.1 zok).mp h)
    rw [if_neg hc] at ho
    exact y2 r G' ho hS.2 hL hG H locs ls hP hV hl
  · have hc : 0 < a := Int.not_le.mp (fun q => h ((o32_le hS.1 zok).mpr q))
    rw [if_pos hc] at ho
    exact y1 r G' ho hS.2 hL hG H locs ls hP hV hl
theorem x_icmpeq (F : Fx cx x own cc nL ret) {a b off : Int} {pt pf : Nat} {o1 o2 : RT} (d : decode cc pc = .ok (.if_icmp .eq off, 3)) (ht : (pc : Int) + off = (pt : Int)) (hp : pc + 3 = pf) (y1 : Y cx x nL ret n pt L S G o1) (y2 : Y cx x nL ret n pf L S G o2) : Y cx x nL ret n pc L (vI b :: vI a :: S) G (if a = b then o1 else o2) := by
  subst hp
  intro r G' ho hS hL hG H locs ls hP hV hl
  refine lv_icmp_eq F.1 F.2.1 d ht (fun h => ?_) (fun h => ?_)
  · have hc : a = b := (o32_inj hS.2.1 hS.1).mp h
    rw [if_pos hc] at ho
    exact y1 r G' ho hS.2.2 hL hG H locs ls hP hV hl
  · have hc : ¬ (a = b) := fun q => h ((o32_inj hS.2.1 hS.1).mpr q)
    rw [if_neg hc] at ho
    exact y2 r G' ho hS.2.2 hL hG H locs ls hP hV hl
theorem x_icmpne (F : Fx cx x own cc nL ret) {a b off : Int} {pt pf : Nat} {o1 o2 : RT} (d : decode cc pc = .ok (.if_icmp .ne off, 3)) (ht : (pc : Int) + off = (pt : Int)) (hp : pc + 3 = pf) (y1 : Y cx x nL ret n pf L S G o1) (y2 : Y cx x nL ret n pt L S G o2) : Y cx x nL ret n pc L (vI b :: vI a :: S) G (if a = b then o1 else o2) := by
  subst hp
  intro r G' ho hS hL hG H locs ls hP hV hl
  refine lv_icmp_ne F.1 F.2.1 d ht (fun h => ?_) (fun h => ?_)
  · have hc : ¬ (a = b) := fun q => h ((o32_inj hS.2.1 hS.1).mpr q)
    rw [if_neg hc] at ho
    exact y2 r G' ho hS.2.2 hL hG H locs ls hP hV hl
  · have hc : a = b := (o32_inj hS.2.1 hS.1).mp h
    rw [if_pos hc] at ho
    exact y1 r G' ho hS.2.2 hL hG H locs ls hP hV hl
theorem x_icmplt (F : Fx cx x own cc nL ret) {a b off : Int} {pt pf : Nat} {o1 o2 : RT} (d : decode cc pc = .ok (.if_icmp .lt off, 3)) (ht : (pc : Int) + off = (pt : Int)) (hp : pc + 3 = pf) (y1 : Y cx x nL ret n pt L S G o1) (y2 : Y cx x nL ret n pf L S G o2) : Y cx x nL ret n pc L (vI b :: vI a :: S) G (if a < b then o1 else o2) := by
  subst hp
  intro r G' ho hS hL hG H locs ls hP hV hl
  refine lv_icmp_lt F.1 F.2.1 d ht (fun h => ?_) (fun h => ?_)
  · have hc : a < b := (o32_lt hS.2.1 hS.1).mp h
    rw [if_pos hc] at ho
    exact y1 r G' ho hS.2.2 hL hG H locs ls hP hV hl
  · have hc : ¬ (a < b) := fun q => h ((o32_lt hS.2.1 hS.1).mpr q)
    rw [if_neg hc] at ho
    exact y2 r G' ho hS.2.2 hL hG H locs ls hP hV hl
theorem x_icmpge (F : Fx cx x own cc nL ret) {a b off : Int} {pt pf : Nat} {o1 o2 : RT} (d : decode cc pc = .ok (.if_icmp .ge off, 3)) (ht : (pc : Int) + off = (pt : Int)) (hp : pc + 3 = pf) (y1 : Y cx x nL ret n pf L S G o1) (y2 : Y cx x nL ret n pt L S G o2) : Y cx x nL ret n pc L (vI b :: vI a :: S) G (if a < b then o1 else o2) := by
  subst hp
  intro r G' ho hS hL hG H locs ls hP hV hl
  refine lv_icmp_ge F.1 F.2.1 d ht (fun h => ?_) (fun h => ?_)
  · have hc : ¬ (a < b) := Int.not_lt.mpr ((o32_le hS.1 hS.2.1).mp h)
    rw [if_neg hc] at ho
    exact y2 r G' ho hS.2.2 hL hG H locs ls hP hV hl
  · have hc : a < b := Int.not_le.mp (fun q => h ((o32_le hS.1 hS.2.1).mpr q))
    rw [if_pos hc] at ho
    exact y1 r G' ho hS.2.2 hL hG H locs ls hP hV hl
theorem x_icmpgt (F : Fx cx x own cc nL ret) {a b off : Int} {pt pf : Nat} {o1 o2 : RT} (d : decode cc pc = .ok (.if_icmp .gt off, 3)) (ht : (pc : Int) + off = (pt : Int)) (hp : pc + 3 = pf) (y1 : Y cx x nL ret n pt L S G o1) (y2 : Y cx x nL ret n pf L S G o2) : Y cx x nL ret n pc L (vI b :: vI a :: S) G (if b < a then o1 else o2) := by
  subst hp
  intro r G' ho hS hL hG H locs ls hP hV hl
  refine lv_icmp_gt F.1 F.2.1 d ht (fun h => ?_) (fun h => ?_)
  · have hc : b < a := (o32_lt hS.1 hS.2.1).mp h
    rw [if_pos hc] at ho
    exact y1 r G' ho hS.2.2 hL hG H locs ls hP hV hl
  · have hc : ¬ (b < a) := fun q => h ((o32_lt hS.1 hS.2.1).mpr q)
    rw [if_neg hc] at ho
    exact y2 r G' ho hS.2.2 hL hG H locs ls hP hV hl
theorem x_icmple (F : Fx cx x own cc nL ret) {a b off : Int} {pt pf : Nat} {o1 o2 : RT} (d : decode cc pc = .ok (.if_icmp .le off, 3)) (ht : (pc : Int) + off = (pt : Int)) (hp : pc + 3 = pf) (y1 : Y cx x nL ret n pf L S G o1) (y2 : Y cx x nL ret n pt L S G o2) : Y cx x nL ret n pc L (vI b :: vI a :: S) G (if b < a then o1 else o2) := by
  subst hp
  intro r G' ho hS hL hG H locs ls hP hV hl
  refine lv_icmp_le F.1 F.2.1 d ht (fun h => ?_) (fun h => ?_)
  · have hc : ¬ (b < a) := Int.not_lt.mpr ((o32_le hS.2.1 hS.1).mp h)
    rw [if_neg hc] at ho
    exact y2 r G' ho hS.2.2 hL hG H locs ls hP hV hl
  · have hc : b < a := Int.not_le.mp (fun q => h ((o32_le hS.2.1 hS.1).mpr q))
    rw [if_pos hc] at ho
    exact y1 r G' ho hS.2.2 hL hG H locs ls hP hV hl
theorem x_tabIn (F : Fx cx x own cc nL ret) {a dflt lo hi off : Int} {offs : Array Int} {len : Nat} (d : decode cc pc = .ok (.tableswitch dflt lo hi offs, len)) (h1 : ¬ a < lo) (h2 : ¬ hi < a) (ho' : offs[(a - lo).toNat]? = some off) (hp : (pc : Int) + off = (pc' : Int)) (y : Y cx x nL ret n pc' L S G o) : Y cx x nL ret n pc L (vI a :: S) G o := by
  intro r G' ho hS hL hG H locs ls hP hV hl
  have e : (Int32.ofInt a).toInt = a := by rw [toInt_o32, w32_id hS.1]
  exact lv_tableIn F.1 F.2.1 d (by rw [e]; exact h1) (by rw [e]; exact h2) (by rw [e]; exact ho') hp (y r G' ho hS.2 hL hG H locs ls hP hV hl)
theorem x_tabOut (F : Fx cx x own cc nL ret) {a dflt lo hi : Int} {offs : Array Int} {len : Nat} (d : decode cc pc = .ok (.tableswitch dflt lo hi offs, len)) (h : a < lo ∨ hi < a) (hp : (pc : Int) + dflt = (pc' : Int)) (y : Y cx x nL ret n pc' L S G o) : Y cx x nL ret n pc L (vI a :: S) G o := by
  intro r G' ho hS hL hG H locs ls hP hV hl
  have e : (Int32.ofInt a).toInt = a := by rw [toInt_o32, w32_id hS.1]
  exact lv_tableOut F.1 F.2.1 d (by rw [e]; exact h) hp (y r G' ho hS.2 hL hG H locs ls hP hV hl)
theorem x_look (F : Fx cx x own cc nL ret) {a dflt off : Int} {ps : Array (Int × Int)} {len : Nat} (d : decode cc pc = .ok (.lookupswitch dflt ps, len)) (hq : (ps.toList.zip (ps.toList.drop 1)).all (fun (a, next) => a.1 < next.1) = true) (ho' : Op.lookupswitch.offset ps.toList dflt a = off) (hp : (pc : Int) + off = (pc' : Int)) (y : Y cx x nL ret n pc' L S G o) : Y cx x nL ret n pc L (vI a :: S) G o := by
  intro r G' ho hS hL hG H locs ls hP hV hl
  have e : (Int32.ofInt a).toInt = a := by rw [toInt_o32, w32_id hS.1]
  exact lv_lookup F.1 F.2.1 d hq (by rw [e]; exact ho') hp (y r G' ho hS.2 hL hG H locs ls hP hV hl)
end ROWS
