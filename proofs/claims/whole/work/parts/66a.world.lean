/-! THE WORLD: all that both sides hold -/
section WLDS
variable {b : Nat} {a : AS} {G : Hp} {T : TT}
abbrev MK : Type := (Nat → Int) × (Nat → AS) × (Nat → SE)
def XM (k : MK) (G : Hp) : Prop := (∀ m, m < 4 → G 82 m = k.1 m ∧ (k.1 m = 1 → XA (83 + 7 * m) (k.2.1 m) G ∧ XS (85 + 7 * m) (k.2.2 m) G)) ∧ (∀ i, i < 8 → G 42 i = 0 ∨ G 42 i = 1) ∧ ∀ m, m < 4 → ∀ i, i < 8 → G (88 + 7 * m) i = 0 ∨ G (88 + 7 * m) i = 1
def MM (k : MK) (G : Hp) : Prop := ∀ m, m < 4 → G 124 m = k.1 m ∧ (k.1 m = 1 → MR (155 * (1 + m)) (k.2.1 m) G ∧ MSe (155 * (1 + m)) (k.2.2 m) G)
def WM (T : TT) (k : MK) : Prop := ∀ m, m < 4 → (k.1 m = 0 ∨ k.1 m = 1) ∧ (k.1 m = 1 → WA T (k.2.1 m) ∧ WS T (k.2.2 m))
abbrev WLD : Type := AS × UD × SE × WK × MK
def CW (T : TT) (W : WLD) (G : Hp) : Prop := XT T G ∧ XA 27 W.1 G ∧ (∃ nx, XP nx W.2.1 G) ∧ XS 39 W.2.2.1 G ∧ XW 19 W.2.2.2.1 G ∧ XM W.2.2.2.2 G
def RW (T : TT) (W : WLD) (G : Hp) : Prop := MT T G ∧ MR 0 W.1 G ∧ MP W.2.1 G ∧ MSe 0 W.2.2.1 G ∧ MW W.2.2.2.1 G ∧ MM W.2.2.2.2 G
def OW (T : TT) (W : WLD) : Prop := WT T ∧ WA T W.1 ∧ WU T W.2.1 ∧ WS T W.2.2.1 ∧ WW T W.2.2.2.1 ∧ WM T W.2.2.2.2 ∧ W.2.1.1 ≤ 16
/-- what asking leaves, on the class's side -/
def FCQ (G G' : Hp) : Prop := ∀ c, c ≠ 27 → c ≠ 28 → c ≠ 29 → c ≠ 30 → c ≠ 32 → c ≠ 34 → c ≠ 35 → c ≠ 36 → c ≠ 37 → c ≠ 38 → c ≠ 43 → G' c = G c
theorem FCQ.rf (G : Hp) : FCQ G G := fun _ _ _ _ _ _ _ _ _ _ _ _ => rfl
theorem FCQ.oT {G' : Hp} (h : FT G G') : FCQ G G' := fun c x1 x2 x3 x4 x5 x6 x7 x8 x9 x10 _ => h c x1 x2 x3 x4 x5 x6 x7 x8 x9 x10
theorem FCQ.oQ {G' : Hp} (h : FQ G G') : FCQ G G' := fun c _ _ x3 x4 _ _ _ _ _ _ x11 => h c x3 x4 x11
theorem FCQ.at {G' : Hp} (h : FCQ G G') {c : Nat} (hc : c < 27 ∨ 43 < c ∨ c = 31 ∨ c = 33 ∨ (39 ≤ c ∧ c < 43)) : G' c = G c := h c (by omega) (by omega) (by omega) (by omega) (by omega) (by omega) (by omega) (by omega) (by omega) (by omega) (by omega)
theorem XS.fr {q : Nat} {S : SE} {G' : Hp} (k : XS q S G) (h : ∀ c, q ≤ c → c ≤ q + 3 → G' c = G c) : XS q S G' := by
  unfold XS; rw [h q (by omega) (by omega), h (q + 1) (by omega) (by omega), h (q + 2) (by omega) (by omega), h (q + 3) (by omega) (by omega)]; exact k
theorem XW.fr {q : Nat} {S : WK} {G' : Hp} (k : XW q S G) (h : ∀ c, q ≤ c → c ≤ q + 3 → G' c = G c) : XW q S G' := by
  unfold XW; rw [h q (by omega) (by omega), h (q + 1) (by omega) (by omega), h (q + 2) (by omega) (by omega), h (q + 3) (by omega) (by omega)]; exact k
theorem XM.fr {S : MK} {G' : Hp} (k : XM S G) (h : ∀ c, (82 ≤ c ∧ c ≤ 110) ∨ c = 42 → G' c = G c) : XM S G' := by
  refine ⟨fun m hm => ⟨by rw [h 82 (by omega)]; exact (k.1 m hm).1, fun z => ?_⟩, fun i hi => by rw [h 42 (by omega)]; exact k.2.1 i hi, fun m hm i hi => by rw [h (88 + 7 * m) (by omega)]; exact k.2.2 m hm i hi⟩
  have q := (k.1 m hm).2 z
  exact ⟨q.1.same (fun c hc => h c (by omega)), q.2.fr (fun c h1 h2 => h c (by omega))⟩
theorem MSe.lo {S : SE} {G' : Hp} (w : S.1 ≤ 8) (k : MSe b S G) (hb : b + 155 ≤ 3255) (h : ∀ i, b ≤ i → i < b + 155 → G' 123 i = G 123 i) : MSe b S G' := by
  refine ⟨by rw [h _ (by omega) (by omega)]; exact k.1, fun i i1 i2 => ?_⟩
  have q := k.2 i i1 i2
  rw [h _ (by omega) (by omega), h _ (by omega) (by omega), h _ (by omega) (by omega)]; exact q
theorem MR.lo2 {G' : Hp} (k : MR b a G) (h : ∀ i, b ≤ i → i < b + 130 → G' 123 i = G 123 i) : MR b a G' := fun i hi => by rw [h _ (by omega) (by omega)]; exact k i hi
theorem MM.fr {S : MK} {G' : Hp} (w : WM T S) (k : MM S G) (h1 : G' 124 = G 124) (h : ∀ i, 155 ≤ i → i < 775 → G' 123 i = G 123 i) : MM S G' := by
  intro m hm
  refine ⟨by rw [h1]; exact (k m hm).1, fun z => ?_⟩
  have q := (k m hm).2 z
  have v := ((w m hm).2 z).2.1.2
  exact ⟨q.1.lo2 (fun i x y => h i (by omega) (by omega)), q.2.lo v (by omega) (fun i x y => h i (by omega) (by omega))⟩
theorem MW.fr {S : WK} {G' : Hp} (k : MW S G) (h : G' 120 = G 120) : MW S G' := by unfold MW; rw [h]; exact k
theorem CW.q {W : WLD} {G' : Hp} (h : CW T W G) (f : FCQ G G') (x : XA 27 W.1 G') : CW T W G' := by
  obtain ⟨h1, h2, ⟨nx, h3⟩, h4, h5, h6⟩ := h
  exact ⟨h1.fr (f.at (by omega)) (f.at (by omega)) (f.at (by omega)) (f.at (by omega)), x, ⟨nx, h3.fr (fun c _ _ hc => f.at (by omega))⟩, h4.fr (fun c x y => f.at (by omega)), h5.fr (fun c x y => f.at (by omega)), h6.fr (fun c x => f.at (by omega))⟩
theorem RW.q {W : WLD} {G' : Hp} (o : OW T W) (h : RW T W G) (f : FRS G G') : RW T W G' := by
  obtain ⟨h1, h2, h3, h4, h5, h6⟩ := h
  have c : ∀ {c : Nat}, (c < 111 ∨ (111 < c ∧ c < 123) ∨ c = 124 ∨ c = 125 ∨ 128 < c) → G' c = G c := fun hc => f.1 _ (by omega) (by omega) (by omega) (by omega) (by omega)
  exact ⟨f.t h1, h2.lo2 (fun i _ _ => f.2.2 i (by omega)), h3.fr (f.2.1 18 (by decide) (by decide) (by decide)) (fun i _ x => f.2.2 i x), h4.lo o.2.2.2.1.1.2 (by omega) (fun i _ x => f.2.2 i (by omega)), h5.fr (c (by omega)), MM.fr o.2.2.2.2.2.1 h6 (c (by omega)) (fun i _ x => f.2.2 i (by omega))⟩
/-- cell 129 is nobody's here -/
def E9 (G G' : Hp) : Prop := ∀ c, c ≠ 129 → G' c = G c
theorem CW.e {W : WLD} {G' : Hp} (h : CW T W G) (f : ∀ c, c < 111 → G' c = G c) : CW T W G' := by
  obtain ⟨h1, h2, ⟨nx, h3⟩, h4, h5, h6⟩ := h
  exact ⟨h1.fr (f _ (by omega)) (f _ (by omega)) (f _ (by omega)) (f _ (by omega)), h2.fr (f _ (by omega)) (f _ (by omega)), ⟨nx, h3.fr (fun c _ _ hc => f _ (by omega))⟩, h4.fr (fun c x y => f _ (by omega)), h5.fr (fun c x y => f _ (by omega)), h6.fr (fun c x => f _ (by omega))⟩
theorem RW.e {W : WLD} {G' : Hp} (o : OW T W) (h : RW T W G) (f : ∀ c, 111 ≤ c → c < 129 → G' c = G c) : RW T W G' := by
  obtain ⟨h1, h2, h3, h4, h5, h6⟩ := h
  have e := f 123 (by omega) (by omega)
  exact ⟨h1.fr (f _ (by omega) (by omega)) (f _ (by omega) (by omega)), h2.fr e, h3.fr (by rw [f 111 (by omega) (by omega)]) (fun i _ _ => by rw [e]), h4.fr e, h5.fr (f _ (by omega) (by omega)), MM.fr o.2.2.2.2.2.1 h6 (f _ (by omega) (by omega)) (fun i _ _ => by rw [e])⟩
/-- the tape, and the names, are the reader's: `P` tells them, and asks for these cells alone -/
def TPK (P : TT → Hp → Prop) : Prop := ∀ T G G', (∀ c, c ≤ 26 → c ≠ 19 → c ≠ 20 → c ≠ 21 → c ≠ 22 → G' c = G c) → G' 112 = G 112 → G' 116 = G 116 → G' 117 = G 117 → G' 119 = G 119 → G' 111 2 = G 111 2 → P T G → P T G'
def Inv (P : TT → Hp → Prop) (G : Hp) : Prop := ∃ T W, OW T W ∧ CW T W G ∧ RW T W G ∧ P T G
/-- a call on the class's side, and on the reference's -/
def SX (T : TT) (f : Hp → RT) (W W' : WLD) (A : Int → Prop) : Prop := ∀ G, CW T W G → WP (f G) (fun r G' => A r ∧ CW T W' G' ∧ (∀ c, 111 ≤ c → G' c = G c) ∧ (∀ c, c ≤ 26 → G' c = G c))
def SM (T : TT) (g : Hp → RT) (W W' : WLD) (A : Int → Prop) : Prop := ∀ G, RW T W G → WP (g G) (fun r G' => A r ∧ RW T W' G' ∧ (∀ c, c < 111 → G' c = G c) ∧ G' 112 = G 112 ∧ G' 116 = G 116 ∧ G' 117 = G 117 ∧ G' 119 = G 119 ∧ G' 111 2 = G 111 2)
theorem mg_wp {o : RT} {Q : Int → Hp → Prop} (h : WP o Q) : WP (mg G o) (fun r G' => ∃ G0, Q r G0 ∧ ∀ c, c < 129 → G' c = G0 c) := by
  obtain ⟨r, g, h1, h2⟩ := h
  refine ⟨r, mrg g G, by unfold mg; rw [h1], g, h2, fun c hc => ?_⟩
  unfold mrg; rw [if_pos hc]
theorem step2 {P : TT → Hp → Prop} (hP : TPK P) {f g : Hp → RT} {K : Hp → RT} {Q : Int → Hp → Prop} (hI : Inv P G) (hs : ∀ T W, OW T W → ∃ W' A, OW T W' ∧ (∀ r r', A r → A r' → r = r') ∧ SX T f W W' A ∧ SM T g W W' A) (hK : ∀ G', Inv P G' → WP (K G') Q) : WP (bn (mg G (f G)) fun v G1 => bn (mg G1 (g G1)) fun v' G3 => if v = v' then K G3 else rz 0 G3) Q := by
  obtain ⟨T, W, o, c, r, p⟩ := hI
  obtain ⟨W', A, o', u, sx, sm⟩ := hs T W o
  refine w_bn (mg_wp (sx G c)) (fun v G1 q => ?_)
  obtain ⟨G0, ⟨a1, c1, k1, k2⟩, e1⟩ := q
  have r1 : RW T W G1 := r.e o (fun c x y => by rw [e1 c (by omega), k1 c x])
  refine w_bn (mg_wp (sm G1 r1)) (fun v' G3 q => ?_)
  obtain ⟨G2, ⟨a2, r2, m1, m2, m3, m4, m5, m6⟩, e2⟩ := q
  rw [if_pos (u v v' a1 a2)]
  refine hK G3 ⟨T, W', o', c1.e (fun c x => by rw [e2 c (by omega), m1 c x, e1 c (by omega)]), r2.e o' (fun c x y => e2 c (by omega)), hP T G G3 (fun c x _ _ _ _ => by rw [e2 c (by omega), m1 c (by omega), e1 c (by omega), k2 c x]) ?_ ?_ ?_ ?_ ?_ p⟩
  · rw [e2 112 (by decide), m2, e1 112 (by decide), k1 112 (by decide)]
  · rw [e2 116 (by decide), m3, e1 116 (by decide), k1 116 (by decide)]
  · rw [e2 117 (by decide), m4, e1 117 (by decide), k1 117 (by decide)]
  · rw [e2 119 (by decide), m5, e1 119 (by decide), k1 119 (by decide)]
  · rw [e2 111 (by decide), m6, e1 111 (by decide), k1 111 (by decide)]
/-- asking -/
theorem SX_q {f : Hp → RT} {W : WLD} {A : Int → Prop} (h : ∀ G, CW T W G → WP (f G) (fun r G' => FCQ G G' ∧ XA 27 W.1 G' ∧ A r)) : SX T f W W A := fun G c => (h G c).mono (fun r G' q => ⟨q.2.2, c.q q.1 q.2.1, fun c x => q.1.at (by omega), fun c x => q.1.at (by omega)⟩)
theorem SM_q {g : Hp → RT} {W : WLD} {A : Int → Prop} (o : OW T W) (h : ∀ G, RW T W G → WP (g G) (fun r G' => FRS G G' ∧ A r)) : SM T g W W A := fun G c => (h G c).mono (fun r G' q => ⟨q.2, RW.q o c q.1, fun c x => q.1.1 c (by omega) (by omega) (by omega) (by omega) (by omega), q.1.1 112 (by decide) (by decide) (by decide) (by decide) (by decide), q.1.1 116 (by decide) (by decide) (by decide) (by decide) (by decide), q.1.1 117 (by decide) (by decide) (by decide) (by decide) (by decide), q.1.1 119 (by decide) (by decide) (by decide) (by decide) (by decide), q.1.2.1 2 (by decide) (by decide) (by decide)⟩)
theorem eqA {r0 : Int} : ∀ r r' : Int, r = r0 → r' = r0 → r = r' := fun _ _ x y => x.trans y.symm
theorem rdC_in {sn : Nat} {sc : Nat → Int} {i j : Int} (h1 : 0 ≤ i) (h2 : i + 7 ≤ sn) (h3 : sn ≤ 3584) (h4 : 0 ≤ j) (h5 : j ≤ 6) : rdC sn sc (iadd i j) = some (sc (i + j).toNat) := by
  rw [iadd_id (by omega) (by omega)]; unfold rdC; rw [if_pos ⟨by omega, by omega⟩]
end WLDS
