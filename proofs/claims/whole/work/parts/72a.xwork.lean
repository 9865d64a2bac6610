/-! READING A WORK: what a line comes to; the class -/
section WKA
variable {S : TS} {G : Hp} {n : Nat}
/-- the names told: nodes', how many, keys', how many -/
abbrev NP : Type := (Nat → Int) × Nat × (Nat → Int) × Nat
abbrev EW : Type := Nat × (Nat → Int) × (Nat → Int) × (Nat → Int)
def XNm (P : NP) (G : Hp) : Prop := G 4 2 = (P.2.1 : Int) ∧ G 4 3 = (P.2.2.2 : Int) ∧ (∀ i : Nat, i < P.2.1 → NmR (G 7 i) (P.1 i)) ∧ ∀ i : Nat, i < P.2.2.2 → NmR (G 10 i) (P.2.2.1 i)
def MNm (P : NP) (G : Hp) : Prop := G 117 2 = (P.2.1 : Int) ∧ G 117 3 = (P.2.2.2 : Int) ∧ (∀ i : Nat, i < P.2.1 → G 119 i = P.1 i) ∧ ∀ i : Nat, i < P.2.2.2 → G 119 (8 + i) = P.2.2.1 i
def UNm (P : NP) : Prop := P.2.1 ≤ 8 ∧ P.2.2.2 ≤ 10 ∧ (∀ i j : Nat, i < P.2.1 → j < P.2.1 → P.1 i = P.1 j → i = j) ∧ ∀ i j : Nat, i < P.2.2.2 → j < P.2.2.2 → P.2.2.1 i = P.2.2.1 j → i = j
noncomputable def nmF (t : Nat → Int) (N : Nat) (S : TS) (j : Nat) : Int := cif (isN S j) (if lastW t (yv S j) N = -1 then flt S 2 j else 0) (flt S 1 j)
noncomputable def nmV (t : Nat → Int) (N : Nat) (S : TS) (j : Nat) : Int := lastW t (yv S j) N
theorem nmF_r (w : WTp S) {t : Nat → Int} {N j : Nat} (h : nmF t N S j = 0) : isN S j ∧ 0 ≤ nmV t N S j ∧ nmV t N S j < N := by
  have l1 := flt_r w (k := 1) (j := j) (by decide)
  have l2 := flt_r w (k := 2) (j := j) (by decide)
  unfold nmF at h
  by_cases c : isN S j
  · rw [cif_t c] at h
    refine ⟨c, ?_⟩
    unfold nmV
    rcases lastW_r (t := t) (x := yv S j) N with ⟨h1, h2⟩ | ⟨k, h1, h2, h3⟩
    · rw [if_pos h1] at h; omega
    · omega
  · rw [cif_f c] at h; omega
theorem lastW_u {t : Nat → Int} {N i : Nat} {x : Int} (u : ∀ i j : Nat, i < N → j < N → t i = t j → i = j) (hi : i < N) (e : t i = x) : lastW t x N = i := by
  rcases lastW_r (t := t) (x := x) N with ⟨h1, h2⟩ | ⟨k, h1, h2, h3⟩
  · exact absurd e (h2 i hi)
  · have := u i k hi h1 (e.trans h3.symm)
    rw [h2, this]
theorem lastW_no {t : Nat → Int} {N : Nat} {x : Int} (h : ∀ i : Nat, i < N → t i ≠ x) : lastW t x N = -1 := by
  rcases lastW_r (t := t) (x := x) N with ⟨h1, h2⟩ | ⟨k, h1, h2, h3⟩
  · exact h1
  · exact absurd h3 (h k h1)
theorem x_rdNam {P : NP} {j : Nat} {z : Int} {t : Nat → Int} {N : Nat} (w : WTp S) (h : XJ S j 0 G) (xn : XNm P G) (u : UNm P) (hz : (z = 0 ∧ t = P.1 ∧ N = P.2.1) ∨ (z ≠ 0 ∧ t = P.2.2.1 ∧ N = P.2.2.2)) : WP (fX10_readName 1 4 z G) (fun r G' => FX8 G G' ∧ ((nmF t N S j = 0 ∧ r = nmV t N S j ∧ XJ S (j + 1) 0 G') ∨ (nmF t N S j ≠ 0 ∧ r = -1 ∧ G' 1 8 = nmF t N S j))) := by
  have l1 := flt_r w (k := 1) (j := j) (by decide)
  have l2 := flt_r w (k := 2) (j := j) (by decide)
  obtain ⟨x1, x2, x3, x4⟩ := xn
  obtain ⟨u1, u2, u3, u4⟩ := u
  unfold fX10_readName
  rw [x_isNam h, bp_s]
  by_cases hn : isN S j
  · have hn' : yk S j = 2 ∧ (yw S j < 0 ∨ 22 ≤ yw S j) := hn
    rw [if_pos hn', if_neg (by decide)]
    have e7 : G 1 7 = yl S j := (x_wix h hn.1).2
    refine w_jnP (fun K3 hK => ?_)
    have no : lastW t (yv S j) N = -1 → ∀ v, v = -1 → WP (K3 v) (fun r G' => FX8 G G' ∧ ((nmF t N S j = 0 ∧ r = nmV t N S j ∧ XJ S (j + 1) 0 G') ∨ (nmF t N S j ≠ 0 ∧ r = -1 ∧ G' 1 8 = nmF t N S j))) := by
      intro e v hv
      have ez : nmF t N S j = flt S 2 j := by unfold nmF; rw [cif_t hn, if_pos e]
      rw [hK]
      refine w_bd (fun v4 e4 => ?_)
      refine w_ite (fun _ => ?_) (fun y => absurd (by omega) y)
      exact w_bn (x_wr5 w h (by decide) (by decide)) (fun v g q => w_rt ⟨q.2.1, Or.inr ⟨by omega, rfl, by rw [ez]; exact q.2.2⟩⟩)
    have yes : ∀ i : Nat, lastW t (yv S j) N = i → ∀ v, v = (i : Int) → WP (K3 v) (fun r G' => FX8 G G' ∧ ((nmF t N S j = 0 ∧ r = nmV t N S j ∧ XJ S (j + 1) 0 G') ∨ (nmF t N S j ≠ 0 ∧ r = -1 ∧ G' 1 8 = nmF t N S j))) := by
      intro i e v hv
      have ez : nmF t N S j = 0 := by unfold nmF; rw [cif_t hn, if_neg (by omega)]
      rw [hK]
      refine w_bd (fun v4 e4 => ?_)
      refine w_ite (fun y => by omega) (fun _ => ?_)
      exact w_bn (x_stp w h) (fun _ g q => w_rt ⟨q.1, Or.inl ⟨ez, by unfold nmV; omega, q.2⟩⟩)
    rcases hz with ⟨z0, rfl, rfl⟩ | ⟨z0, rfl, rfl⟩
    · refine w_ite (fun _ => ?_) (fun y => absurd z0 y)
      refine w_bpq (x_nodeNm (q := 4) rf_4_6 u1 x1) (fun v9 _ q => ?_)
      rw [e7] at q
      rcases q.2 with ⟨a, b⟩ | ⟨i, a, b, c⟩
      · refine no (lastW_no (fun i hi e => b i hi ?_)) v9 a
        exact (nm_eq (x3 i hi) (tok_nm hn.1)).mpr e
      · refine yes i (lastW_u u3 a ?_) v9 b
        exact (nm_eq (x3 i a) (tok_nm hn.1)).mp c
    · refine w_ite (fun y => absurd y z0) (fun _ => ?_)
      refine w_bpq (x_keyNm (q := 4) rf_4_9 u2 x2) (fun v9 _ q => ?_)
      rw [e7] at q
      rcases q.2 with ⟨a, b⟩ | ⟨i, a, b, c⟩
      · refine no (lastW_no (fun i hi e => b i hi ?_)) v9 a
        exact (nm_eq (x4 i hi) (tok_nm hn.1)).mpr e
      · refine yes i (lastW_u u4 a ?_) v9 b
        exact (nm_eq (x4 i a) (tok_nm hn.1)).mp c
  · have hn' : ¬ (yk S j = 2 ∧ (yw S j < 0 ∨ 22 ≤ yw S j)) := hn
    rw [if_neg hn', if_pos rfl]
    have ez : nmF t N S j = flt S 1 j := by unfold nmF; rw [cif_f hn]
    exact w_bn (x_wr5 w h (by decide) (by decide)) (fun v g q => w_rt ⟨q.2.1, Or.inr ⟨by omega, rfl, by rw [ez]; exact q.2.2⟩⟩)
/-! a line -/
noncomputable def wA (P : NP) (S : TS) (j : Nat) : Int := if yw S j = 13 then nmV P.2.2.1 P.2.2.2 S (j + 1) else nmV P.1 P.2.1 S (j + 1)
noncomputable def wAF (P : NP) (S : TS) (j : Nat) : Int := if yw S j = 13 then nmF P.2.2.1 P.2.2.2 S (j + 1) else nmF P.1 P.2.1 S (j + 1)
noncomputable def wB (P : NP) (S : TS) (j : Nat) : Int := if yw S j = 12 then yv S (j + 2) else if yw S j = 7 ∨ yw S j = 13 then nmV P.1 P.2.1 S (j + 2) else -1
noncomputable def wBF (P : NP) (S : TS) (j : Nat) : Int := if yw S j = 12 then nuR S 0 7 (j + 2) else if yw S j = 7 ∨ yw S j = 13 then nmF P.1 P.2.1 S (j + 2) else 0
noncomputable def wJ (S : TS) (j : Nat) : Nat := if yw S j = 12 then j + 3 else if yw S j = 7 ∨ yw S j = 13 then j + 3 else j + 2
noncomputable def wkT (P : NP) (S : TS) (m j : Nat) : Int := if yk S j = 2 ∧ 6 ≤ yw S j ∧ yw S j ≤ 14 then (if m = 40 then flt S 5 j else orF (wAF P S j) (orF (wBF P S j) (sgR S 59 (wJ S j)))) else flt S 1 j
noncomputable def wkE (P : NP) (S : TS) (E : EW) (j : Nat) : EW := (E.1 + 1, fun i => if i = E.1 then yw S j - 6 else E.2.1 i, fun i => if i = E.1 then wA P S j else E.2.2.1 i, fun i => if i = E.1 then wB P S j else E.2.2.2 i)
def XE (E : EW) (G : Hp) : Prop := G 23 3 = (E.1 : Int) ∧ ∀ i : Nat, i < E.1 → G 24 i = E.2.1 i + 6 ∧ G 25 i = E.2.2.1 i ∧ G 26 i = E.2.2.2 i
def WE (P : NP) (E : EW) : Prop := E.1 ≤ 40 ∧ ∀ i : Nat, i < E.1 → (0 ≤ E.2.1 i ∧ E.2.1 i ≤ 8) ∧ (E.2.1 i ≠ 7 → 0 ≤ E.2.2.1 i ∧ E.2.2.1 i < P.2.1) ∧ (E.2.1 i = 7 → 0 ≤ E.2.2.1 i ∧ E.2.2.1 i < P.2.2.2) ∧ (E.2.1 i = 1 ∨ E.2.1 i = 7 → E.2.2.2 i < P.2.1)
def FW (G G' : Hp) : Prop := (∀ c, c ≠ 1 → c < 23 ∨ 26 < c → G' c = G c) ∧ ∀ k, k < 2 ∨ k = 3 ∨ 8 < k → G' 1 k = G 1 k
theorem FW.rf (G : Hp) : FW G G := ⟨fun _ _ _ => rfl, fun _ _ => rfl⟩
theorem FW.o8 {G' : Hp} (h : FX8 G G') : FW G G' := ⟨fun c x _ => h.1 c x, h.2⟩
theorem FW.tr {G1 G2 : Hp} (h : FW G G1) (h' : FW G1 G2) : FW G G2 := ⟨fun c x y => (h'.1 c x y).trans (h.1 c x y), fun k x => (h'.2 k x).trans (h.2 k x)⟩
theorem FWu {g g' : Hp} {c k : Nat} {v : Int} (h : FW G g) (e : g' = up g c k v) (hc : 23 ≤ c ∧ c ≤ 26) : FW G g' := by
  rw [e]
  refine h.tr ⟨fun d x y => up_ne (by omega), fun j _ => by rw [up_ne (by omega)]⟩
theorem XNm.fr {P : NP} {G' : Hp} (h : XNm P G) (f : FW G G') : XNm P G' := by
  unfold XNm
  rw [f.1 4 (by omega) (by omega), f.1 7 (by omega) (by omega), f.1 10 (by omega) (by omega)]
  exact h
theorem x_wline {P : NP} {E : EW} {j : Nat} (w : WTp S) (h : XJ S j 0 G) (xn : XNm P G) (u : UNm P) (xe : XE E G) (we : WE P E) : WP (fX10_readLine 23 1 4 G) (fun v G' => FW G G' ∧ ((wkT P S E.1 j = 0 ∧ v = 1 ∧ XJ S (wJ S j + 1) 0 G' ∧ XE (wkE P S E j) G') ∨ (wkT P S E.1 j ≠ 0 ∧ v = 0 ∧ G' 1 8 = wkT P S E.1 j))) := by
  have l1 := flt_r w (k := 1) (j := j) (by decide)
  have l5 := flt_r w (k := 5) (j := j) (by decide)
  have w40 := we.1
  unfold fX10_readLine
  rw [rf_23_0, rf_23_1, rf_23_2, x_isWrd h, bp_s]
  by_cases c : yk S j = 2 ∧ 6 ≤ yw S j ∧ yw S j ≤ 14
  · rw [if_pos c, if_neg (by decide)]
    refine w_bd (fun v2 e2 => ?_)
    rw [xe.1] at e2
    refine w_ite (fun c4 => ?_) (fun c4 => ?_)
    · have eT : wkT P S E.1 j = orF (wAF P S j) (orF (wBF P S j) (sgR S 59 (wJ S j))) := by unfold wkT; rw [if_pos c, if_neg (by omega)]
      refine w_bd (fun v3 e3 => ?_)
      rw [(x_wix h c.1).1] at e3
      refine w_bn (x_stp w h) (fun _ g4 q4 => ?_)
      refine w_wr (by omega) (by omega) (fun g5 e5 => ?_)
      rw [e2, Int.toNat_natCast, e3] at e5
      have F5 : FW G g5 := FWu (FW.o8 q4.1) e5 (by omega)
      have x5 : XJ S (j + 1) 0 g5 := q4.2.fr (by rw [e5, up_ne (by decide)]) (by rw [e5, up_ne (by decide)]) (by rw [e5, up_ne (by decide)])
      refine w_jnP (fun K7 hK7 => ?_)
      have main : ∀ (z : Int) (t : Nat → Int) (N : Nat), ((z = 0 ∧ t = P.1 ∧ N = P.2.1) ∨ (z ≠ 0 ∧ t = P.2.2.1 ∧ N = P.2.2.2)) → wAF P S j = nmF t N S (j + 1) → wA P S j = nmV t N S (j + 1) → WP (K7 z) (fun v G' => FW G G' ∧ ((wkT P S E.1 j = 0 ∧ v = 1 ∧ XJ S (wJ S j + 1) 0 G' ∧ XE (wkE P S E j) G') ∨ (wkT P S E.1 j ≠ 0 ∧ v = 0 ∧ G' 1 8 = wkT P S E.1 j))) := by
        intro z t N hz eAF eA
        rw [hK7]
        refine w_bn (x_rdNam w x5 (xn.fr F5) u hz) (fun v8 g9 q9 => ?_)
        refine w_wr (by omega) (by omega) (fun g10 e10 => ?_)
        refine w_wr (by omega) (by omega) (fun g11 e11 => ?_)
        rw [e2, Int.toNat_natCast] at e10 e11
        have F9 := F5.tr (FW.o8 q9.1)
        have F11 : FW G g11 := FWu (FWu F9 e10 (by omega)) e11 (by omega)
        have k11 : ∀ c, c ≠ 25 → c ≠ 26 → g11 c = g9 c := fun c a b => by rw [e11, up_ne b, e10, up_ne a]
        refine w_jnP (fun K13 hK13 => ?_)
        have finF : ∀ g, FW G g → wkT P S E.1 j ≠ 0 → g 1 8 = wkT P S E.1 j → WP (K13 g) (fun v G' => FW G G' ∧ ((wkT P S E.1 j = 0 ∧ v = 1 ∧ XJ S (wJ S j + 1) 0 G' ∧ XE (wkE P S E j) G') ∨ (wkT P S E.1 j ≠ 0 ∧ v = 0 ∧ G' 1 8 = wkT P S E.1 j))) := by
          intro g fg ne e8
          rw [hK13]
          exact w_ite (fun y => absurd (e8.symm.trans y) ne) (fun _ => w_rz (Or.inl rfl) ⟨fg, Or.inr ⟨ne, rfl, e8⟩⟩)
        have fin : ∀ g, FW G g → wAF P S j = 0 → wBF P S j = 0 → XJ S (wJ S j) 0 g → g 24 = g5 24 → g 25 E.1 = wA P S j → (∀ i, i ≠ E.1 → g 25 i = G 25 i) → g 26 E.1 = wB P S j → (∀ i, i ≠ E.1 → g 26 i = G 26 i) → WP (K13 g) (fun v G' => FW G G' ∧ ((wkT P S E.1 j = 0 ∧ v = 1 ∧ XJ S (wJ S j + 1) 0 G' ∧ XE (wkE P S E j) G') ∨ (wkT P S E.1 j ≠ 0 ∧ v = 0 ∧ G' 1 8 = wkT P S E.1 j))) := by
          intro g fg a0 b0 xg y24 y25 y25' y26 y26'
          rw [a0, b0, orF_0, orF_0] at eT
          rw [hK13]
          refine w_ite (fun _ => ?_) (fun y => absurd xg.2.2.2 y)
          refine w_bn (x_tSg w xg 59) (fun v14 g15 q15 => ?_)
          rcases q15.2 with ⟨b1, b2, b3⟩ | ⟨b1, b2, b3⟩
          · refine w_ite (fun y => by omega) (fun _ => ?_)
            refine w_bh (fun g16 e16 => ?_)
            rw [iadd_id (by omega) (by omega)] at e16
            have k16 : ∀ c, c ≠ 23 → c ≠ 1 → g16 c = g c := fun c a b => by rw [e16, up_ne a, q15.1.1 c b]
            refine w_rz (Or.inr rfl) ⟨FWu (fg.tr (FW.o8 q15.1)) e16 (by omega), Or.inl ⟨by rw [eT]; exact b1, rfl, b3.fr (by rw [e16, up_ne (by decide)]) (by rw [e16, up_ne (by decide)]) (by rw [e16, up_ne (by decide)]), ?_, fun i hi => ?_⟩⟩
            · rw [e16, up_at, if_pos ⟨rfl, rfl⟩, e2]; rfl
            · have hi' : i < E.1 + 1 := hi
              rw [k16 24 (by decide) (by decide), k16 25 (by decide) (by decide), k16 26 (by decide) (by decide), y24]
              show g5 24 i = (if i = E.1 then yw S j - 6 else E.2.1 i) + 6 ∧ g 25 i = (if i = E.1 then wA P S j else E.2.2.1 i) ∧ g 26 i = (if i = E.1 then wB P S j else E.2.2.2 i)
              by_cases ei : i = E.1
              · rw [if_pos ei, if_pos ei, if_pos ei, ei]
                refine ⟨?_, y25, y26⟩
                rw [e5, up_at, if_pos ⟨rfl, rfl⟩]; omega
              · rw [if_neg ei, if_neg ei, if_neg ei, y25' i ei, y26' i ei]
                have q := xe.2 i (by omega)
                refine ⟨?_, q.2.1, q.2.2⟩
                rw [e5, up_at, if_neg (fun y => ei y.2), q4.1.1 24 (by decide)]; exact q.1
          · exact w_ite (fun _ => w_rz (Or.inl rfl) ⟨fg.tr (FW.o8 q15.1), Or.inr ⟨by rw [eT]; exact b1, rfl, by rw [eT]; exact b3⟩⟩) (fun y => absurd b2 y)
        refine w_jnP (fun K17 hK17 => ?_)
        rcases q9.2 with ⟨a1, a2, a3⟩ | ⟨a1, a2, a3⟩
        · have aF : wAF P S j = 0 := eAF.trans a1
          have eT' := eT
          rw [aF, orF_0] at eT'
          have x11' : XJ S (j + 1 + 1) 0 g11 := a3.fr (k11 1 (by decide) (by decide)) (k11 2 (by decide) (by decide)) (k11 3 (by decide) (by decide))
          have x11 : XJ S (j + 2) 0 g11 := x11'
          have y24 : g11 24 = g5 24 := by rw [k11 24 (by decide) (by decide), q9.1.1 24 (by decide)]
          have y25 : g11 25 E.1 = wA P S j := by rw [e11, up_ne (by decide), e10, up_at, if_pos ⟨rfl, rfl⟩, a2, eA]
          have y25' : ∀ i, i ≠ E.1 → g11 25 i = G 25 i := fun i hi => by rw [e11, up_ne (by decide), e10, up_at, if_neg (fun y => hi y.2), q9.1.1 25 (by decide), e5, up_ne (by decide), q4.1.1 25 (by decide)]
          have y26 : g11 26 E.1 = -1 := by rw [e11, up_at, if_pos ⟨rfl, rfl⟩]
          have y26' : ∀ i, i ≠ E.1 → g11 26 i = G 26 i := fun i hi => by rw [e11, up_at, if_neg (fun y => hi y.2), e10, up_ne (by decide), q9.1.1 26 (by decide), e5, up_ne (by decide), q4.1.1 26 (by decide)]
          refine w_ite (fun _ => ?_) (fun y => absurd x11.2.2.2 y)
          rw [e3]
          refine w_ite (fun c12 => ?_) (fun c12 => ?_)
          · have eB : wBF P S j = nuR S 0 7 (j + 2) := if_pos c12
            have vB : wB P S j = yv S (j + 2) := if_pos c12
            have jB : wJ S j = j + 3 := if_pos c12
            refine w_bn (x_tNu w x11) (fun v22 g23 q23 => ?_)
            refine w_wr (by omega) (by omega) (fun g24 e24 => ?_)
            rw [e2, Int.toNat_natCast] at e24
            have F24 : FW G g24 := FWu (F11.tr (FW.o8 q23.1)) e24 (by omega)
            rcases q23.2 with ⟨b1, b2, b3⟩ | ⟨b1, b2, b3⟩
            · have x24 : XJ S (j + 2) 0 g24 := b3.fr (by rw [e24, up_ne (by decide)]) (by rw [e24, up_ne (by decide)]) (by rw [e24, up_ne (by decide)])
              refine w_bn (x_stp w x24) (fun _ g25 q25 => ?_)
              refine fin g25 (F24.tr (FW.o8 q25.1)) aF (eB.trans b1) (by rw [jB]; exact q25.2) ?_ ?_ (fun i hi => ?_) ?_ (fun i hi => ?_)
              · rw [q25.1.1 24 (by decide), e24, up_ne (by decide), q23.1.1 24 (by decide)]; exact y24
              · rw [q25.1.1 25 (by decide), e24, up_ne (by decide), q23.1.1 25 (by decide)]; exact y25
              · rw [q25.1.1 25 (by decide), e24, up_ne (by decide), q23.1.1 25 (by decide)]; exact y25' i hi
              · rw [q25.1.1 26 (by decide), e24, up_at, if_pos ⟨rfl, rfl⟩, vB]; exact b2
              · rw [q25.1.1 26 (by decide), e24, up_at, if_neg (fun y => hi y.2), q23.1.1 26 (by decide)]; exact y26' i hi
            · have x24 : XJ S (j + 2) (nuR S 0 7 (j + 2)) g24 := b3.fr (by rw [e24, up_ne (by decide)]) (by rw [e24, up_ne (by decide)]) (by rw [e24, up_ne (by decide)])
              refine w_bn (x_stp w x24) (fun _ g25 q25 => ?_)
              rw [eB, orF_n b1] at eT'
              exact finF g25 (F24.tr (FW.o8 q25.1)) (by rw [eT']; exact b1) (by rw [eT']; exact q25.2.2.2.2)
          · rw [hK17]
            refine w_ite (fun _ => ?_) (fun y => absurd x11.2.2.2 y)
            refine w_jnP (fun K18 hK18 => ?_)
            have two : yw S j = 7 ∨ yw S j = 13 → WP K18 (fun v G' => FW G G' ∧ ((wkT P S E.1 j = 0 ∧ v = 1 ∧ XJ S (wJ S j + 1) 0 G' ∧ XE (wkE P S E j) G') ∨ (wkT P S E.1 j ≠ 0 ∧ v = 0 ∧ G' 1 8 = wkT P S E.1 j))) := by
              intro c7
              have eB : wBF P S j = nmF P.1 P.2.1 S (j + 2) := by unfold wBF; rw [if_neg c12, if_pos c7]
              have vB : wB P S j = nmV P.1 P.2.1 S (j + 2) := by unfold wB; rw [if_neg c12, if_pos c7]
              have jB : wJ S j = j + 3 := by unfold wJ; rw [if_neg c12, if_pos c7]
              rw [hK18]
              refine w_bn (x_rdNam w x11 (xn.fr F11) u (Or.inl ⟨rfl, rfl, rfl⟩)) (fun v19 g20 q20 => ?_)
              refine w_wr (by omega) (by omega) (fun g21 e21 => ?_)
              rw [e2, Int.toNat_natCast] at e21
              have F21 : FW G g21 := FWu (F11.tr (FW.o8 q20.1)) e21 (by omega)
              rcases q20.2 with ⟨b1, b2, b3⟩ | ⟨b1, b2, b3⟩
              · refine fin g21 F21 aF (eB.trans b1) (by rw [jB]; exact b3.fr (by rw [e21, up_ne (by decide)]) (by rw [e21, up_ne (by decide)]) (by rw [e21, up_ne (by decide)])) ?_ ?_ (fun i hi => ?_) ?_ (fun i hi => ?_)
                · rw [e21, up_ne (by decide), q20.1.1 24 (by decide)]; exact y24
                · rw [e21, up_ne (by decide), q20.1.1 25 (by decide)]; exact y25
                · rw [e21, up_ne (by decide), q20.1.1 25 (by decide)]; exact y25' i hi
                · rw [e21, up_at, if_pos ⟨rfl, rfl⟩, vB]; exact b2
                · rw [e21, up_at, if_neg (fun y => hi y.2), q20.1.1 26 (by decide)]; exact y26' i hi
              · rw [eB, orF_n b1] at eT'
                exact finF g21 F21 (by rw [eT']; exact b1) (by rw [eT', e21, up_ne (by decide)]; exact b3)
            refine w_ite (fun c7 => two (Or.inl (by rw [← e3]; exact c7))) (fun c7 => ?_)
            refine w_ite (fun c13 => two (Or.inr (by rw [← e3]; exact c13))) (fun c13 => ?_)
            have n7 : ¬ (yw S j = 7 ∨ yw S j = 13) := by omega
            refine fin g11 F11 aF (by unfold wBF; rw [if_neg c12, if_neg n7]) (by unfold wJ; rw [if_neg c12, if_neg n7]; exact x11) y24 y25 y25' (by unfold wB; rw [if_neg c12, if_neg n7]; exact y26) y26'
        · have aF : wAF P S j ≠ 0 := by rw [eAF]; exact a1
          rw [orF_n aF, eAF] at eT
          have h8 : g11 1 8 = wkT P S E.1 j := by rw [k11 1 (by decide) (by decide), eT]; exact a3
          have ne : wkT P S E.1 j ≠ 0 := by rw [eT]; exact a1
          refine w_ite (fun y => absurd (h8.symm.trans y) ne) (fun _ => ?_)
          rw [hK17]
          exact w_ite (fun y => absurd (h8.symm.trans y) ne) (fun _ => finF g11 F11 ne h8)
      rw [e3]
      refine w_ite (fun c13 => ?_) (fun c13 => ?_)
      · exact main 1 P.2.2.1 P.2.2.2 (Or.inr ⟨by decide, rfl, rfl⟩) (if_pos c13) (if_pos c13)
      · exact main 0 P.1 P.2.1 (Or.inl ⟨rfl, rfl, rfl⟩) (if_neg c13) (if_neg c13)
    · have eT : wkT P S E.1 j = flt S 5 j := by unfold wkT; rw [if_pos c, if_pos (by omega)]
      exact w_bn (x_wr5 w h (by decide) (by decide)) (fun v g q => w_rz (Or.inl q.1) ⟨FW.o8 q.2.1, Or.inr ⟨by omega, q.1, by rw [eT]; exact q.2.2⟩⟩)
  · rw [if_neg c, if_pos rfl]
    have eT : wkT P S E.1 j = flt S 1 j := by unfold wkT; rw [if_neg c]
    exact w_bn (x_wr5 w h (by decide) (by decide)) (fun v g q => w_rz (Or.inl q.1) ⟨FW.o8 q.2.1, Or.inr ⟨by omega, q.1, by rw [eT]; exact q.2.2⟩⟩)
theorem WE_ln {P : NP} {E : EW} {j : Nat} (w : WTp S) (we : WE P E) (h : wkT P S E.1 j = 0) : WE P (wkE P S E j) := by
  have l1 := flt_r w (k := 1) (j := j) (by decide)
  have l5 := flt_r w (k := 5) (j := j) (by decide)
  unfold wkT at h
  by_cases c : yk S j = 2 ∧ 6 ≤ yw S j ∧ yw S j ≤ 14
  · rw [if_pos c] at h
    by_cases c4 : E.1 = 40
    · rw [if_pos c4] at h; omega
    · rw [if_neg c4] at h
      have z1 := orF_z h
      have z2 := orF_z z1.2
      have w1 := we.1
      refine ⟨by show E.1 + 1 ≤ 40; omega, fun i hi => ?_⟩
      have hi' : i < E.1 + 1 := hi
      show (0 ≤ (if i = E.1 then yw S j - 6 else E.2.1 i) ∧ (if i = E.1 then yw S j - 6 else E.2.1 i) ≤ 8) ∧ ((if i = E.1 then yw S j - 6 else E.2.1 i) ≠ 7 → 0 ≤ (if i = E.1 then wA P S j else E.2.2.1 i) ∧ (if i = E.1 then wA P S j else E.2.2.1 i) < P.2.1) ∧ ((if i = E.1 then yw S j - 6 else E.2.1 i) = 7 → 0 ≤ (if i = E.1 then wA P S j else E.2.2.1 i) ∧ (if i = E.1 then wA P S j else E.2.2.1 i) < P.2.2.2) ∧ ((if i = E.1 then yw S j - 6 else E.2.1 i) = 1 ∨ (if i = E.1 then yw S j - 6 else E.2.1 i) = 7 → (if i = E.1 then wB P S j else E.2.2.2 i) < P.2.1)
      by_cases ei : i = E.1
      · rw [if_pos ei, if_pos ei, if_pos ei]
        refine ⟨by omega, fun y => ?_, fun y => ?_, fun y => ?_⟩
        · have n13 : ¬ yw S j = 13 := by omega
          have z := z1.1
          unfold wAF at z; rw [if_neg n13] at z
          unfold wA; rw [if_neg n13]; exact (nmF_r w z).2
        · have n13 : yw S j = 13 := by omega
          have z := z1.1
          unfold wAF at z; rw [if_pos n13] at z
          unfold wA; rw [if_pos n13]; exact (nmF_r w z).2
        · have n12 : ¬ yw S j = 12 := by omega
          have n7 : yw S j = 7 ∨ yw S j = 13 := by omega
          have z := z2.1
          unfold wBF at z; rw [if_neg n12, if_pos n7] at z
          unfold wB; rw [if_neg n12, if_pos n7]; exact (nmF_r w z).2.2
      · rw [if_neg ei, if_neg ei, if_neg ei]; exact we.2 i (by omega)
  · rw [if_neg c] at h; omega
end WKA
