/-! READING A RING: the reference's line; what a line leaves -/
section RDL
variable {S : TS} {G : Hp} {n : Nat} {D : DR} {s : Nat × Int}
theorem m_isW0 {j : Nat} (m : MJ S n (j, 0) G) {k : Nat} (hk : k < 22) {z : Int} (hz : z = k) : fX12_isWord 111 z G = some (if yk S j = 2 ∧ yw S j = z then 1 else 0, G) := by
  rw [m_isWrd m (w := k) (by omega) hz]
  have ce : ((cixw k : Nat) : Int) = z := by unfold cixw; rw [if_pos (by omega), hz]
  have e : ((j, (0 : Int)).2 = 0 ∧ yk S (j, (0 : Int)).1 = 2 ∧ yw S (j, (0 : Int)).1 = ((cixw k : Nat) : Int)) ↔ (yk S j = 2 ∧ yw S j = z) := by
    rw [ce]; exact ⟨fun y => y.2, fun y => ⟨rfl, y⟩⟩
  by_cases c : yk S j = 2 ∧ yw S j = z
  · rw [if_pos (e.mpr c), if_pos c]
  · rw [if_neg (fun y => c (e.mp y)), if_neg c]
theorem m_once {j : Nat} (w : WTp S) (m : MJ S n (j, 0) G) (hk : yk S j ≠ 0) {z : Int} {j2 : Nat} : WP (fX12_readOnce 111 z G) (fun r G' => FM8 G G' ∧ ((z = 0 ∧ r = 1 ∧ MA S n 0 (j + 1) G') ∨ (z ≠ 0 ∧ r = 0 ∧ MA S n (flt S 3 j) j2 G'))) := by
  unfold fX12_readOnce
  refine w_ite (fun c => ?_) (fun c => ?_)
  · refine w_bh (fun g e => ?_)
    have i := m_inc m hk
    rw [← e] at i
    exact w_rz (Or.inr rfl) ⟨i.1, Or.inl ⟨c, rfl, Or.inl ⟨rfl, i.2⟩⟩⟩
  · exact w_bn (m_tWr w (Or.inl ⟨rfl, m⟩) (by decide) (by decide) (j2 := j2)) (fun _ g q => w_rz (Or.inl rfl) ⟨q.1, Or.inr ⟨c, rfl, q.2⟩⟩)
theorem m_rdCi {j : Nat} (w : WTp S) (m : MJ S n (j, 0) G) (hk : yk S j ≠ 0) (d : MD S D G) (wd : WD S D) : WP (bp (fX12_told 111 0 G) fun v41 => jn (fun (v42 : Int) => bn (fX12_readOnce 111 v42 G) fun v44 G45 => if v44 = 0 then rt 0 G45 else (bn (fX12_takeNumber 111 8 256 G45) fun v46 G47 => bs (wr G47 117 64 32 v46) fun G48 => rt 0 G48)) fun (K43 : Int → RT) => if 0 < v41 then K43 1 else K43 0) (fun _ G' => CM S n (ciF S D j) (j + 2) (eC D (yv S (j + 1))) G G') := by
  have l3 := flt_r w (k := 3) (j := j) (by decide)
  have wC := wd.1
  refine w_bp (m_tld (k := 0) (by omega) rfl) (fun v41 e41 => ?_)
  have x41 : v41 = dC D := e41.trans d.1
  refine w_jnK (fun v hv => ?_)
  refine w_bn (m_once w m hk (j2 := j + 2)) (fun v44 g1 q1 => ?_)
  rcases q1.2 with ⟨z, r, a⟩ | ⟨z, r, a⟩
  · have c0 : dC D = 0 := by rcases hv with ⟨y1, y2⟩ | ⟨y1, y2⟩ <;> omega
    have ef : ciF S D j = nuR S 8 256 (j + 1) := if_pos c0
    refine w_ite (fun y => by omega) (fun _ => ?_)
    refine w_bn (m_tNu w a) (fun v46 g2 q2 => ?_)
    obtain ⟨f2, a2, n2⟩ := q2
    rw [orF_0, ← ef] at a2 n2
    refine w_wr (by omega) (by omega) (fun g3 e3 => w_rt ?_)
    rw [show (32 : Int).toNat = 32 from rfl] at e3
    have h0 : ∀ c, c ≠ 117 → g3 c = g2 c := fun c hc => by rw [e3, up_ne hc]
    have f := q1.1.tr f2
    refine ⟨(FE.o8 f).tr (by rw [e3]; exact FE.up (by omega)), a2.fr (h0 113 (by decide)) (h0 114 (by decide)) (h0 115 (by decide)) (h0 116 (by decide)) (by rw [h0 111 (by decide)]) (by rw [h0 111 (by decide)]), fun hz => ?_⟩
    obtain ⟨b1, b2, b3, b4, b5, b6, b7, b8, b9⟩ := d.f8 f
    have h1 : ∀ i, i ≠ 32 → g3 117 i = g2 117 i := fun i x => by rw [e3, up_at, if_neg (fun t => x t.2)]
    refine ⟨?_, (h1 33 (by omega)).trans b2, (h1 34 (by omega)).trans b3, (h1 35 (by omega)).trans b4, (h1 36 (by omega)).trans b5, (h1 37 (by omega)).trans b6, fun i hi => ?_, fun i hi => ?_, b9.fr (h0 118 (by decide)) (by rw [h0 111 (by decide)])⟩
    · rw [e3, up_at, if_pos ⟨rfl, rfl⟩]; exact n2 hz
    · rw [h1 _ (by omega), h1 _ (by omega), h0 119 (by decide)]; exact b7 i hi
    · rw [h1 _ (by omega), h0 119 (by decide)]; exact b8 i hi
  · have c0 : dC D ≠ 0 := by rcases hv with ⟨y1, y2⟩ | ⟨y1, y2⟩ <;> omega
    have ef : ciF S D j = flt S 3 j := if_neg c0
    exact w_ite (fun _ => w_rt ⟨FE.o8 q1.1, by rw [ef]; exact a, fun y => by omega⟩) (fun y => absurd r y)
theorem m_rdLi {j : Nat} (w : WTp S) (m : MJ S n (j, 0) G) (hk : yk S j ≠ 0) (d : MD S D G) (wd : WD S D) : WP (bp (fX12_told 111 5 G) fun v32 => jn (fun (v33 : Int) => bn (fX12_readOnce 111 v33 G) fun v35 G36 => if v35 = 0 then rt 0 G36 else (bn (fX12_takeNumber 111 1 4 G36) fun v37 G38 => bs (wr G38 117 64 33 v37) fun G39 => bs (wr G39 117 64 37 1) fun G40 => rt 0 G40)) fun (K34 : Int → RT) => if 0 < v32 then K34 1 else K34 0) (fun _ G' => CM S n (liF S D j) (j + 2) (eL D (yv S (j + 1))) G G') := by
  have l3 := flt_r w (k := 3) (j := j) (by decide)
  have wS := wd.2.2.1
  refine w_bp (m_tld (k := 5) (by omega) rfl) (fun v41 e41 => ?_)
  have x41 : v41 = dS D := e41.trans d.2.2.2.2.2.1
  refine w_jnK (fun v hv => ?_)
  refine w_bn (m_once w m hk (j2 := j + 2)) (fun v44 g1 q1 => ?_)
  rcases q1.2 with ⟨z, r, a⟩ | ⟨z, r, a⟩
  · have c0 : dS D = 0 := by rcases hv with ⟨y1, y2⟩ | ⟨y1, y2⟩ <;> omega
    have ef : liF S D j = nuR S 1 4 (j + 1) := if_pos c0
    refine w_ite (fun y => by omega) (fun _ => ?_)
    refine w_bn (m_tNu w a) (fun v46 g2 q2 => ?_)
    obtain ⟨f2, a2, n2⟩ := q2
    rw [orF_0, ← ef] at a2 n2
    refine w_wr (by omega) (by omega) (fun g3 e3 => ?_)
    refine w_wr (by omega) (by omega) (fun g4 e4 => w_rt ?_)
    rw [show (33 : Int).toNat = 33 from rfl] at e3
    rw [show (37 : Int).toNat = 37 from rfl] at e4
    have h0 : ∀ c, c ≠ 117 → g4 c = g2 c := fun c hc => by rw [e4, up_ne hc, e3, up_ne hc]
    have f := q1.1.tr f2
    refine ⟨(FE.o8 f).tr (by rw [e4, e3]; exact (FE.up (by omega)).tr (FE.up (by omega))), a2.fr (h0 113 (by decide)) (h0 114 (by decide)) (h0 115 (by decide)) (h0 116 (by decide)) (by rw [h0 111 (by decide)]) (by rw [h0 111 (by decide)]), fun hz => ?_⟩
    obtain ⟨b1, b2, b3, b4, b5, b6, b7, b8, b9⟩ := d.f8 f
    have h1 : ∀ i, i ≠ 33 → i ≠ 37 → g4 117 i = g2 117 i := fun i x y => by rw [e4, up_at, if_neg (fun t => y t.2), e3, up_at, if_neg (fun t => x t.2)]
    refine ⟨(h1 32 (by omega) (by omega)).trans b1, ?_, (h1 34 (by omega) (by omega)).trans b3, (h1 35 (by omega) (by omega)).trans b4, (h1 36 (by omega) (by omega)).trans b5, ?_, fun i hi => ?_, fun i hi => ?_, b9.fr (h0 118 (by decide)) (by rw [h0 111 (by decide)])⟩
    · rw [e4, up_at, if_neg (by decide), e3, up_at, if_pos ⟨rfl, rfl⟩]; exact n2 hz
    · rw [e4, up_at, if_pos ⟨rfl, rfl⟩]; rfl
    · rw [h1 _ (by omega) (by omega), h1 _ (by omega) (by omega), h0 119 (by decide)]; exact b7 i hi
    · rw [h1 _ (by omega) (by omega), h0 119 (by decide)]; exact b8 i hi
  · have c0 : dS D ≠ 0 := by rcases hv with ⟨y1, y2⟩ | ⟨y1, y2⟩ <;> omega
    have ef : liF S D j = flt S 3 j := if_neg c0
    exact w_ite (fun _ => w_rt ⟨FE.o8 q1.1, by rw [ef]; exact a, fun y => by omega⟩) (fun y => absurd r y)
theorem m_rdKe {j : Nat} (w : WTp S) (m : MJ S n (j, 0) G) (hk : yk S j ≠ 0) (d : MD S D G) (wd : WD S D) : WP (bp (fX12_told 111 3 G) fun v18 => bd v18 fun v19 => bn (fX12_readName 111 8 v19 10 G) fun _ G20 => bn (fX12_takeAfter 111 4 0 999 G20) fun v21 G22 => bd v21 fun v23 => jn (fun (G24 : Hp) => rt 0 G24) fun (K25 : Hp → RT) => if (G22 111 8) = 0 then (bs (wr G22 117 64 (iadd 54 v19) v23) fun G26 => br (rd G26 117 64 35) fun v27 => bs (wr G26 117 64 35 (iadd v27 1)) fun G28 => K25 G28) else K25 G22) (fun _ G' => CM S n (keF S D j) (j + 4) (eK D (yv S (j + 3)) (j + 1)) G G') := by
  have l5 := flt_r w (k := 5) (j := j) (by decide)
  have wK := wd.2.2.2.2.1
  refine w_bp (m_tld (k := 3) (by omega) rfl) (fun v18 e18 => ?_)
  refine w_bd (fun v19 e19 => ?_)
  have hv : v19 = (dK D : Int) := by rw [e19, e18]; exact d.2.2.2.1
  refine w_bn (m_rdNm w m hk d wd (a := 8) (N := dK D) (M := 10) wK (by omega) (za := 8) (zM := 10) rfl hv rfl) (fun _ g3 q3 => ?_)
  obtain ⟨f3, a3, n3⟩ := q3
  have eqF : orF (orF (if dK D = 10 then flt S 5 j else nmR S D (j + 1)) (wdR S 4 4 (j + 2))) (nuR S 0 999 (j + 3)) = keF S D j := by
    unfold keF
    by_cases c : dK D = 10
    · rw [if_pos c, if_pos c, orF_a, orF_n (by omega)]
    · rw [if_neg c, if_neg c, orF_a]
  have ta : WP (fX12_takeAfter 111 4 0 999 g3) (fun r G' => FM8 g3 G' ∧ MA S n (keF S D j) (j + 4) G' ∧ (keF S D j = 0 → r = yv S (j + 3))) := by
    unfold fX12_takeAfter
    refine w_bn (m_tWd w a3 (c := 4) (by decide) (z := 4) rfl) (fun _ g5 q5 => ?_)
    refine w_bn (m_tNu w q5.2) (fun v6 g6 q6 => ?_)
    rw [← eqF]
    exact w_rt ⟨q5.1.tr q6.1, q6.2.1, q6.2.2⟩
  refine w_bn ta (fun v21 g12 q12 => ?_)
  obtain ⟨fB, a12, n12⟩ := q12
  refine w_bd (fun v23 e23 => ?_)
  refine w_jn ?_
  have FB : FE G g12 := (FE.oN (by omega) f3).tr (FE.o8 fB)
  by_cases z : keF S D j = 0
  · have z' := z
    unfold keF at z'
    by_cases c8 : dK D = 10
    · rw [if_pos c8] at z'; omega
    rw [if_neg c8] at z'
    have z1 := orF_z z'
    refine w_ite (fun _ => ?_) (fun y => absurd (a12.f.1.trans z) y)
    have x13 : v23 = yv S (j + 3) := e23.trans (n12 z)
    have xn := n3 c8 z1.1
    rw [hv, iadd_id (by omega) (by omega)]
    refine w_wr (by omega) (by omega) (fun g14 e14 => ?_)
    refine w_rd (by omega) (by omega) (fun v16 e16 => ?_)
    refine w_wr (by omega) (by omega) (fun g17 e17 => w_rt ?_)
    rw [show ((54 : Int) + (dK D : Int)).toNat = 54 + dK D by omega] at e14
    rw [show (35 : Int).toNat = 35 from rfl] at e16 e17
    have c12 : g12 117 = G 117 := by rw [fB.1 117 (by decide), f3.1 117 (by decide) (by decide)]
    have x16 : v16 = (dK D : Int) := by rw [e16, e14, up_at, if_neg (by omega), c12]; exact d.2.2.2.1
    rw [x16, iadd_id (by omega) (by omega)] at e17
    have h0 : ∀ c, c ≠ 117 → g17 c = g12 c := fun c hc => by rw [e17, up_ne hc, e14, up_ne hc]
    have h1 : ∀ i, i ≠ 35 → i ≠ 54 + dK D → g17 117 i = G 117 i := fun i x y => by
      rw [e17, up_at, if_neg (fun t => x t.2), e14, up_at, if_neg (fun t => y t.2), c12]
    have n119 : ∀ i, g17 119 i = g3 119 i := fun i => by rw [h0 119 (by decide), fB.1 119 (by decide)]
    refine ⟨FB.tr ?_, a12.fr (h0 113 (by decide)) (h0 114 (by decide)) (h0 115 (by decide)) (h0 116 (by decide)) (by rw [h0 111 (by decide)]) (by rw [h0 111 (by decide)]), fun _ => ?_⟩
    · rw [e17, e14]; exact (FE.up (by omega)).tr (FE.up (by omega))
    · obtain ⟨b1, b2, b3, b4, b5, b6, b7, b8, b9⟩ := d
      have wN := wd.2.2.2.1
      refine ⟨(h1 32 (by omega) (by omega)).trans b1, (h1 33 (by omega) (by omega)).trans b2, (h1 34 (by omega) (by omega)).trans b3, ?_, (h1 36 (by omega) (by omega)).trans b5, (h1 37 (by omega) (by omega)).trans b6, fun i hi => ?_, fun i hi => ?_, ?_⟩
      · rw [e17, up_at, if_pos ⟨rfl, rfl⟩]; rfl
      · have q := b7 i hi
        have hi8 : i < 8 := Nat.lt_of_lt_of_le hi wN
        refine ⟨(h1 _ (by omega) (by omega)).trans q.1, (h1 _ (by omega) (by omega)).trans q.2.1, ?_⟩
        rw [n119, f3.2.2 _ (by omega)]; exact q.2.2
      · have hi' : i < dK D + 1 := hi
        show _ = (if i = dK D then yv S (j + 3) else dkp D i) ∧ _ = yv S (if i = dK D then j + 1 else dkn D i)
        by_cases ei : i = dK D
        · rw [if_pos ei, if_pos ei, ei]
          refine ⟨?_, ?_⟩
          · rw [e17, up_at, if_neg (by omega), e14, up_at, if_pos ⟨rfl, rfl⟩]; exact x13
          · rw [n119]; exact xn
        · rw [if_neg ei, if_neg ei]
          have q := b8 i (by omega)
          refine ⟨(h1 _ (by omega) (by omega)).trans q.1, ?_⟩
          rw [n119, f3.2.2 _ (by omega)]; exact q.2
      · refine MLw.fr b9 ?_ ?_
        · rw [h0 118 (by decide), fB.1 118 (by decide), f3.1 118 (by decide) (by decide)]
        · rw [h0 111 (by decide), fB.2 12 (by decide) (by decide), f3.2.1 12 (by decide) (by decide)]
  · exact w_ite (fun y => absurd (a12.f.1.symm.trans y) z) (fun _ => w_rt ⟨FB, a12, fun y => absurd y z⟩)
theorem m_rdLw {j : Nat} (w : WTp S) (m : MJ S n (j, 0) G) (hk : yk S j ≠ 0) (d : MD S D G) : WP (bp (fX12_told 111 4 G) fun v6 => jn (fun (v7 : Int) => bn (fX12_readOnce 111 v7 G) fun v9 G10 => if v9 = 0 then rt 0 G10 else (bs (wr G10 117 64 36 (G10 111 12)) fun G11 => bn (fX12_allOf 111 0 G11) fun _ G12 => bn (fX12_emit 111 0 0 G12) fun _ G13 => rt 0 G13)) fun (K8 : Int → RT) => if v6 < 0 then K8 0 else K8 1) (fun _ G' => CM S n (lwF S D j) (lawR S (j + 1)).2.1 (eW D (j + 1)) G G') := by
  have l3 := flt_r w (k := 3) (j := j) (by decide)
  have n1000 := m.2.2.2.2.2.1
  refine w_bp (m_tld (k := 4) (by omega) rfl) (fun v41 e41 => ?_)
  have x41 : v41 = lwM (dW D) := e41.trans d.2.2.2.2.1
  refine w_jnK (fun v hv => ?_)
  refine w_bn (m_once w m hk (j2 := (lawR S (j + 1)).2.1)) (fun v44 g1 q1 => ?_)
  rcases q1.2 with ⟨z, r, a⟩ | ⟨z, r, a⟩
  · have c0 : dW D = none := by
      cases hW : dW D with
      | none => rfl
      | some t => rw [hW] at x41; have x' : v41 = 0 := x41; rcases hv with ⟨y1, y2⟩ | ⟨y1, y2⟩ <;> omega
    have ef : lwF S D j = (lawR S (j + 1)).1 := if_pos c0
    refine w_ite (fun y => by omega) (fun _ => ?_)
    have dd := d.f8 q1.1
    have h12 : g1 111 12 = 0 := by have := dd.2.2.2.2.2.2.2.2; rw [c0] at this; exact this
    rw [h12]
    refine w_wr (by omega) (by omega) (fun g2 e2 => ?_)
    rw [show (36 : Int).toNat = 36 from rfl] at e2
    have h0 : ∀ c, c ≠ 117 → g2 c = g1 c := fun c hc => by rw [e2, up_ne hc]
    have m2 : MJ S n (j + 1, 0) g2 := a.z.fr (h0 113 (by decide)) (h0 114 (by decide)) (h0 115 (by decide)) (h0 116 (by decide)) (by rw [h0 111 (by decide)]) (by rw [h0 111 (by decide)])
    refine w_bn (m_law w m2 (c := 0) (by rw [h0 111 (by decide)]; exact h12) (by omega)) (fun _ g3 q3 => ?_)
    have pg : PGr n (j + 1) (lawR S (j + 1)) := law_pg w (HN_of m2.1) m2.2.2.2.2.1
    have pl : (lawR S (j + 1)).2.2.length ≤ 999 := by have := pg.1; have := pg.2.1; omega
    refine w_bn (m_emt q3 (a := 0) (b := 0) (o := 0) (by rw [Nat.zero_add]; exact Nat.le_trans pl (by decide)) (by omega) (by omega) (by omega)) (fun _ g4 q4 => w_rt ?_)
    obtain ⟨f4, m4, k4, l4⟩ := q4
    simp only [List.length_append, List.length_singleton] at k4 l4
    refine ⟨((FE.o8 q1.1).tr (by rw [e2]; exact FE.up (by omega))).tr (FE.ov f4), ?_, fun hz => ?_⟩
    · rw [ef]
      by_cases zz : (lawR S (j + 1)).1 = 0
      · refine Or.inl ⟨zz, ?_⟩
        have m4' := m4
        simp only at m4'
        rw [zz] at m4'; exact m4'
      · exact Or.inr ⟨zz, _, m4⟩
    · obtain ⟨b1, b2, b3, b4, b5, b6, b7, b8, b9⟩ := dd
      have h2 : ∀ i, i ≠ 36 → g4 117 i = g1 117 i := fun i x => by rw [f4.1 117 (by decide) (by decide), e2, up_at, if_neg (fun t => x t.2)]
      have h3 : g4 119 = g1 119 := by rw [f4.1 119 (by decide) (by decide), h0 119 (by decide)]
      refine ⟨(h2 32 (by omega)).trans b1, (h2 33 (by omega)).trans b2, (h2 34 (by omega)).trans b3, (h2 35 (by omega)).trans b4, ?_, (h2 37 (by omega)).trans b6, fun i hi => ?_, fun i hi => ?_, ?_⟩
      · rw [f4.1 117 (by decide) (by decide), e2, up_at, if_pos ⟨rfl, rfl⟩]; rfl
      · rw [h2 _ (by omega), h2 _ (by omega), h3]; exact b7 i hi
      · rw [h2 _ (by omega), h3]; exact b8 i hi
      · refine ⟨by rw [k4]; omega, fun i hi => ?_, ?_, pl⟩
        · have := l4 i (by omega)
          rw [gd_app, if_pos hi] at this
          exact this
        · have := l4 (lawR S (j + 1)).2.2.length (by omega)
          rw [gd_app, if_neg (by omega), Nat.sub_self] at this
          exact this
  · have c0 : dW D ≠ none := by
      intro hW
      rw [hW] at x41; have x' : v41 = -1 := x41; rcases hv with ⟨y1, y2⟩ | ⟨y1, y2⟩ <;> omega
    have ef : lwF S D j = flt S 3 j := if_neg c0
    exact w_ite (fun _ => w_rt ⟨FE.o8 q1.1, by rw [ef]; exact a, fun y => by omega⟩) (fun y => absurd r y)
theorem m_line {j : Nat} (w : WTp S) (m : MJ S n (j, 0) G) (hk : yk S j ≠ 0) (d : MD S D G) (wd : WD S D) : WP (fX12_readLine 111 G) (fun _ G' => CM S n (lnF S D j) (lnJ S j) (lnD S D j) G G') := by
  have l1 := flt_r w (k := 1) (j := j) (by decide)
  unfold fX12_readLine
  rw [rf_111_10]
  have sub : ∀ {o : RT} (F : Int) (J : Nat) (D' : DR), lnF S D j = F → lnJ S j = J → lnD S D j = D' → WP o (fun _ G' => CM S n F J D' G G') → WP o (fun _ G' => CM S n (lnF S D j) (lnJ S j) (lnD S D j) G G') := by
    intro o F J D' eF eJ eD h
    rw [eF, eJ, eD]; exact h
  rw [m_isW0 m (k := 0) (by omega) (z := 0) rfl, bp_s]
  by_cases c0 : yk S j = 2 ∧ yw S j = 0
  · rw [if_pos c0, if_neg (by decide)]
    exact sub _ _ _ (by unfold lnF; rw [if_pos c0.1, if_pos c0.2]) (by unfold lnJ; rw [if_pos c0.2]) (by unfold lnD; rw [if_pos c0.2]) (m_rdCi w m hk d wd)
  rw [if_neg c0, if_pos rfl, m_isW0 m (k := 1) (by omega) (z := 1) rfl, bp_s]
  by_cases c1 : yk S j = 2 ∧ yw S j = 1
  · have x0 : ¬ yw S j = 0 := by omega
    rw [if_pos c1, if_neg (by decide)]
    exact sub _ _ _ (by unfold lnF; rw [if_pos c1.1, if_neg x0, if_pos c1.2]) (by unfold lnJ; rw [if_neg x0, if_pos c1.2]) (by unfold lnD; rw [if_neg x0, if_pos c1.2]) (m_rdLi w m hk d wd)
  rw [if_neg c1, if_pos rfl, m_isW0 m (k := 2) (by omega) (z := 2) rfl, bp_s]
  by_cases c2 : yk S j = 2 ∧ yw S j = 2
  · have x0 : ¬ yw S j = 0 := by omega
    have x1 : ¬ yw S j = 1 := by omega
    rw [if_pos c2, if_neg (by decide)]
    exact sub _ _ _ (by unfold lnF; rw [if_pos c2.1, if_neg x0, if_neg x1, if_pos c2.2]) (by unfold lnJ; rw [if_neg x0, if_neg x1, if_pos c2.2]) (by unfold lnD; rw [if_neg x0, if_neg x1, if_pos c2.2]) (w_bn (m_rdNo w m hk d wd) (fun _ g q => w_rt q))
  rw [if_neg c2, if_pos rfl, m_isW0 m (k := 3) (by omega) (z := 3) rfl, bp_s]
  by_cases c3 : yk S j = 2 ∧ yw S j = 3
  · have x0 : ¬ yw S j = 0 := by omega
    have x1 : ¬ yw S j = 1 := by omega
    have x2 : ¬ yw S j = 2 := by omega
    rw [if_pos c3, if_neg (by decide)]
    exact sub _ _ _ (by unfold lnF; rw [if_pos c3.1, if_neg x0, if_neg x1, if_neg x2, if_pos c3.2]) (by unfold lnJ; rw [if_neg x0, if_neg x1, if_neg x2, if_pos c3.2]) (by unfold lnD; rw [if_neg x0, if_neg x1, if_neg x2, if_pos c3.2]) (m_rdKe w m hk d wd)
  rw [if_neg c3, if_pos rfl, m_isW0 m (k := 5) (by omega) (z := 5) rfl, bp_s]
  by_cases c5 : yk S j = 2 ∧ yw S j = 5
  · have x0 : ¬ yw S j = 0 := by omega
    have x1 : ¬ yw S j = 1 := by omega
    have x2 : ¬ yw S j = 2 := by omega
    have x3 : ¬ yw S j = 3 := by omega
    rw [if_pos c5, if_neg (by decide)]
    exact sub _ _ _ (by unfold lnF; rw [if_pos c5.1, if_neg x0, if_neg x1, if_neg x2, if_neg x3, if_pos c5.2]) (by unfold lnJ; rw [if_neg x0, if_neg x1, if_neg x2, if_neg x3]) (by unfold lnD; rw [if_neg x0, if_neg x1, if_neg x2, if_neg x3]) (m_rdLw w m hk d)
  rw [if_neg c5, if_pos rfl]
  have ef : lnF S D j = flt S 1 j := by
    unfold lnF
    by_cases k2 : yk S j = 2
    · rw [if_pos k2, if_neg (by omega), if_neg (by omega), if_neg (by omega), if_neg (by omega), if_neg (by omega)]
    · rw [if_neg k2]
  exact w_bn (m_tWr w (Or.inl ⟨rfl, m⟩) (by decide) (by decide) (j2 := lnJ S j)) (fun _ g q => w_rt ⟨FE.o8 q.1, by rw [ef]; exact q.2, fun y => by omega⟩)
/-! what a line leaves -/
theorem WD_ln {j : Nat} (w : WTp S) (wd : WD S D) (h : lnF S D j = 0) : WD S (lnD S D j) := by
  obtain ⟨w1, w2, w3, w4, w5, w6, w7, w8, w9, w10, w11⟩ := wd
  have l1 := flt_r w (k := 1) (j := j) (by decide)
  have l3 := flt_r w (k := 3) (j := j) (by decide)
  have l5 := flt_r w (k := 5) (j := j) (by decide)
  unfold lnF at h
  unfold lnD
  by_cases k2 : yk S j = 2
  · rw [if_pos k2] at h
    by_cases c0 : yw S j = 0
    · rw [if_pos c0] at h ⊢
      unfold ciF at h
      by_cases z : dC D = 0
      · rw [if_pos z] at h
        have q := (nuR_z w).mp h
        refine ⟨Or.inr q.2, w2, w3, w4, w5, fun i hi => ?_, w7, w8, w9, w10, w11⟩
        have := (w6 i hi).1
        omega
      · rw [if_neg z] at h; omega
    rw [if_neg c0] at h ⊢
    by_cases c1 : yw S j = 1
    · rw [if_pos c1] at h ⊢
      unfold liF at h
      by_cases z : dS D = 0
      · rw [if_pos z] at h
        have q := (nuR_z w).mp h
        exact ⟨w1, q.2, Or.inr rfl, w4, w5, w6, w7, w8, w9, w10, w11⟩
      · rw [if_neg z] at h; omega
    rw [if_neg c1] at h ⊢
    by_cases c2 : yw S j = 2
    · rw [if_pos c2] at h ⊢
      unfold noF at h
      by_cases z : dN D = 8
      · rw [if_pos z] at h; omega
      · rw [if_neg z] at h
        have z1 := orF_z h
        have z2 := orF_z z1.2
        have z3 := orF_z z2.2
        have p1 := (nmR_z w).mp z1.1
        have p2 := (wdR_z w).mp z2.1
        have p3 := (pcR_t w).mp z3.2
        refine ⟨w1, w2, w3, by show dN D + 1 ≤ 8; omega, w5, fun i hi => ?_, w7, fun i i' hi hi' => ?_, fun i i' hi hi' => ?_, w10, w11⟩
        · have hi2 : i < dN D + 1 := hi
          show (0 ≤ (if i = dN D then yv S (j + 4) else dpl D i) ∧ (if i = dN D then yv S (j + 4) else dpl D i) < dC D) ∧ (0 ≤ (if i = dN D then yw S (j + 2) - 15 else dkd D i) ∧ (if i = dN D then yw S (j + 2) - 15 else dkd D i) ≤ 3) ∧ yk S (if i = dN D then j + 1 else dnn D i) = 2
          by_cases ei : i = dN D
          · rw [if_pos ei, if_pos ei, if_pos ei]; exact ⟨⟨p3.1.2.1, by omega⟩, ⟨by omega, by omega⟩, p1.1.1⟩
          · rw [if_neg ei, if_neg ei, if_neg ei]; exact w6 i (by omega)
        · have hi2 : i < dN D + 1 := hi
          have hi3 : i' < dN D + 1 := hi'
          show (if i = dN D then yv S (j + 4) else dpl D i) = (if i' = dN D then yv S (j + 4) else dpl D i') → i = i'
          by_cases ei : i = dN D
          · by_cases ei' : i' = dN D
            · intro _; omega
            · rw [if_pos ei, if_neg ei']; exact fun y => absurd y.symm (p3.2 i' (by omega))
          · by_cases ei' : i' = dN D
            · rw [if_neg ei, if_pos ei']; exact fun y => absurd y (p3.2 i (by omega))
            · rw [if_neg ei, if_neg ei']; exact w8 i i' (by omega) (by omega)
        · have hi2 : i < dN D + 1 := hi
          have hi3 : i' < dN D + 1 := hi'
          show yv S (if i = dN D then j + 1 else dnn D i) = yv S (if i' = dN D then j + 1 else dnn D i') → i = i'
          by_cases ei : i = dN D
          · by_cases ei' : i' = dN D
            · intro _; omega
            · rw [if_pos ei, if_neg ei']; exact fun y => absurd (Or.inl ⟨i', by omega, y.symm⟩) p1.2
          · by_cases ei' : i' = dN D
            · rw [if_neg ei, if_pos ei']; exact fun y => absurd (Or.inl ⟨i, by omega, y⟩) p1.2
            · rw [if_neg ei, if_neg ei']; exact w9 i i' (by omega) (by omega)
    rw [if_neg c2] at h ⊢
    by_cases c3 : yw S j = 3
    · rw [if_pos c3] at h ⊢
      unfold keF at h
      by_cases z : dK D = 10
      · rw [if_pos z] at h; omega
      · rw [if_neg z] at h
        have z1 := orF_z h
        have z2 := orF_z z1.2
        have p1 := (nmR_z w).mp z1.1
        have p3 := (nuR_z w).mp z2.2
        refine ⟨w1, w2, w3, w4, by show dK D + 1 ≤ 10; omega, w6, fun i hi => ?_, w8, w9, fun i i' hi hi' => ?_, w11⟩
        · have hi2 : i < dK D + 1 := hi
          show (0 ≤ (if i = dK D then yv S (j + 3) else dkp D i) ∧ (if i = dK D then yv S (j + 3) else dkp D i) ≤ 999) ∧ yk S (if i = dK D then j + 1 else dkn D i) = 2
          by_cases ei : i = dK D
          · rw [if_pos ei, if_pos ei]; exact ⟨p3.2, p1.1.1⟩
          · rw [if_neg ei, if_neg ei]; exact w7 i (by omega)
        · have hi2 : i < dK D + 1 := hi
          have hi3 : i' < dK D + 1 := hi'
          show yv S (if i = dK D then j + 1 else dkn D i) = yv S (if i' = dK D then j + 1 else dkn D i') → i = i'
          by_cases ei : i = dK D
          · by_cases ei' : i' = dK D
            · intro _; omega
            · rw [if_pos ei, if_neg ei']; exact fun y => absurd (Or.inr ⟨i', by omega, y.symm⟩) p1.2
          · by_cases ei' : i' = dK D
            · rw [if_neg ei, if_pos ei']; exact fun y => absurd (Or.inr ⟨i, by omega, y⟩) p1.2
            · rw [if_neg ei, if_neg ei']; exact w10 i i' (by omega) (by omega)
    rw [if_neg c3] at h ⊢
    by_cases c5 : yw S j = 5
    · rw [if_pos c5] at h
      unfold lwF at h
      by_cases z : dW D = none
      · rw [if_pos z] at h
        refine ⟨w1, w2, w3, w4, w5, w6, w7, w8, w9, w10, fun t ht => ?_⟩
        have ht' : some (j + 1) = some t := ht
        cases ht'
        exact h
      · rw [if_neg z] at h; omega
    · rw [if_neg c5] at h; omega
  · rw [if_neg k2] at h; omega
theorem lnT_p (w : WTp S) {j : Nat} (h : lnT S D j = 0) : lnF S D j = 0 ∧ yk S j = 2 ∧ yk S (lnJ S j) = 4 := by
  have l1 := flt_r w (k := 1) (j := j) (by decide)
  have z := orF_z h
  refine ⟨z.1, ?_, ((sgR_z w).mp z.2).1⟩
  have z1 := z.1
  unfold lnF at z1
  by_cases k2 : yk S j = 2
  · exact k2
  · rw [if_neg k2] at z1; omega
end RDL
