/-! READING A RING: the reference's lines -/
section RDM
variable {S : TS} {G : Hp} {n : Nat} {D : DR} {s : Nat × Int}
def CM (S : TS) (n : Nat) (F : Int) (j : Nat) (D : DR) (G : Hp) (G' : Hp) : Prop := FE G G' ∧ MA S n F j G' ∧ (F = 0 → MD S D G')
theorem m_tld {k : Nat} (hk : k ≤ 31) {z : Int} (hz : z = k) : fX12_told 111 z G = some (G 117 (32 + k), G) := by
  unfold fX12_told
  rw [rf_111_10, hz, iadd_id (by omega) (by omega), rd_in (by omega) (by omega), br_s]
  rw [show ((32 : Int) + (k : Int)).toNat = 32 + k by omega]; rfl
theorem m_isNam (h : MJ S n s G) : WP (fX12_isName 111 G) (fun r _ => (r = 1 ∧ s.2 = 0 ∧ isN S s.1) ∨ (r = 0 ∧ ¬ (s.2 = 0 ∧ isN S s.1))) := by
  unfold fX12_isName
  have i := h.in
  have r := (rso_1 (yk_r (S := S) (j := s.1))).1
  rw [rf_111_4, h.2.2.2.1]
  refine w_ite (fun c => ?_) (fun c => w_rz (Or.inl rfl) (Or.inr ⟨rfl, fun y => c y.1⟩))
  refine w_rd i.1 i.2 (fun v1 e1 => ?_)
  rw [h.at, h.k] at e1
  refine w_ite (fun d => ?_) (fun d => w_rz (Or.inl rfl) (Or.inr ⟨rfl, fun y => d (by rw [e1]; exact r.mpr y.2.1)⟩))
  rw [e1] at d
  have k2 := r.mp d
  refine w_bpq (m_wordHere h (a := 0) (b := 22) (by omega) (za := 0) (zb := 22) rfl rfl) (fun v2 _ q => ?_)
  rcases q with ⟨a, b⟩ | ⟨k, a, b, u1, u2, u3⟩
  · refine w_ite (fun _ => w_rz (Or.inr rfl) (Or.inl ⟨rfl, c, k2, ?_⟩)) (fun y => by omega)
    rcases Int.lt_or_le (yw S s.1) 0 with y | y
    · exact Or.inl y
    · rcases Int.lt_or_le (yw S s.1) 22 with y2 | y2
      · exfalso
        refine b (yw S s.1).toNat (by omega) ⟨c, k2, ?_⟩
        show yw S s.1 = ((cixw (0 + (yw S s.1).toNat) : Nat) : Int)
        unfold cixw; rw [if_pos (by omega)]; omega
      · exact Or.inr y2
  · refine w_ite (fun y => by omega) (fun _ => w_rz (Or.inl rfl) (Or.inr ⟨rfl, fun y => ?_⟩))
    have ce : ((cixw (0 + k) : Nat) : Int) = k := by unfold cixw; rw [if_pos (by omega)]; omega
    rw [ce] at u3
    have := y.2.2
    omega
theorem m_nmAt (h : MJ S n s G) (k2 : yk S s.1 = 2) {a b : Nat} (hab : a + b ≤ 36) {za zb : Int} (ha : za = a) (hb : zb = b) : WP (fX12_nameAt 111 za zb G) (fun r _ => (r = -1 ∧ ∀ k : Nat, k < b → G 119 (a + k) ≠ yv S s.1) ∨ ∃ k : Nat, k < b ∧ r = k ∧ G 119 (a + k) = yv S s.1) := by
  subst ha; subst hb
  unfold fX12_nameAt
  have i := h.in
  rw [rf_111_13, rf_111_6]
  refine w_bd (fun v1 e1 => ?_)
  refine w_bd (fun v2 e2 => ?_)
  refine w_lpII (fun v3 v4 => ∃ m : Nat, v4 = m ∧ m ≤ b ∧ ((v3 = -1 ∧ ∀ k : Nat, k < m → G 119 (a + k) ≠ yv S s.1) ∨ ∃ k : Nat, k < m ∧ v3 = k ∧ G 119 (a + k) = yv S s.1)) (fun _ v4 => ((b : Int) - v4).toNat) (fun rc v3 v4 hI hr => ?_) v1 v2 ⟨0, e2, by omega, Or.inl ⟨e1, fun k hk => by omega⟩⟩ (by omega)
  obtain ⟨m, hm, hl, hd⟩ := hI
  refine w_ite (fun c => ?_) (fun c => ?_)
  · have ei : iadd (a : Int) v4 = ((a + m : Nat) : Int) := by rw [hm, iadd_id (by omega) (by omega)]; omega
    rw [ei]
    refine w_rd (by omega) (by omega) (fun v6 e6 => ?_)
    rw [Int.toNat_natCast] at e6
    refine w_rd i.1 i.2 (fun v7 e7 => ?_)
    rw [h.at, h.v (by omega) (by omega)] at e7
    refine w_jnK (fun v hv => ?_)
    refine w_bd (fun v10 e10 => ?_)
    refine w_bd (fun v11 e11 => ?_)
    rw [iadd_id (by omega) (by omega)] at e11
    refine hr v10 v11 ⟨m + 1, by omega, by omega, ?_⟩ (by omega)
    rcases hv with ⟨y, z⟩ | ⟨y, z⟩
    · exact Or.inr ⟨m, by omega, by omega, by rw [← e6, ← e7]; exact lcmp_z.mp y⟩
    · have ne : G 119 (a + m) ≠ yv S s.1 := fun u => y (lcmp_z.mpr (by rw [e6, e7]; exact u))
      rcases hd with ⟨d1, d2⟩ | ⟨k, d1, d2, d3⟩
      · refine Or.inl ⟨by omega, fun k hk => ?_⟩
        by_cases ek : k = m
        · rw [ek]; exact ne
        · exact d2 k (by omega)
      · exact Or.inr ⟨k, by omega, by omega, d3⟩
  · obtain rfl : m = b := by omega
    exact w_rt hd
def FNm (x : Nat) (G G' : Hp) : Prop := (∀ c, c ≠ 111 → c ≠ 119 → G' c = G c) ∧ (∀ k, k ≠ 7 → k ≠ 8 → G' 111 k = G 111 k) ∧ ∀ i, i ≠ x → G' 119 i = G 119 i
theorem FNm.o8 {x : Nat} {G' : Hp} (h : FM8 G G') : FNm x G G' := ⟨fun c a _ => h.1 c a, fun k a b => h.2 k a b, fun i _ => by rw [h.1 119 (by decide)]⟩
theorem FNm.tr {x : Nat} {G1 G2 : Hp} (h : FNm x G G1) (h' : FNm x G1 G2) : FNm x G G2 := ⟨fun c a b => (h'.1 c a b).trans (h.1 c a b), fun k a b => (h'.2.1 k a b).trans (h.2.1 k a b), fun i a => (h'.2.2 i a).trans (h.2.2 i a)⟩
theorem FNm.up {x : Nat} {v : Int} : FNm x G (up G 119 x v) := ⟨fun c _ b => up_ne b, fun k _ _ => by rw [up_ne (by decide)], fun i hi => by rw [up_at, if_neg (fun y => hi y.2)]⟩
theorem FE.oN {x : Nat} {G' : Hp} (hx : 18 ≤ x) (h : FNm x G G') : FE G G' := ⟨fun c a _ _ b => h.1 c a b, fun k a b _ => h.2.1 k a b, fun i _ => by rw [h.1 117 (by decide) (by decide)], fun i _ => by rw [h.1 118 (by decide) (by decide)], fun i hi => h.2.2 i (by omega)⟩
theorem m_rdNm {j a N M : Nat} (w : WTp S) (m : MJ S n (j, 0) G) (hk : yk S j ≠ 0) (d : MD S D G) (wd : WD S D) (hN : N ≤ M) (hM : a + M ≤ 18) {za zN zM : Int} (ha : za = a) (hn : zN = N) (hm : zM = M) : WP (fX12_readName 111 za zN zM G) (fun _ G' => FNm (18 + a + N) G G' ∧ MA S n (if N = M then flt S 5 j else nmR S D (j + 1)) (j + 2) G' ∧ (N ≠ M → nmR S D (j + 1) = 0 → G' 119 (18 + a + N) = yv S (j + 1))) := by
  subst ha; subst hn; subst hm
  have ib : N ≠ M → (0 : Int) ≤ ((18 + a + N : Nat) : Int) ∧ ((18 + a + N : Nat) : Int) < ((36 : Nat) : Int) := fun q => by omega
  have l1 := flt_r w (k := 1) (j := j + 1) (by decide)
  have l3 := flt_r w (k := 3) (j := j + 1) (by decide)
  have wN := wd.2.2.2.1
  have wK := wd.2.2.2.2.1
  unfold fX12_readName
  rw [rf_111_6, rf_111_13]
  by_cases c : N = M
  · rw [if_pos c]
    refine w_ite (fun _ => ?_) (fun y => absurd (by omega) y)
    exact w_bn (m_tWr w (Or.inl ⟨rfl, m⟩) (by decide) (by decide) (j2 := j + 2)) (fun _ g q => w_rt ⟨FNm.o8 q.1, q.2, fun y => absurd c y⟩)
  · rw [if_neg c]
    refine w_ite (fun y => absurd (by omega) c) (fun _ => ?_)
    refine w_bh (fun g1 e1 => ?_)
    have i1 := m_inc m hk
    rw [← e1] at i1
    have mj : MJ S n (j + 1, 0) g1 := i1.2
    have dd := d.f8 i1.1
    refine w_bpq (m_isNam mj) (fun v2 _ q2 => ?_)
    refine w_jnP (fun K4 hK => ?_)
    have fault : ∀ g, FM8 g1 g → MA S n (nmR S D (j + 1)) (j + 2) g → nmR S D (j + 1) ≠ 0 → WP (K4 g) (fun _ G' => FNm (18 + a + N) G G' ∧ MA S n (nmR S D (j + 1)) (j + 2) G' ∧ (N ≠ M → nmR S D (j + 1) = 0 → G' 119 (18 + a + N) = yv S (j + 1))) := by
      intro g fg ag ne
      rw [hK]
      refine w_ite (fun y => absurd (ag.f.1.symm.trans y) ne) (fun _ => w_rt ⟨FNm.o8 (i1.1.tr fg), ag, fun _ y => absurd y ne⟩)
    rcases q2 with ⟨a1, -, a3⟩ | ⟨a1, a2⟩
    · have nN : isN S (j + 1) := a3
      refine w_ite (fun y => by omega) (fun _ => ?_)
      refine w_bp (m_tld (k := 2) (by omega) rfl) (fun v8 e8 => ?_)
      have e8' : v8 = (dN D : Int) := e8.trans dd.2.2.1
      refine w_bpq (m_nmAt mj nN.1 (a := 18) (b := dN D) (by omega) (za := 18) rfl e8') (fun v9 _ q9 => ?_)
      refine w_jnP (fun K10 hK10 => ?_)
      have fnd : dNm S D (j + 1) → WP K10 (fun _ G' => FNm (18 + a + N) G G' ∧ MA S n (nmR S D (j + 1)) (j + 2) G' ∧ (N ≠ M → nmR S D (j + 1) = 0 → G' 119 (18 + a + N) = yv S (j + 1))) := by
        intro hd
        have ez : nmR S D (j + 1) = flt S 3 (j + 1) := by unfold nmR; rw [cif_t nN, cif_t hd]
        rw [hK10]
        exact w_bn (m_tWr w (Or.inl ⟨rfl, mj⟩) (by decide) (by decide) (j2 := j + 2)) (fun _ g q => fault g q.1 (by rw [ez]; exact q.2) (by omega))
      rcases q9 with ⟨b1, b2⟩ | ⟨k, b1, b2, b3⟩
      · refine w_ite (fun _ => ?_) (fun y => by omega)
        refine w_bp (m_tld (k := 3) (by omega) rfl) (fun v13 e13 => ?_)
        have e13' : v13 = (dK D : Int) := e13.trans dd.2.2.2.1
        refine w_bpq (m_nmAt mj nN.1 (a := 26) (b := dK D) (by omega) (za := 26) rfl e13') (fun v14 _ q14 => ?_)
        rcases q14 with ⟨c1, c2⟩ | ⟨k, c1, c2, c3⟩
        · refine w_ite (fun _ => ?_) (fun y => by omega)
          have nz : nmR S D (j + 1) = 0 := by
            refine (nmR_z w).mpr ⟨nN, ?_⟩
            rintro (⟨i, hi, he⟩ | ⟨i, hi, he⟩)
            · exact b2 i hi ((dd.2.2.2.2.2.2.1 i hi).2.2.trans he)
            · exact c2 i hi ((dd.2.2.2.2.2.2.2.1 i hi).2.trans he)
          have y8 : g1 111 8 = 0 := mj.2.2.2.1
          have y7 : g1 111 7 = ((j + 1 : Nat) : Int) := mj.2.2.1
          rw [hK]
          refine w_ite (fun _ => ?_) (fun y => absurd y8 y)
          refine w_rd mj.in.1 mj.in.2 (fun v5 e5 => ?_)
          rw [mj.at] at e5
          have e5' : v5 = yv S (j + 1) := by rw [e5]; exact mj.v (by have := nN.1; show yk S (j + 1) ≠ 0; omega) (by have := nN.1; show yk S (j + 1) ≠ 1; omega)
          have ei : iadd (iadd 18 (a : Int)) (N : Int) = ((18 + a + N : Nat) : Int) := by rw [iadd_id (a := 18) (by omega) (by omega), iadd_id (by omega) (by omega)]; omega
          rw [ei]
          refine w_wr (ib c).1 (ib c).2 (fun g6 e6 => ?_)
          rw [Int.toNat_natCast] at e6
          have m6 : MJ S n (j + 1, 0) g6 := mj.fr (by rw [e6, up_ne (by decide)]) (by rw [e6, up_ne (by decide)]) (by rw [e6, up_ne (by decide)]) (by rw [e6, up_ne (by decide)]) (by rw [e6, up_ne (by decide)]) (by rw [e6, up_ne (by decide)])
          refine w_bh (fun g7 e7 => ?_)
          have i7 := m_inc m6 (by have := nN.1; show yk S (j + 1) ≠ 0; omega)
          rw [← e7] at i7
          refine w_rt ⟨((FNm.o8 i1.1).tr (by rw [e6]; exact FNm.up)).tr (FNm.o8 i7.1), Or.inl ⟨nz, i7.2⟩, fun _ _ => ?_⟩
          rw [i7.1.1 119 (by decide), e6, up_at, if_pos ⟨rfl, rfl⟩]; exact e5'
        · refine w_ite (fun y => by omega) (fun _ => ?_)
          exact fnd (Or.inr ⟨k, c1, (dd.2.2.2.2.2.2.2.1 k c1).2.symm.trans c3⟩)
      · refine w_ite (fun y => by omega) (fun _ => ?_)
        exact fnd (Or.inl ⟨k, b1, (dd.2.2.2.2.2.2.1 k b1).2.2.symm.trans b3⟩)
    · have nN : ¬ isN S (j + 1) := fun y => a2 ⟨rfl, y⟩
      have ez : nmR S D (j + 1) = flt S 1 (j + 1) := by unfold nmR; rw [cif_f nN]
      refine w_ite (fun _ => ?_) (fun y => absurd a1 y)
      exact w_bn (m_tWr w (Or.inl ⟨rfl, mj⟩) (by decide) (by decide) (j2 := j + 2)) (fun _ g q => fault g q.1 (by rw [ez]; exact q.2) (by omega))
theorem MA.in {F : Int} {j : Nat} (h : MA S n F j G) : 0 ≤ G 111 7 ∧ G 111 7 < ((1002 : Nat) : Int) := by
  rcases h with ⟨_, b⟩ | ⟨_, _, b⟩
  · exact b.in
  · exact b.in
theorem pcR_m (w : WTp S) (wd : WD S D) {j : Nat} : orF (cif (yk S j = 3 ∧ ∃ i, i < dN D ∧ dpl D i = yv S j) (flt S 3 j) 0) (nuR S 0 (dC D - 1) j) = pcR S D j := by
  have l3 := flt_r w (k := 3) (j := j) (by decide)
  unfold pcR
  by_cases c : yk S j = 3 ∧ ∃ i, i < dN D ∧ dpl D i = yv S j
  · obtain ⟨c1, i, c2, c3⟩ := c
    have q := (wd.2.2.2.2.2.1 i c2).1
    rw [cif_t ⟨c1, i, c2, c3⟩, orF_n (by omega), (nuR_z w).mpr ⟨c1, by omega, by omega⟩, orF_0, cif_t ⟨i, c2, c3⟩]
  · rw [cif_f c, orF_0]
    by_cases k : yk S j = 3
    · rw [cif_f (fun y => c ⟨k, y⟩), orF_r]
    · have : nuR S 0 (dC D - 1) j = flt S 1 j := by unfold nuR; rw [cif_f k]
      have l1 := flt_r w (k := 1) (j := j) (by decide)
      rw [this, orF_n (by omega)]
theorem m_rdNo {j : Nat} (w : WTp S) (m : MJ S n (j, 0) G) (hk : yk S j ≠ 0) (d : MD S D G) (wd : WD S D) : WP (fX12_readNode 111 G) (fun _ G' => CM S n (noF S D j) (j + 5) (eN D (yw S (j + 2) - 15) (yv S (j + 4)) (j + 1)) G G') := by
  have l5 := flt_r w (k := 5) (j := j) (by decide)
  have l3 := flt_r w (k := 3) (j := j + 4) (by decide)
  have wN := wd.2.2.2.1
  have wC := wd.1
  unfold fX12_readNode
  rw [rf_111_4, rf_111_6, rf_111_10]
  refine w_bp (m_tld (k := 2) (by omega) rfl) (fun v1 e1 => ?_)
  refine w_bd (fun v2 e2 => ?_)
  have hv2 : v2 = (dN D : Int) := by rw [e2, e1]; exact d.2.2.1
  refine w_bn (m_rdNm w m hk d wd (a := 0) (N := dN D) (M := 8) wN (by omega) (za := 0) (zM := 8) rfl hv2 rfl) (fun _ g3 q3 => ?_)
  obtain ⟨f3, a3, n3⟩ := q3
  refine w_bn (m_tOne w a3) (fun v4 g5 q5 => ?_)
  obtain ⟨f5, a5, n5⟩ := q5
  refine w_bd (fun v6 e6 => ?_)
  refine w_bn (m_tWd w a5 (c := 4) (by decide) (z := 4) rfl) (fun _ g7 q7 => ?_)
  obtain ⟨f7, a7'⟩ := q7
  have a7 : MA S n (orF (orF (if dN D = 8 then flt S 5 j else nmR S D (j + 1)) (wdR S 15 18 (j + 2))) (wdR S 4 4 (j + 3))) (j + 4) g7 := a7'
  have fA := f5.tr f7
  refine w_jnP (fun K9 hK => ?_)
  have eqF : orF (orF (orF (if dN D = 8 then flt S 5 j else nmR S D (j + 1)) (wdR S 15 18 (j + 2))) (wdR S 4 4 (j + 3))) (pcR S D (j + 4)) = noF S D j := by
    unfold noF
    by_cases c : dN D = 8
    · rw [if_pos c, if_pos c, orF_a, orF_a, orF_n (by omega)]
    · rw [if_neg c, if_neg c, orF_a, orF_a]
  have k9 : ∀ g, FM8 g7 g → MA S n (orF (orF (orF (if dN D = 8 then flt S 5 j else nmR S D (j + 1)) (wdR S 15 18 (j + 2))) (wdR S 4 4 (j + 3))) (cif (yk S (j + 4) = 3 ∧ ∃ i, i < dN D ∧ dpl D i = yv S (j + 4)) (flt S 3 (j + 4)) 0)) (j + 4) g → WP (K9 g) (fun _ G' => CM S n (noF S D j) (j + 5) (eN D (yw S (j + 2) - 15) (yv S (j + 4)) (j + 1)) G G') := by
    intro g fg ag
    rw [hK]
    have c117 : g 117 = G 117 := by rw [fg.1 117 (by decide), fA.1 117 (by decide), f3.1 117 (by decide) (by decide)]
    refine w_bp (m_tld (k := 0) (by omega) rfl) (fun v10 e10 => ?_)
    have e10' : v10 = dC D := by rw [e10, c117]; exact d.1
    rw [e10', isub_id (by omega) (by omega)]
    refine w_bn (m_tNu w ag) (fun v11 g12 q12 => ?_)
    obtain ⟨f12, a12, n12⟩ := q12
    rw [orF_a, pcR_m w wd, eqF] at a12 n12
    refine w_bd (fun v13 e13 => ?_)
    have fB := (fA.tr fg).tr f12
    have FB : FE G g12 := (FE.oN (by omega) f3).tr (FE.o8 fB)
    by_cases z : noF S D j = 0
    · have z' := z
      unfold noF at z'
      by_cases c8 : dN D = 8
      · rw [if_pos c8] at z'; omega
      rw [if_neg c8] at z'
      have z1 := orF_z z'
      have z2 := orF_z z1.2
      refine w_ite (fun _ => ?_) (fun y => absurd (a12.f.1.trans z) y)
      have x6 : v6 = yw S (j + 2) - 15 := e6.trans (n5 (by rw [if_neg c8, z1.1, orF_0]; exact z2.1))
      have x13 : v13 = yv S (j + 4) := e13.trans (n12 z)
      have xn := n3 c8 z1.1
      rw [hv2, iadd_id (by omega) (by omega), iadd_id (by omega) (by omega)]
      refine w_wr (by omega) (by omega) (fun g14 e14 => ?_)
      refine w_wr (by omega) (by omega) (fun g15 e15 => ?_)
      refine w_rd (by omega) (by omega) (fun v16 e16 => ?_)
      refine w_wr (by omega) (by omega) (fun g17 e17 => w_rt ?_)
      rw [show ((38 : Int) + (dN D : Int)).toNat = 38 + dN D by omega] at e14
      rw [show ((46 : Int) + (dN D : Int)).toNat = 46 + dN D by omega] at e15
      rw [show (34 : Int).toNat = 34 from rfl] at e16 e17
      have c12 : g12 117 = G 117 := by rw [f12.1 117 (by decide), c117]
      have x16 : v16 = (dN D : Int) := by rw [e16, e15, up_at, if_neg (by omega), e14, up_at, if_neg (by omega), c12]; exact d.2.2.1
      rw [x16, iadd_id (by omega) (by omega)] at e17
      have h0 : ∀ c, c ≠ 117 → g17 c = g12 c := fun c hc => by rw [e17, up_ne hc, e15, up_ne hc, e14, up_ne hc]
      have h1 : ∀ i, i ≠ 34 → i ≠ 38 + dN D → i ≠ 46 + dN D → g17 117 i = G 117 i := fun i x y u => by
        rw [e17, up_at, if_neg (fun t => x t.2), e15, up_at, if_neg (fun t => u t.2), e14, up_at, if_neg (fun t => y t.2), c12]
      have n119 : ∀ i, g17 119 i = g3 119 i := fun i => by rw [h0 119 (by decide), fB.1 119 (by decide)]
      refine ⟨FB.tr ?_, a12.fr (h0 113 (by decide)) (h0 114 (by decide)) (h0 115 (by decide)) (h0 116 (by decide)) (by rw [h0 111 (by decide)]) (by rw [h0 111 (by decide)]), fun _ => ?_⟩
      · rw [e17, e15, e14]; exact ((FE.up (by omega)).tr (FE.up (by omega))).tr (FE.up (by omega))
      · obtain ⟨b1, b2, b3, b4, b5, b6, b7, b8, b9⟩ := d
        refine ⟨(h1 32 (by omega) (by omega) (by omega)).trans b1, (h1 33 (by omega) (by omega) (by omega)).trans b2, ?_, (h1 35 (by omega) (by omega) (by omega)).trans b4, (h1 36 (by omega) (by omega) (by omega)).trans b5, (h1 37 (by omega) (by omega) (by omega)).trans b6, fun i hi => ?_, fun i hi => ?_, ?_⟩
        · rw [e17, up_at, if_pos ⟨rfl, rfl⟩]; rfl
        · have hi' : i < dN D + 1 := hi
          show _ = (if i = dN D then yw S (j + 2) - 15 else dkd D i) ∧ _ = (if i = dN D then yv S (j + 4) else dpl D i) ∧ _ = yv S (if i = dN D then j + 1 else dnn D i)
          by_cases ei : i = dN D
          · rw [if_pos ei, if_pos ei, if_pos ei, ei]
            refine ⟨?_, ?_, ?_⟩
            · rw [e17, up_at, if_neg (by omega), e15, up_at, if_neg (by omega), e14, up_at, if_pos ⟨rfl, rfl⟩]; exact x6
            · rw [e17, up_at, if_neg (by omega), e15, up_at, if_pos ⟨rfl, rfl⟩]; exact x13
            · rw [n119]; exact xn
          · rw [if_neg ei, if_neg ei, if_neg ei]
            have q := b7 i (by omega)
            refine ⟨(h1 _ (by omega) (by omega) (by omega)).trans q.1, (h1 _ (by omega) (by omega) (by omega)).trans q.2.1, ?_⟩
            rw [n119, f3.2.2 _ (by omega)]; exact q.2.2
        · have q := b8 i hi
          have hi10 : i < 10 := Nat.lt_of_lt_of_le hi wd.2.2.2.2.1
          refine ⟨(h1 _ (by omega) (by omega) (by omega)).trans q.1, ?_⟩
          rw [n119, f3.2.2 _ (by omega)]; exact q.2
        · refine MLw.fr b9 ?_ ?_
          · rw [h0 118 (by decide), fB.1 118 (by decide), f3.1 118 (by decide) (by decide)]
          · rw [h0 111 (by decide), fB.2 12 (by decide) (by decide), f3.2.1 12 (by decide) (by decide)]
    · exact w_ite (fun y => absurd (a12.f.1.symm.trans y) z) (fun _ => w_rt ⟨FB, a12, fun y => absurd y z⟩)
  by_cases z3 : orF (orF (if dN D = 8 then flt S 5 j else nmR S D (j + 1)) (wdR S 15 18 (j + 2))) (wdR S 4 4 (j + 3)) = 0
  · rw [z3] at a7 k9
    have m7 := a7.z
    have h8 : g7 111 8 = 0 := m7.2.2.2.1
    refine w_ite (fun _ => ?_) (fun y => absurd h8 y)
    refine w_rd m7.in.1 m7.in.2 (fun v18 e18 => ?_)
    rw [m7.at, m7.k] at e18
    have rk := (rso_1 (yk_r (S := S) (j := j + 4))).2.1
    refine w_ite (fun c => ?_) (fun c => ?_)
    · have k3 : yk S (j + 4) = 3 := rk.mp (by rw [← c, e18])
      refine w_bd (fun v19 e19 => ?_)
      refine w_lpIH (fun v20 g => ∃ k : Nat, v20 = k ∧ k ≤ dN D ∧ FM8 g7 g ∧ MA S n (cif (∃ i, i < k ∧ dpl D i = yv S (j + 4)) (flt S 3 (j + 4)) 0) (j + 4) g) (fun v20 _ => ((dN D : Int) - v20).toNat) (fun rc v20 g hI hr => ?_) v19 g7 ⟨0, e19, by omega, FM8.rf g7, by rw [cif_f (fun ⟨i, hi, _⟩ => absurd hi (Nat.not_lt_zero i))]; exact a7⟩ (by omega)
      obtain ⟨k, hk20, kl, fg, ag⟩ := hI
      rw [hv2]
      refine w_ite (fun c1 => ?_) (fun c1 => ?_)
      · have kN : k < dN D := by omega
        rw [hk20, iadd_id (by omega) (by omega)]
        refine w_bp (m_tld (k := 14 + k) (by omega) (by omega)) (fun v23 e23 => ?_)
        have p23 : v23 = dpl D k := by
          rw [e23, fg.1 117 (by decide), fA.1 117 (by decide), f3.1 117 (by decide) (by decide), show 32 + (14 + k) = 46 + k by omega]
          exact (d.2.2.2.2.2.2.1 k kN).2.1
        refine w_rd ag.in.1 ag.in.2 (fun v24 e24 => ?_)
        refine w_jnP (fun K26 hK26 => ?_)
        have nx : ∀ g', FM8 g7 g' → MA S n (cif (∃ i, i < k + 1 ∧ dpl D i = yv S (j + 4)) (flt S 3 (j + 4)) 0) (j + 4) g' → WP (K26 g') (fun _ G' => CM S n (noF S D j) (j + 5) (eN D (yw S (j + 2) - 15) (yv S (j + 4)) (j + 1)) G G') := by
          intro g' fg' ag'
          rw [hK26]
          refine w_bd (fun v27 e27 => ?_)
          rw [iadd_id (by omega) (by omega)] at e27
          exact hr v27 g' ⟨k + 1, by omega, by omega, fg', ag'⟩ (by omega)
        by_cases ex : ∃ i, i < k ∧ dpl D i = yv S (j + 4)
        · obtain ⟨i, i1, i2⟩ := ex
          rw [cif_t ⟨i, i1, i2⟩] at ag
          have ex2 : ∃ i, i < k + 1 ∧ dpl D i = yv S (j + 4) := ⟨i, by omega, i2⟩
          rw [cif_t ex2] at nx
          refine w_ite (fun _ => ?_) (fun _ => nx g fg ag)
          refine w_bn (m_tWr w ag (by decide) (by decide) (j2 := j + 4)) (fun _ g' q => nx g' (fg.tr q.1) (by have q2 := q.2; rw [orF_n (by omega)] at q2; exact q2))
        · rw [cif_f ex] at ag
          have mg := ag.z
          have y24 : v24 = yv S (j + 4) := by rw [e24, mg.at]; exact mg.v (by show yk S (j + 4) ≠ 0; omega) (by show yk S (j + 4) ≠ 1; omega)
          refine w_ite (fun c2 => ?_) (fun c2 => ?_)
          · have ex2 : ∃ i, i < k + 1 ∧ dpl D i = yv S (j + 4) := ⟨k, by omega, by rw [← p23, ← y24]; exact lcmp_z.mp c2⟩
            rw [cif_t ex2] at nx
            exact w_bn (m_tWr w ag (by decide) (by decide) (j2 := j + 4)) (fun _ g' q => nx g' (fg.tr q.1) q.2)
          · have ex2 : ¬ ∃ i, i < k + 1 ∧ dpl D i = yv S (j + 4) := by
              rintro ⟨i, i1, i2⟩
              by_cases ei : i = k
              · exact c2 (lcmp_z.mpr (by rw [p23, y24, ← ei]; exact i2))
              · exact ex ⟨i, by omega, i2⟩
            rw [cif_f ex2] at nx
            exact nx g fg ag
      · obtain rfl : k = dN D := by omega
        refine k9 g fg ?_
        by_cases ex : ∃ i, i < dN D ∧ dpl D i = yv S (j + 4)
        · rw [cif_t ex] at ag
          rw [orF_0, cif_t ⟨k3, ex⟩]; exact ag
        · rw [cif_f ex] at ag
          rw [orF_0, cif_f (fun y => ex y.2)]; exact ag
    · have k3 : yk S (j + 4) ≠ 3 := fun y => c (by rw [e18]; exact rk.mpr y)
      refine k9 g7 (FM8.rf g7) ?_
      rw [orF_0, cif_f (fun y => k3 y.1)]; exact a7
  · refine w_ite (fun y => absurd (a7.f.1.symm.trans y) z3) (fun _ => ?_)
    refine k9 g7 (FM8.rf g7) ?_
    rw [orF_n z3]; exact a7
end RDM
