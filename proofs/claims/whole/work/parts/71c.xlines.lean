/-! READING A RING: the class's lines -/
section RDX
variable {S : TS} {G : Hp} {n : Nat} {D : DR}
def CXl (S : TS) (F : Int) (j : Nat) (D : DR) (G : Hp) (v : Int) (G' : Hp) : Prop := FD G G' ∧ ((F = 0 ∧ v = 1 ∧ XJ S j 0 G' ∧ XD S D G') ∨ (F ≠ 0 ∧ v = 0 ∧ G' 1 8 = F))
noncomputable def ciF (S : TS) (D : DR) (j : Nat) : Int := if dC D = 0 then nuR S 8 256 (j + 1) else flt S 3 j
noncomputable def liF (S : TS) (D : DR) (j : Nat) : Int := if dS D = 0 then nuR S 1 4 (j + 1) else flt S 3 j
noncomputable def pcR (S : TS) (D : DR) (j : Nat) : Int := orF (nuR S 0 (dC D - 1) j) (cif (∃ i, i < dN D ∧ dpl D i = yv S j) (flt S 3 j) 0)
noncomputable def noF (S : TS) (D : DR) (j : Nat) : Int := if dN D = 8 then flt S 5 j else orF (nmR S D (j + 1)) (orF (wdR S 15 18 (j + 2)) (orF (wdR S 4 4 (j + 3)) (pcR S D (j + 4))))
noncomputable def keF (S : TS) (D : DR) (j : Nat) : Int := if dK D = 10 then flt S 5 j else orF (nmR S D (j + 1)) (orF (wdR S 4 4 (j + 2)) (nuR S 0 999 (j + 3)))
noncomputable def lwF (S : TS) (D : DR) (j : Nat) : Int := if dW D = none then (lawR S (j + 1)).1 else flt S 3 j
theorem x_rdCi {j : Nat} (w : WTp S) (h : XJ S j 0 G) (d : XD S D G) : WP (fX4_readCircle 11 G) (CXl S (ciF S D j) (j + 2) (eC D (yv S (j + 1))) G) := by
  have l3 := flt_r w (k := 3) (j := j) (by decide)
  unfold fX4_readCircle
  rw [rf_11_0, rf_11_1]
  refine w_ite (fun c => ?_) (fun c => ?_)
  · rw [d.1] at c
    have ef : ciF S D j = nuR S 8 256 (j + 1) := if_pos c
    refine w_bn (x_stp w h) (fun _ g1 q1 => ?_)
    refine w_bn (x_tNu w q1.2) (fun v2 g2 q2 => ?_)
    refine w_bd (fun v4 e4 => ?_)
    have f2 := q1.1.tr q2.1
    rcases q2.2 with ⟨a, b, x⟩ | ⟨a, b, x⟩
    · have z := (nuR_z w).mp a
      refine w_ite (fun y => by omega) (fun _ => ?_)
      refine w_bh (fun g3 e3 => ?_)
      have x3 : XJ S (j + 1) 0 g3 := x.fr (by rw [e3, up_ne (by decide)]) (by rw [e3, up_ne (by decide)]) (by rw [e3, up_ne (by decide)])
      refine w_bn (x_stp w x3) (fun _ g4 q4 => w_rz (Or.inr rfl) ⟨?_, Or.inl ⟨by rw [ef]; exact a, rfl, q4.2, ?_⟩⟩)
      · exact ((FD.o8 f2).tr (by rw [e3]; exact FD.up (by omega))).tr (FD.o8 q4.1)
      · obtain ⟨d1, d2, d3, d4, d5, d6, d7, d8⟩ := d.f8 f2
        refine XD.f8 (G := g3) ?_ q4.1
        rw [e3]
        refine ⟨by rw [up_at, if_pos ⟨rfl, rfl⟩, e4, b]; rfl, by rw [up_at, if_neg (by decide)]; exact d2, by rw [up_ne (by decide)]; exact d3, by rw [up_at, if_neg (by decide)]; exact d4, by rw [up_at, if_neg (by decide)]; exact d5, by rw [up_ne (by decide)]; exact d6, fun i hi => ?_, fun i hi => ?_⟩
        · rw [up_ne (by decide), up_ne (by decide), up_ne (by decide)]; exact d7 i hi
        · rw [up_ne (by decide), up_ne (by decide)]; exact d8 i hi
    · refine w_ite (fun _ => w_rz (Or.inl rfl) ⟨FD.o8 f2, Or.inr ⟨by rw [ef]; exact a, rfl, by rw [ef]; exact x.2.2.2⟩⟩) (fun y => absurd (by omega) y)
  · rw [d.1] at c
    have ef : ciF S D j = flt S 3 j := if_neg c
    exact w_bn (x_wr5 w h (by decide) (by decide)) (fun v g q => w_rz (Or.inl q.1) ⟨FD.o8 q.2.1, Or.inr ⟨by omega, q.1, by rw [ef]; exact q.2.2⟩⟩)
theorem x_rdLi {j : Nat} (w : WTp S) (h : XJ S j 0 G) (d : XD S D G) : WP (fX4_readList 11 G) (CXl S (liF S D j) (j + 2) (eL D (yv S (j + 1))) G) := by
  have l3 := flt_r w (k := 3) (j := j) (by decide)
  unfold fX4_readList
  rw [rf_11_0, rf_11_1]
  refine w_ite (fun c => ?_) (fun c => ?_)
  · rw [d.2.2.1] at c
    have ef : liF S D j = nuR S 1 4 (j + 1) := if_pos c
    refine w_bn (x_stp w h) (fun _ g1 q1 => ?_)
    refine w_bn (x_tNu w q1.2) (fun v2 g2 q2 => ?_)
    refine w_bd (fun v4 e4 => ?_)
    have f2 := q1.1.tr q2.1
    rcases q2.2 with ⟨a, b, x⟩ | ⟨a, b, x⟩
    · have z := (nuR_z w).mp a
      refine w_ite (fun y => by omega) (fun _ => ?_)
      refine w_bh (fun g3 e3 => ?_)
      refine w_pz (Or.inr rfl) ?_
      refine w_bh (fun g5 e5 => ?_)
      have x3 : XJ S (j + 1) 0 g5 := x.fr (by rw [e5, e3, up_ne (by decide), up_ne (by decide)]) (by rw [e5, e3, up_ne (by decide), up_ne (by decide)]) (by rw [e5, e3, up_ne (by decide), up_ne (by decide)])
      refine w_bn (x_stp w x3) (fun _ g4 q4 => w_rz (Or.inr rfl) ⟨?_, Or.inl ⟨by rw [ef]; exact a, rfl, q4.2, ?_⟩⟩)
      · exact (FDu (FDu (FD.o8 f2) e3 (by omega)) e5 (by omega)).tr (FD.o8 q4.1)
      · obtain ⟨d1, d2, d3, d4, d5, d6, d7, d8⟩ := d.f8 f2
        refine XD.f8 (G := g5) ?_ q4.1
        rw [e5, e3]
        refine ⟨by rw [up_ne (by decide), up_at, if_neg (by decide)]; exact d1, by rw [up_ne (by decide), up_at, if_pos ⟨rfl, rfl⟩, e4, b]; rfl, by rw [up_at, if_pos ⟨rfl, rfl⟩]; rfl, by rw [up_ne (by decide), up_at, if_neg (by decide)]; exact d4, by rw [up_ne (by decide), up_at, if_neg (by decide)]; exact d5, by rw [up_at, if_neg (by decide), up_ne (by decide)]; exact d6, fun i hi => ?_, fun i hi => ?_⟩
        · rw [up_ne (by decide), up_ne (by decide), up_ne (by decide), up_ne (by decide), up_ne (by decide), up_ne (by decide)]; exact d7 i hi
        · rw [up_ne (by decide), up_ne (by decide), up_ne (by decide), up_ne (by decide)]; exact d8 i hi
    · refine w_ite (fun _ => w_rz (Or.inl rfl) ⟨FD.o8 f2, Or.inr ⟨by rw [ef]; exact a, rfl, by rw [ef]; exact x.2.2.2⟩⟩) (fun y => absurd (by omega) y)
  · rw [d.2.2.1] at c
    have ef : liF S D j = flt S 3 j := if_neg c
    exact w_bn (x_wr5 w h (by decide) (by decide)) (fun v g q => w_rz (Or.inl q.1) ⟨FD.o8 q.2.1, Or.inr ⟨by omega, q.1, by rw [ef]; exact q.2.2⟩⟩)
theorem x_rdKe {j : Nat} (w : WTp S) (h : XJ S j 0 G) (d : XD S D G) (wd : WD S D) : WP (fX4_readKey 11 G) (CXl S (keF S D j) (j + 4) (eK D (yv S (j + 3)) (j + 1)) G) := by
  have l5 := flt_r w (k := 5) (j := j) (by decide)
  have wK := wd.2.2.2.2.1
  unfold fX4_readKey
  rw [rf_11_0, rf_11_1, rf_12_7, rf_12_9]
  refine w_bd (fun v1 e1 => ?_)
  rw [d.2.2.2.2.1] at e1
  refine w_ite (fun c => ?_) (fun c => ?_)
  · have ef : keF S D j = orF (nmR S D (j + 1)) (orF (wdR S 4 4 (j + 2)) (nuR S 0 999 (j + 3))) := if_neg (by omega)
    refine w_bn (x_stp w h) (fun _ g1 q1 => ?_)
    have dd := d.f8 q1.1
    refine w_bn (x_newNm w q1.2 dd wd) (fun v3 g2 q2 => ?_)
    rcases q2.2 with ⟨n1, n2, n3⟩ | ⟨n1, n2, n3⟩
    · refine w_ite (fun y => by omega) (fun _ => ?_)
      rw [n3]
      have hn := ((nmR_z w).mp n1).1
      refine w_wr (by omega) (by omega) (fun g3 e3 => ?_)
      rw [e1, Int.toNat_natCast, (x_wix q1.2 hn.1).2] at e3
      have x3 : XJ S (j + 1) 0 g3 := q1.2.fr (by rw [e3, up_ne (by decide)]) (by rw [e3, up_ne (by decide)]) (by rw [e3, up_ne (by decide)])
      have F3 : FD G g3 := (FD.o8 q1.1).tr (by rw [e3]; exact FD.up (by omega))
      refine w_bn (x_stp w x3) (fun _ g4 q4 => ?_)
      refine w_bn (x_tWd w q4.2 4) (fun v7 g5 q5 => ?_)
      have F5 := F3.tr (FD.o8 (q4.1.tr q5.1))
      rcases q5.2 with ⟨o1, o2, o3⟩ | ⟨o1, o2, o3⟩
      · refine w_ite (fun y => by omega) (fun _ => ?_)
        refine w_bn (x_tNu w o3) (fun v9 g6 q6 => ?_)
        refine w_bd (fun v11 e11 => ?_)
        have f6 := (q4.1.tr q5.1).tr q6.1
        have F6 := F3.tr (FD.o8 f6)
        rcases q6.2 with ⟨a, b, x⟩ | ⟨a, b, x⟩
        · have z := (nuR_z w).mp a
          refine w_ite (fun y => by omega) (fun _ => ?_)
          refine w_wr (by omega) (by omega) (fun g7 e7 => ?_)
          rw [e1, Int.toNat_natCast] at e7
          refine w_bh (fun g8 e8 => ?_)
          rw [iadd_id (by omega) (by omega)] at e8
          have x8 : XJ S (j + 3) 0 g8 := x.fr (by rw [e8, e7, up_ne (by decide), up_ne (by decide)]) (by rw [e8, e7, up_ne (by decide), up_ne (by decide)]) (by rw [e8, e7, up_ne (by decide), up_ne (by decide)])
          refine w_bn (x_stp w x8) (fun _ g9 q9 => w_rz (Or.inr rfl) ⟨?_, Or.inl ⟨by rw [ef, n1, o1, a]; rfl, rfl, q9.2, ?_⟩⟩)
          · exact (FDu (FDu F6 e7 (by omega)) e8 (by omega)).tr (FD.o8 q9.1)
          · obtain ⟨d1, d2, d3, d4, d5, d6, d7, d8⟩ := dd
            have k : ∀ c, c ≠ 1 → c ≠ 18 → g6 c = g1 c := fun c a b => by rw [f6.1 c a, e3, up_ne b]
            have hg : ∀ c, c ≠ 12 → c ≠ 16 → g8 c = g6 c := fun c a b => by rw [e8, e7, up_ne a, up_ne b]
            have h12 : ∀ i, i ≠ 3 → g8 12 i = g1 12 i := fun i hi => by rw [e8, e7, up_at, if_neg (fun y => hi y.2), up_ne (by decide), k 12 (by decide) (by decide)]
            refine XD.f8 (G := g8) ?_ q9.1
            refine ⟨(h12 0 (by decide)).trans d1, (h12 1 (by decide)).trans d2, ?_, (h12 2 (by decide)).trans d4, ?_, ?_, fun i hi => ?_, fun i hi => ?_⟩
            · rw [hg 11 (by decide) (by decide), k 11 (by decide) (by decide)]; exact d3
            · rw [e8, up_at, if_pos ⟨rfl, rfl⟩, e1]; rfl
            · rw [hg 11 (by decide) (by decide), k 11 (by decide) (by decide)]; exact d6
            · rw [hg 13 (by decide) (by decide), hg 14 (by decide) (by decide), hg 15 (by decide) (by decide), k 13 (by decide) (by decide), k 14 (by decide) (by decide), k 15 (by decide) (by decide)]; exact d7 i hi
            · have hi' : i < dK D + 1 := hi
              have a16 : g8 16 i = if i = dK D then v11 else g1 16 i := by
                rw [e8, e7, up_ne (by decide), up_at, k 16 (by decide) (by decide)]
                by_cases ei : i = dK D
                · rw [if_pos ⟨rfl, ei⟩, if_pos ei]
                · rw [if_neg (fun y => ei y.2), if_neg ei]
              have a18 : g8 18 i = if i = dK D then yl S (j + 1) else g1 18 i := by
                rw [hg 18 (by decide) (by decide), f6.1 18 (by decide), e3, up_at]
                by_cases ei : i = dK D
                · rw [if_pos ⟨rfl, ei⟩, if_pos ei]
                · rw [if_neg (fun y => ei y.2), if_neg ei]
              rw [a16, a18]
              show _ = (if i = dK D then yv S (j + 3) else dkp D i) ∧ _ = yl S (if i = dK D then j + 1 else dkn D i)
              by_cases ei : i = dK D
              · rw [if_pos ei, if_pos ei, if_pos ei, if_pos ei]; exact ⟨e11.trans b, rfl⟩
              · rw [if_neg ei, if_neg ei, if_neg ei, if_neg ei]; exact d8 i (by omega)
        · refine w_ite (fun _ => w_rz (Or.inl rfl) ⟨F6, Or.inr ⟨by rw [ef, n1, o1]; exact a, rfl, by rw [ef, n1, o1]; exact x.2.2.2⟩⟩) (fun y => absurd (by omega) y)
      · refine w_ite (fun _ => w_rz (Or.inl rfl) ⟨F5, Or.inr ⟨?_, rfl, ?_⟩⟩) (fun y => absurd o2 y)
        · rw [ef, n1, orF_0, orF_n o1]; exact o1
        · rw [ef, n1, orF_0, orF_n o1]; exact o3
    · refine w_ite (fun _ => w_rz (Or.inl rfl) ⟨(FD.o8 q1.1).tr (FD.o8 q2.1), Or.inr ⟨?_, rfl, ?_⟩⟩) (fun y => absurd n2 y)
      · rw [ef, orF_n n1]; exact n1
      · rw [ef, orF_n n1]; exact n3
  · have ef : keF S D j = flt S 5 j := if_pos (by omega)
    exact w_bn (x_wr5 w h (by decide) (by decide)) (fun v g q => w_rz (Or.inl q.1) ⟨FD.o8 q.2.1, Or.inr ⟨by omega, q.1, by rw [ef]; exact q.2.2⟩⟩)
theorem pcR_t (w : WTp S) {j : Nat} : pcR S D j = 0 ↔ (yk S j = 3 ∧ 0 ≤ yv S j ∧ yv S j ≤ dC D - 1) ∧ ∀ i, i < dN D → dpl D i ≠ yv S j := by
  have l3 := flt_r w (k := 3) (j := j) (by decide)
  unfold pcR
  constructor
  · intro z
    have q := orF_z z
    refine ⟨(nuR_z w).mp q.1, fun i hi e => ?_⟩
    rw [cif_t ⟨i, hi, e⟩] at q
    omega
  · rintro ⟨a, b⟩
    rw [(nuR_z w).mpr a, orF_0, cif_f (fun ⟨i, hi, e⟩ => b i hi e)]
theorem x_rdNo {j : Nat} (w : WTp S) (h : XJ S j 0 G) (d : XD S D G) (wd : WD S D) : WP (fX4_readNode 11 G) (CXl S (noF S D j) (j + 5) (eN D (yw S (j + 2) - 15) (yv S (j + 4)) (j + 1)) G) := by
  have l5 := flt_r w (k := 5) (j := j) (by decide)
  have l1 := flt_r w (k := 1) (j := j + 2) (by decide)
  have l3 := flt_r w (k := 3) (j := j + 4) (by decide)
  have wN := wd.2.2.2.1
  have wC := wd.1
  unfold fX4_readNode
  rw [rf_11_0, rf_11_1, rf_12_4, rf_12_5, rf_12_6]
  refine w_bd (fun v1 e1 => ?_)
  rw [d.2.2.2.1] at e1
  refine w_ite (fun c => ?_) (fun c => ?_)
  · have ef : noF S D j = orF (nmR S D (j + 1)) (orF (wdR S 15 18 (j + 2)) (orF (wdR S 4 4 (j + 3)) (pcR S D (j + 4)))) := if_neg (by omega)
    refine w_bn (x_stp w h) (fun _ g1 q1 => ?_)
    have dd := d.f8 q1.1
    refine w_bn (x_newNm w q1.2 dd wd) (fun v3 g2 q2 => ?_)
    rcases q2.2 with ⟨n1, n2, n3⟩ | ⟨n1, n2, n3⟩
    · refine w_ite (fun y => by omega) (fun _ => ?_)
      rw [n3]
      have hn := ((nmR_z w).mp n1).1
      refine w_wr (by omega) (by omega) (fun g3 e3 => ?_)
      rw [e1, Int.toNat_natCast, (x_wix q1.2 hn.1).2] at e3
      have x3 : XJ S (j + 1) 0 g3 := q1.2.fr (by rw [e3, up_ne (by decide)]) (by rw [e3, up_ne (by decide)]) (by rw [e3, up_ne (by decide)])
      have F3 : FD G g3 := (FD.o8 q1.1).tr (by rw [e3]; exact FD.up (by omega))
      refine w_bn (x_stp w x3) (fun _ g4 q4 => ?_)
      rw [x_isWrd q4.2, bp_s]
      by_cases kd : yk S (j + 2) = 2 ∧ 15 ≤ yw S (j + 2) ∧ yw S (j + 2) ≤ 18
      · have k1 : wdR S 15 18 (j + 2) = 0 := (wdR_z w).mpr kd
        rw [if_pos kd, if_neg (by decide)]
        refine w_wr (by omega) (by omega) (fun g5 e5 => ?_)
        have k6 : g4 1 6 = yw S (j + 2) := (x_wix q4.2 kd.1).1
        rw [e1, Int.toNat_natCast, k6, isub_id (by omega) (by omega)] at e5
        have x5 : XJ S (j + 2) 0 g5 := q4.2.fr (by rw [e5, up_ne (by decide)]) (by rw [e5, up_ne (by decide)]) (by rw [e5, up_ne (by decide)])
        have F5 : FD G g5 := (F3.tr (FD.o8 q4.1)).tr (by rw [e5]; exact FD.up (by omega))
        refine w_bn (x_stp w x5) (fun _ g6 q6 => ?_)
        refine w_bn (x_tWd w q6.2 4) (fun v10 g7 q7 => ?_)
        have f7 := q6.1.tr q7.1
        rcases q7.2 with ⟨o1, o2, o3⟩ | ⟨o1, o2, o3⟩
        · refine w_ite (fun y => by omega) (fun _ => ?_)
          have k7 : ∀ c, c ≠ 1 → c ≠ 13 → c ≠ 15 → g7 c = g1 c := fun c a b b' => by rw [f7.1 c a, e5, up_ne b, q4.1.1 c a, e3, up_ne b']
          have c7 : g7 12 0 = dC D := by rw [k7 12 (by decide) (by decide) (by decide)]; exact dd.1
          rw [c7, isub_id (by omega) (by omega)]
          refine w_bn (x_tNu w o3) (fun v12 g8 q8 => ?_)
          refine w_bd (fun v14 e14 => ?_)
          have f8 := f7.tr q8.1
          have F8 := F5.tr (FD.o8 f8)
          have k8 : ∀ c, c ≠ 1 → c ≠ 13 → c ≠ 15 → g8 c = g1 c := fun c a b b' => by rw [q8.1.1 c a, k7 c a b b']
          rcases q8.2 with ⟨a, b, x⟩ | ⟨a, b, x⟩
          · have z := (nuR_z w).mp a
            refine w_ite (fun y => by omega) (fun _ => ?_)
            refine w_bpq (x_ndAt (q := 12) (c := 14) (N := dN D) rf_12_5 wN (by rw [k8 12 (by decide) (by decide) (by decide)]; exact dd.2.2.2.1)) (fun v15 _ q15 => ?_)
            have e14' : v14 = yv S (j + 4) := e14.trans b
            have p14 : ∀ i, i < dN D → g8 14 i = dpl D i := fun i hi => by rw [k8 14 (by decide) (by decide) (by decide)]; exact (dd.2.2.2.2.2.2.1 i hi).2.1
            rcases q15.2 with ⟨u1, u2⟩ | ⟨i, u1, u2, u3⟩
            · refine w_ite (fun _ => ?_) (fun y => absurd u1 y)
              have pz : pcR S D (j + 4) = 0 := (pcR_t w).mpr ⟨z, fun i hi e => u2 i hi (by rw [p14 i hi, e, e14'])⟩
              refine w_wr (by omega) (by omega) (fun g9 e9 => ?_)
              rw [e1, Int.toNat_natCast] at e9
              refine w_bh (fun g10 e10 => ?_)
              rw [iadd_id (by omega) (by omega)] at e10
              have x10 : XJ S (j + 4) 0 g10 := x.fr (by rw [e10, e9, up_ne (by decide), up_ne (by decide)]) (by rw [e10, e9, up_ne (by decide), up_ne (by decide)]) (by rw [e10, e9, up_ne (by decide), up_ne (by decide)])
              refine w_bn (x_stp w x10) (fun _ g11 q11 => w_rz (Or.inr rfl) ⟨?_, Or.inl ⟨by rw [ef, n1, k1, o1, pz]; rfl, rfl, q11.2, ?_⟩⟩)
              · exact (FDu (FDu F8 e9 (by omega)) e10 (by omega)).tr (FD.o8 q11.1)
              · obtain ⟨d1, d2, d3, d4, d5, d6, d7, d8⟩ := dd
                have hg : ∀ c, c ≠ 12 → c ≠ 14 → g10 c = g8 c := fun c a b => by rw [e10, e9, up_ne a, up_ne b]
                have h12 : ∀ i, i ≠ 2 → g10 12 i = g1 12 i := fun i hi => by rw [e10, e9, up_at, if_neg (fun y => hi y.2), up_ne (by decide), k8 12 (by decide) (by decide) (by decide)]
                refine XD.f8 (G := g10) ?_ q11.1
                refine ⟨(h12 0 (by decide)).trans d1, (h12 1 (by decide)).trans d2, ?_, ?_, (h12 3 (by decide)).trans d5, ?_, fun i hi => ?_, fun i hi => ?_⟩
                · rw [hg 11 (by decide) (by decide), k8 11 (by decide) (by decide) (by decide)]; exact d3
                · rw [e10, up_at, if_pos ⟨rfl, rfl⟩, e1]; rfl
                · rw [hg 11 (by decide) (by decide), k8 11 (by decide) (by decide) (by decide)]; exact d6
                · have hi' : i < dN D + 1 := hi
                  have a13 : g10 13 i = if i = dN D then yw S (j + 2) - 15 else g1 13 i := by
                    rw [hg 13 (by decide) (by decide), f8.1 13 (by decide), e5, up_at, q4.1.1 13 (by decide), e3, up_ne (by decide)]
                    by_cases ei : i = dN D
                    · rw [if_pos ⟨rfl, ei⟩, if_pos ei]
                    · rw [if_neg (fun y => ei y.2), if_neg ei]
                  have a14 : g10 14 i = if i = dN D then v14 else g1 14 i := by
                    rw [e10, e9, up_ne (by decide), up_at, k8 14 (by decide) (by decide) (by decide)]
                    by_cases ei : i = dN D
                    · rw [if_pos ⟨rfl, ei⟩, if_pos ei]
                    · rw [if_neg (fun y => ei y.2), if_neg ei]
                  have a15 : g10 15 i = if i = dN D then yl S (j + 1) else g1 15 i := by
                    rw [hg 15 (by decide) (by decide), f8.1 15 (by decide), e5, up_ne (by decide), q4.1.1 15 (by decide), e3, up_at]
                    by_cases ei : i = dN D
                    · rw [if_pos ⟨rfl, ei⟩, if_pos ei]
                    · rw [if_neg (fun y => ei y.2), if_neg ei]
                  rw [a13, a14, a15]
                  show _ = (if i = dN D then yw S (j + 2) - 15 else dkd D i) ∧ _ = (if i = dN D then yv S (j + 4) else dpl D i) ∧ _ = yl S (if i = dN D then j + 1 else dnn D i)
                  by_cases ei : i = dN D
                  · rw [if_pos ei, if_pos ei, if_pos ei, if_pos ei, if_pos ei, if_pos ei]; exact ⟨rfl, e14', rfl⟩
                  · rw [if_neg ei, if_neg ei, if_neg ei, if_neg ei, if_neg ei, if_neg ei]; exact d7 i (by omega)
                · rw [hg 16 (by decide) (by decide), hg 18 (by decide) (by decide), k8 16 (by decide) (by decide) (by decide), k8 18 (by decide) (by decide) (by decide)]; exact d8 i hi
            · refine w_ite (fun y => by omega) (fun _ => ?_)
              have pz : pcR S D (j + 4) = flt S 3 (j + 4) := by
                unfold pcR; rw [a, orF_0, cif_t ⟨i, u1, by rw [← p14 i u1, u3, e14']⟩]
              refine w_bn (x_wr5 w x (by decide) (by decide)) (fun v g q => w_rz (Or.inl q.1) ⟨F8.tr (FD.o8 q.2.1), Or.inr ⟨?_, q.1, ?_⟩⟩)
              · rw [ef, n1, k1, o1, pz, orF_0, orF_0, orF_0]; omega
              · rw [ef, n1, k1, o1, pz, orF_0, orF_0, orF_0]; exact q.2.2
          · have pz : pcR S D (j + 4) = nuR S 0 (dC D - 1) (j + 4) := by unfold pcR; rw [orF_n a]
            refine w_ite (fun _ => w_rz (Or.inl rfl) ⟨F8, Or.inr ⟨?_, rfl, ?_⟩⟩) (fun y => absurd (by omega) y)
            · rw [ef, n1, k1, o1, pz, orF_0, orF_0, orF_0]; exact a
            · rw [ef, n1, k1, o1, pz, orF_0, orF_0, orF_0]; exact x.2.2.2
        · refine w_ite (fun _ => w_rz (Or.inl rfl) ⟨F5.tr (FD.o8 f7), Or.inr ⟨?_, rfl, ?_⟩⟩) (fun y => absurd o2 y)
          · rw [ef, n1, k1, orF_0, orF_0, orF_n o1]; exact o1
          · rw [ef, n1, k1, orF_0, orF_0, orF_n o1]; exact o3
      · have k1 : wdR S 15 18 (j + 2) = flt S 1 (j + 2) := by unfold wdR; rw [cif_f kd]
        have k2 : wdR S 15 18 (j + 2) ≠ 0 := by omega
        rw [if_neg kd, if_pos rfl]
        refine w_bn (x_wr5 w q4.2 (by decide) (by decide)) (fun v g q => w_rz (Or.inl q.1) ⟨(F3.tr (FD.o8 q4.1)).tr (FD.o8 q.2.1), Or.inr ⟨?_, q.1, ?_⟩⟩)
        · rw [ef, n1, orF_0, orF_n k2]; exact k2
        · rw [ef, n1, orF_0, orF_n k2, k1]; exact q.2.2
    · refine w_ite (fun _ => w_rz (Or.inl rfl) ⟨(FD.o8 q1.1).tr (FD.o8 q2.1), Or.inr ⟨?_, rfl, ?_⟩⟩) (fun y => absurd n2 y)
      · rw [ef, orF_n n1]; exact n1
      · rw [ef, orF_n n1]; exact n3
  · have ef : noF S D j = flt S 5 j := if_pos (by omega)
    exact w_bn (x_wr5 w h (by decide) (by decide)) (fun v g q => w_rz (Or.inl q.1) ⟨FD.o8 q.2.1, Or.inr ⟨by omega, q.1, by rw [ef]; exact q.2.2⟩⟩)
theorem x_rdLw {j : Nat} (w : WTp S) (h : XJ S j 0 G) (d : XD S D G) : WP (fX4_readLaw 11 G) (CXl S (lwF S D j) (lawR S (j + 1)).2.1 (eW D (j + 1)) G) := by
  have l3 := flt_r w (k := 3) (j := j) (by decide)
  unfold fX4_readLaw
  rw [rf_11_0]
  have d6 := d.2.2.2.2.2.1
  cases hW : dW D with
  | none =>
    rw [hW] at d6
    have ef : lwF S D j = (lawR S (j + 1)).1 := if_pos hW
    have d6' : G 11 3 = -1 := d6
    rw [if_pos d6']
    refine w_bn (x_stp w h) (fun _ g1 q1 => ?_)
    have dd := d.f8 q1.1
    refine w_bh (fun g2 e2 => ?_)
    rw [x_bgn q1.2] at e2
    have x2 : XJ S (j + 1) 0 g2 := q1.2.fr (by rw [e2, up_ne (by decide)]) (by rw [e2, up_ne (by decide)]) (by rw [e2, up_ne (by decide)])
    have F2 : FD G g2 := (FD.o8 q1.1).tr (by rw [e2]; exact FD.up (by omega))
    refine w_bn (x_law w x2) (fun v3 g3 q3 => ?_)
    obtain ⟨f3, r0, r1⟩ := q3
    by_cases z : (lawR S (j + 1)).1 = 0
    · obtain ⟨y1, y2⟩ := r0 z
      refine w_ite (fun _ => w_rz (Or.inr rfl) ⟨F2.tr (FD.o8 f3), Or.inl ⟨by rw [ef]; exact z, rfl, y1, ?_⟩⟩) (fun y => absurd y1.2.2.2 y)
      refine XD.f8 (G := g2) ?_ f3
      obtain ⟨d1, d2, d3, d4, d5, d6, d7, d8⟩ := dd
      rw [e2]
      refine ⟨by rw [up_ne (by decide)]; exact d1, by rw [up_ne (by decide)]; exact d2, by rw [up_at, if_neg (by decide)]; exact d3, by rw [up_ne (by decide)]; exact d4, by rw [up_ne (by decide)]; exact d5, by rw [up_at, if_pos ⟨rfl, rfl⟩]; rfl, fun i hi => ?_, fun i hi => ?_⟩
      · rw [up_ne (by decide), up_ne (by decide), up_ne (by decide)]; exact d7 i hi
      · rw [up_ne (by decide), up_ne (by decide)]; exact d8 i hi
    · obtain ⟨j', y1⟩ := r1 z
      have y8 : g3 1 8 = (lawR S (j + 1)).1 := y1.2.2.2
      refine w_ite (fun y => by omega) (fun _ => w_rz (Or.inl rfl) ⟨F2.tr (FD.o8 f3), Or.inr ⟨by rw [ef]; exact z, rfl, by rw [ef]; exact y8⟩⟩)
  | some t =>
    rw [hW] at d6
    have ef : lwF S D j = flt S 3 j := if_neg (by rw [hW]; exact fun y => by cases y)
    have y := yp_r w (j := t)
    have d6' : G 11 3 = yp S t := d6
    rw [if_neg (by omega)]
    exact w_bn (x_wr5 w h (by decide) (by decide)) (fun v g q => w_rz (Or.inl q.1) ⟨FD.o8 q.2.1, Or.inr ⟨by omega, q.1, by rw [ef]; exact q.2.2⟩⟩)
/-! a line -/
noncomputable def lnF (S : TS) (D : DR) (j : Nat) : Int := if yk S j = 2 then (if yw S j = 0 then ciF S D j else if yw S j = 1 then liF S D j else if yw S j = 2 then noF S D j else if yw S j = 3 then keF S D j else if yw S j = 5 then lwF S D j else flt S 1 j) else flt S 1 j
noncomputable def lnJ (S : TS) (j : Nat) : Nat := if yw S j = 0 then j + 2 else if yw S j = 1 then j + 2 else if yw S j = 2 then j + 5 else if yw S j = 3 then j + 4 else (lawR S (j + 1)).2.1
noncomputable def lnD (S : TS) (D : DR) (j : Nat) : DR := if yw S j = 0 then eC D (yv S (j + 1)) else if yw S j = 1 then eL D (yv S (j + 1)) else if yw S j = 2 then eN D (yw S (j + 2) - 15) (yv S (j + 4)) (j + 1) else if yw S j = 3 then eK D (yv S (j + 3)) (j + 1) else eW D (j + 1)
noncomputable def lnT (S : TS) (D : DR) (j : Nat) : Int := orF (lnF S D j) (sgR S 59 (lnJ S j))
theorem x_line {j : Nat} (w : WTp S) (h : XJ S j 0 G) (d : XD S D G) (wd : WD S D) : WP (fX4_readLine 11 G) (CXl S (lnT S D j) (lnJ S j + 1) (lnD S D j) G) := by
  have l1 := flt_r w (k := 1) (j := j) (by decide)
  unfold fX4_readLine
  rw [rf_11_0, x_isWrd h, bp_s]
  have bad : lnF S D j = flt S 1 j → WP (bn (fX7_wrong 1 1 G) fun v34 G35 => rz v34 G35) (CXl S (lnT S D j) (lnJ S j + 1) (lnD S D j) G) := by
    intro e
    have e2 : lnT S D j = flt S 1 j := by unfold lnT; rw [e, orF_n (by omega)]
    exact w_bn (x_wr5 w h (by decide) (by decide)) (fun v g q => w_rz (Or.inl q.1) ⟨FD.o8 q.2.1, Or.inr ⟨by omega, q.1, by rw [e2]; exact q.2.2⟩⟩)
  by_cases c : yk S j = 2 ∧ 0 ≤ yw S j ∧ yw S j ≤ 5
  · rw [if_pos c, if_neg (by decide)]
    have e6 : G 1 6 = yw S j := (x_wix h c.1).1
    rw [e6]
    refine w_jnP (fun K4 hK => ?_)
    have fin : ∀ (F : Int) (J : Nat) (D' : DR) (v : Int) (g : Hp), lnF S D j = F → lnJ S j = J → lnD S D j = D' → CXl S F J D' G v g → WP (K4 v g) (CXl S (lnT S D j) (lnJ S j + 1) (lnD S D j) G) := by
      intro F J D' v g eF eJ eD q
      rw [← eF, ← eJ, ← eD] at q
      rw [hK]
      rcases q.2 with ⟨a1, a2, a3, a4⟩ | ⟨a1, a2, a3⟩
      · refine w_ite (fun y => by omega) (fun _ => ?_)
        have e2 : lnT S D j = sgR S 59 (lnJ S j) := by unfold lnT; rw [a1, orF_0]
        refine w_bn (x_tSg w a3 59) (fun v5 g5 q5 => ?_)
        rcases q5.2 with ⟨b1, b2, b3⟩ | ⟨b1, b2, b3⟩
        · exact w_ite (fun y => by omega) (fun _ => w_rz (Or.inr rfl) ⟨q.1.tr (FD.o8 q5.1), Or.inl ⟨by rw [e2]; exact b1, rfl, b3, a4.f8 q5.1⟩⟩)
        · exact w_ite (fun _ => w_rz (Or.inl rfl) ⟨q.1.tr (FD.o8 q5.1), Or.inr ⟨by rw [e2]; exact b1, rfl, by rw [e2]; exact b3⟩⟩) (fun y => absurd b2 y)
      · have e2 : lnT S D j = lnF S D j := by unfold lnT; rw [orF_n a1]
        exact w_ite (fun _ => w_rz (Or.inl rfl) ⟨q.1, Or.inr ⟨by rw [e2]; exact a1, rfl, by rw [e2]; exact a3⟩⟩) (fun y => absurd a2 y)
    by_cases c0 : yw S j = 0
    · rw [if_pos c0]
      exact w_bn (x_rdCi w h d) (fun v g q => w_bd (fun v' e => fin _ _ _ v' g (by unfold lnF; rw [if_pos c.1, if_pos c0]) (by unfold lnJ; rw [if_pos c0]) (by unfold lnD; rw [if_pos c0]) (by rw [e]; exact q)))
    rw [if_neg c0]
    by_cases c1 : yw S j = 1
    · rw [if_pos c1]
      exact w_bn (x_rdLi w h d) (fun v g q => w_bd (fun v' e => fin _ _ _ v' g (by unfold lnF; rw [if_pos c.1, if_neg c0, if_pos c1]) (by unfold lnJ; rw [if_neg c0, if_pos c1]) (by unfold lnD; rw [if_neg c0, if_pos c1]) (by rw [e]; exact q)))
    rw [if_neg c1]
    by_cases c2 : yw S j = 2
    · rw [if_pos c2]
      exact w_bn (x_rdNo w h d wd) (fun v g q => w_bd (fun v' e => fin _ _ _ v' g (by unfold lnF; rw [if_pos c.1, if_neg c0, if_neg c1, if_pos c2]) (by unfold lnJ; rw [if_neg c0, if_neg c1, if_pos c2]) (by unfold lnD; rw [if_neg c0, if_neg c1, if_pos c2]) (by rw [e]; exact q)))
    rw [if_neg c2]
    by_cases c3 : yw S j = 3
    · rw [if_pos c3]
      exact w_bn (x_rdKe w h d wd) (fun v g q => w_bd (fun v' e => fin _ _ _ v' g (by unfold lnF; rw [if_pos c.1, if_neg c0, if_neg c1, if_neg c2, if_pos c3]) (by unfold lnJ; rw [if_neg c0, if_neg c1, if_neg c2, if_pos c3]) (by unfold lnD; rw [if_neg c0, if_neg c1, if_neg c2, if_pos c3]) (by rw [e]; exact q)))
    rw [if_neg c3]
    by_cases c5 : yw S j = 5
    · rw [if_neg (by omega), if_pos c5]
      exact w_bn (x_rdLw w h d) (fun v g q => w_bd (fun v' e => fin _ _ _ v' g (by unfold lnF; rw [if_pos c.1, if_neg c0, if_neg c1, if_neg c2, if_neg c3, if_pos c5]) (by unfold lnJ; rw [if_neg c0, if_neg c1, if_neg c2, if_neg c3]) (by unfold lnD; rw [if_neg c0, if_neg c1, if_neg c2, if_neg c3]) (by rw [e]; exact q)))
    · rw [if_pos (by omega)]
      exact w_bn (x_wr5 w h (by decide) (by decide)) (fun v g q => w_bd (fun v' e => fin (flt S 1 j) _ _ v' g (by unfold lnF; rw [if_pos c.1, if_neg c0, if_neg c1, if_neg c2, if_neg c3, if_neg c5]) rfl rfl ⟨FD.o8 q.2.1, Or.inr ⟨by omega, by rw [e]; exact q.1, q.2.2⟩⟩))
  · rw [if_neg c, if_pos rfl]
    refine bad ?_
    unfold lnF
    by_cases c1 : yk S j = 2
    · rw [if_pos c1, if_neg (by omega), if_neg (by omega), if_neg (by omega), if_neg (by omega), if_neg (by omega)]
    · rw [if_neg c1]
end RDX
