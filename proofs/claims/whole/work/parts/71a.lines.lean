/-! READING A RING: what a line comes to -/
section RDA
variable {S : TS} {G : Hp} {n : Nat}
noncomputable def cif {α : Type} (P : Prop) (a b : α) : α := @ite α P (Classical.propDecidable P) a b
theorem cif_t {α : Type} {P : Prop} {a b : α} (h : P) : cif P a b = a := by unfold cif; exact if_pos h
theorem cif_f {α : Type} {P : Prop} {a b : α} (h : ¬ P) : cif P a b = b := by unfold cif; exact if_neg h
def orF (a b : Int) : Int := if a ≠ 0 then a else b
theorem orF_0 {b : Int} : orF 0 b = b := rfl
theorem orF_n {a b : Int} (h : a ≠ 0) : orF a b = a := if_pos h
theorem orF_r {a : Int} : orF a 0 = a := by unfold orF; split <;> omega
theorem orF_a {a b c : Int} : orF (orF a b) c = orF a (orF b c) := by
  by_cases h : a = 0
  · rw [h, orF_0, orF_0]
  · rw [orF_n h, orF_n h, orF_n h]
theorem orF_z {a b : Int} (h : orF a b = 0) : a = 0 ∧ b = 0 := by
  unfold orF at h
  by_cases z : a = 0
  · rw [if_neg (fun q => q z)] at h; exact ⟨z, h⟩
  · rw [if_pos z] at h; exact absurd h z
noncomputable def flt (S : TS) (k : Int) (j : Nat) : Int := k + 16 * yp S j
theorem flt_r (w : WTp S) {k : Int} {j : Nat} (h : 1 ≤ k) : 1 ≤ flt S k j := by
  have := yp_r w (j := j)
  unfold flt; omega
def isN (S : TS) (j : Nat) : Prop := yk S j = 2 ∧ (yw S j < 0 ∨ 22 ≤ yw S j)
noncomputable def wdR (S : TS) (a b : Int) (j : Nat) : Int := cif (yk S j = 2 ∧ a ≤ yw S j ∧ yw S j ≤ b) 0 (flt S 1 j)
noncomputable def sgR (S : TS) (c : Int) (j : Nat) : Int := cif (yk S j = 4 ∧ yv S j = c) 0 (flt S 1 j)
noncomputable def nuR (S : TS) (lo hi : Int) (j : Nat) : Int := cif (yk S j = 3) (cif (lo ≤ yv S j ∧ yv S j ≤ hi) 0 (flt S 4 j)) (flt S 1 j)
theorem wdR_z (w : WTp S) {a b : Int} {j : Nat} : wdR S a b j = 0 ↔ yk S j = 2 ∧ a ≤ yw S j ∧ yw S j ≤ b := by
  have := flt_r w (k := 1) (j := j) (by decide)
  by_cases h : yk S j = 2 ∧ a ≤ yw S j ∧ yw S j ≤ b
  · unfold wdR; rw [cif_t h]; exact ⟨fun _ => h, fun _ => rfl⟩
  · unfold wdR; rw [cif_f h]; exact ⟨fun z => by omega, fun z => absurd z h⟩
theorem sgR_z (w : WTp S) {c : Int} {j : Nat} : sgR S c j = 0 ↔ yk S j = 4 ∧ yv S j = c := by
  have := flt_r w (k := 1) (j := j) (by decide)
  by_cases h : yk S j = 4 ∧ yv S j = c
  · unfold sgR; rw [cif_t h]; exact ⟨fun _ => h, fun _ => rfl⟩
  · unfold sgR; rw [cif_f h]; exact ⟨fun z => by omega, fun z => absurd z h⟩
theorem nuR_z (w : WTp S) {a b : Int} {j : Nat} : nuR S a b j = 0 ↔ yk S j = 3 ∧ a ≤ yv S j ∧ yv S j ≤ b := by
  have := flt_r w (k := 1) (j := j) (by decide)
  have := flt_r w (k := 4) (j := j) (by decide)
  unfold nuR
  by_cases h : yk S j = 3
  · rw [cif_t h]
    by_cases h2 : a ≤ yv S j ∧ yv S j ≤ b
    · rw [cif_t h2]; exact ⟨fun _ => ⟨h, h2⟩, fun _ => rfl⟩
    · rw [cif_f h2]; exact ⟨fun z => by omega, fun z => absurd z.2 h2⟩
  · rw [cif_f h]; exact ⟨fun z => by omega, fun z => absurd z.1 h⟩
theorem wdR_p (w : WTp S) {a b : Int} {j : Nat} : 0 ≤ wdR S a b j := by
  have := flt_r w (k := 1) (j := j) (by decide)
  by_cases h : yk S j = 2 ∧ a ≤ yw S j ∧ yw S j ≤ b
  · unfold wdR; rw [cif_t h]; omega
  · unfold wdR; rw [cif_f h]; omega
/-! the class -/
theorem x_tSg {j : Nat} (w : WTp S) (h : XJ S j 0 G) (c : Int) : WP (fX7_takeSign 1 c G) (fun v G' => FX8 G G' ∧ ((sgR S c j = 0 ∧ v = 1 ∧ XJ S (j + 1) 0 G') ∨ (sgR S c j ≠ 0 ∧ v = 0 ∧ G' 1 8 = sgR S c j))) := by
  refine (x_takeSgn w h c).mono (fun v G' q => ⟨q.1, ?_⟩)
  rcases q.2.2 rfl with ⟨a, b, e, d⟩ | ⟨a, e, d⟩
  · exact Or.inl ⟨(sgR_z w).mpr ⟨a, b⟩, e, d⟩
  · refine Or.inr ⟨fun z => a ((sgR_z w).mp z), e, ?_⟩
    unfold sgR; rw [cif_f a]; exact d.2.2.2
theorem x_tWd {j : Nat} (w : WTp S) (h : XJ S j 0 G) (c : Int) : WP (fX7_takeWord 1 c G) (fun v G' => FX8 G G' ∧ ((wdR S c c j = 0 ∧ v = 1 ∧ XJ S (j + 1) 0 G') ∨ (wdR S c c j ≠ 0 ∧ v = 0 ∧ G' 1 8 = wdR S c c j))) := by
  refine (x_takeWrd w h c).mono (fun v G' q => ⟨q.1, ?_⟩)
  rcases q.2 with ⟨a, b, e, d⟩ | ⟨a, e, d⟩
  · exact Or.inl ⟨(wdR_z w).mpr ⟨a, by omega, by omega⟩, e, d⟩
  · have a' : ¬ (yk S j = 2 ∧ c ≤ yw S j ∧ yw S j ≤ c) := by omega
    refine Or.inr ⟨fun z => a' ((wdR_z w).mp z), e, ?_⟩
    unfold wdR; rw [cif_f a']; exact d.2.2.2
theorem x_tNu {j : Nat} {lo hi : Int} (w : WTp S) (h : XJ S j 0 G) : WP (fX7_numberWithin 1 lo hi G) (fun r G' => FX8 G G' ∧ ((nuR S lo hi j = 0 ∧ r = yv S j ∧ XJ S j 0 G') ∨ (nuR S lo hi j ≠ 0 ∧ r = -1 ∧ XJ S j (nuR S lo hi j) G'))) := by
  refine (x_numW w h).mono (fun v G' q => ⟨q.1, ?_⟩)
  have l1 := flt_r w (k := 1) (j := j) (by decide)
  have l4 := flt_r w (k := 4) (j := j) (by decide)
  rcases q.2 with ⟨a, b, c, d, e⟩ | ⟨a, d, e⟩ | ⟨a, b, d, e⟩
  · exact Or.inl ⟨(nuR_z w).mpr ⟨a, b, c⟩, d, e⟩
  · have z : nuR S lo hi j = flt S 1 j := by unfold nuR; rw [cif_f a]
    exact Or.inr ⟨by omega, d, by rw [z]; exact e⟩
  · have z : nuR S lo hi j = flt S 4 j := by unfold nuR; rw [cif_t a, cif_f b]
    exact Or.inr ⟨by omega, d, by rw [z]; exact e⟩
theorem x_wr5 {j : Nat} {k : Int} (w : WTp S) (h : XJ S j 0 G) (k0 : 0 ≤ k) (k1 : k ≤ 5) : WP (fX7_wrong 1 k G) (fun r G' => r = 0 ∧ FX8 G G' ∧ G' 1 8 = flt S k j) := (x_wrg0 w h k0 k1).mono (fun _ _ q => ⟨q.1, q.2.1, q.2.2.2.2.2⟩)
/-! the reference -/
def MA (S : TS) (n : Nat) (F : Int) (j : Nat) (G : Hp) : Prop := (F = 0 ∧ MJ S n (j, 0) G) ∨ (F ≠ 0 ∧ ∃ j', MJ S n (j', F) G)
theorem MA.f {F : Int} {j : Nat} (h : MA S n F j G) : G 111 8 = F ∧ 0 ≤ F := by
  rcases h with ⟨a, b⟩ | ⟨a, j', b⟩
  · exact ⟨b.2.2.2.1.trans a.symm, by omega⟩
  · exact ⟨b.2.2.2.1, b.2.2.2.2.2.2⟩
theorem MA.fr {F : Int} {j : Nat} {G' : Hp} (h : MA S n F j G) (h1 : G' 113 = G 113) (h2 : G' 114 = G 114) (h3 : G' 115 = G 115) (h4 : G' 116 = G 116) (h5 : G' 111 7 = G 111 7) (h6 : G' 111 8 = G 111 8) : MA S n F j G' := by
  rcases h with ⟨a, b⟩ | ⟨a, j', b⟩
  · exact Or.inl ⟨a, b.fr h1 h2 h3 h4 h5 h6⟩
  · exact Or.inr ⟨a, j', b.fr h1 h2 h3 h4 h5 h6⟩
theorem MA.z {j : Nat} (h : MA S n 0 j G) : MJ S n (j, 0) G := by
  rcases h with ⟨a, b⟩ | ⟨a, j', b⟩
  · exact b
  · exact absurd rfl a
theorem aWr_fl {k : Int} {j : Nat} : aWr S k (j, 0) = (j, flt S k j) := aWr_z rfl
theorem m_tWr {F k : Int} {j : Nat} (w : WTp S) (h : MA S n F j G) (k0 : 1 ≤ k) (k1 : k ≤ 5) {j2 : Nat} : WP (fX12_wrong 111 k G) (fun _ G' => FM8 G G' ∧ MA S n (orF F (flt S k j)) j2 G') := by
  have l := flt_r w (k := k) (j := j) k0
  rcases h with ⟨a, b⟩ | ⟨a, j', b⟩
  · refine (m_wrg w b k0 k1).mono (fun _ G' q => ⟨q.1, ?_⟩)
    rw [aWr_fl] at q
    rw [a, orF_0]
    exact Or.inr ⟨by omega, j, q.2⟩
  · refine (m_wrg w b k0 k1).mono (fun _ G' q => ⟨q.1, ?_⟩)
    rw [aWr_n a] at q
    rw [orF_n a]
    exact Or.inr ⟨a, j', q.2⟩
theorem m_tSg {F : Int} {j : Nat} (w : WTp S) (h : MA S n F j G) (c : Int) : WP (fX12_takeSign 111 c G) (fun _ G' => FM8 G G' ∧ MA S n (orF F (sgR S c j)) (j + 1) G') := by
  have l := flt_r w (k := 1) (j := j) (by decide)
  rcases h with ⟨a, b⟩ | ⟨a, j', b⟩
  · refine (m_takeSgn w b c).mono (fun _ G' q => ⟨q.1, ?_⟩)
    rw [a, orF_0]
    have q2 := q.2
    unfold aSg at q2
    unfold sgR
    by_cases z : yk S j = 4 ∧ yv S j = c
    · rw [if_pos ⟨rfl, z⟩] at q2
      rw [cif_t z]; exact Or.inl ⟨rfl, q2⟩
    · rw [if_neg (fun y => z y.2), aWr_fl] at q2
      rw [cif_f z]; exact Or.inr ⟨by omega, j, q2⟩
  · refine (m_takeSgn w b c).mono (fun _ G' q => ⟨q.1, ?_⟩)
    rw [orF_n a]
    have q2 := q.2
    unfold aSg at q2
    rw [if_neg (fun y => a y.1), aWr_n a] at q2
    exact Or.inr ⟨a, j', q2⟩
theorem m_tWd {F : Int} {j : Nat} (w : WTp S) (h : MA S n F j G) {c : Nat} (hc : c < 22) {z : Int} (hz : z = c) : WP (fX12_takeWord 111 z G) (fun _ G' => FM8 G G' ∧ MA S n (orF F (wdR S z z j)) (j + 1) G') := by
  have l := flt_r w (k := 1) (j := j) (by decide)
  have ce : cixw c = c := by unfold cixw; rw [if_pos (by omega)]
  rcases h with ⟨a, b⟩ | ⟨a, j', b⟩
  · refine (m_takeWrd w b (c := c) (by omega) hz).mono (fun _ G' q => ⟨q.1, ?_⟩)
    rw [a, orF_0]
    have q2 := q.2
    unfold aWd at q2
    rw [ce] at q2
    unfold wdR
    by_cases y : yk S j = 2 ∧ yw S j = c
    · rw [if_pos ⟨rfl, y⟩] at q2
      rw [cif_t (by omega)]; exact Or.inl ⟨rfl, q2⟩
    · rw [if_neg (fun x => y x.2), aWr_fl] at q2
      rw [cif_f (by omega)]; exact Or.inr ⟨by omega, j, q2⟩
  · refine (m_takeWrd w b (c := c) (by omega) hz).mono (fun _ G' q => ⟨q.1, ?_⟩)
    rw [orF_n a]
    have q2 := q.2
    unfold aWd at q2
    rw [if_neg (fun y => a y.1), aWr_n a] at q2
    exact Or.inr ⟨a, j', q2⟩
theorem m_tNu {F lo hi : Int} {j : Nat} (w : WTp S) (h : MA S n F j G) : WP (fX12_takeNumber 111 lo hi G) (fun r G' => FM8 G G' ∧ MA S n (orF F (nuR S lo hi j)) (j + 1) G' ∧ (orF F (nuR S lo hi j) = 0 → r = yv S j)) := by
  have l1 := flt_r w (k := 1) (j := j) (by decide)
  have l4 := flt_r w (k := 4) (j := j) (by decide)
  rcases h with ⟨a, b⟩ | ⟨a, j', b⟩
  · refine (m_takeNum w b).mono (fun r G' q => ⟨q.1, ?_⟩)
    obtain ⟨-, q1, q2⟩ := q
    rw [a, orF_0]
    unfold aNu at q1 q2
    rw [if_neg (fun y => y rfl)] at q1 q2
    unfold nuR
    by_cases z : yk S j = 3
    · rw [if_neg (fun y => y z)] at q1 q2
      rw [cif_t z]
      by_cases u : lo ≤ yv S j ∧ yv S j ≤ hi
      · rw [if_pos u] at q1 q2
        rw [cif_t u]; exact ⟨Or.inl ⟨rfl, q2⟩, fun _ => q1⟩
      · rw [if_neg u] at q1 q2
        rw [cif_f u]; exact ⟨Or.inr ⟨by omega, j, q2⟩, fun y => by omega⟩
    · rw [if_pos z] at q1 q2
      rw [cif_f z]; exact ⟨Or.inr ⟨by omega, j, q2⟩, fun y => by omega⟩
  · refine (m_takeNum w b).mono (fun r G' q => ⟨q.1, ?_⟩)
    obtain ⟨-, q1, q2⟩ := q
    rw [orF_n a]
    unfold aNu at q1 q2
    rw [if_pos a] at q1 q2
    exact ⟨Or.inr ⟨a, j', q2⟩, fun y => absurd y a⟩
/-- one of four kinds -/
theorem m_tOne {F : Int} {j : Nat} (w : WTp S) (h : MA S n F j G) : WP (fX12_takeOne 111 15 4 G) (fun r G' => FM8 G G' ∧ MA S n (orF F (wdR S 15 18 j)) (j + 1) G' ∧ (orF F (wdR S 15 18 j) = 0 → r = yw S j - 15)) := by
  have l := flt_r w (k := 1) (j := j) (by decide)
  unfold fX12_takeOne
  refine w_jnP (fun K2 hK2 => ?_)
  rcases h with ⟨a, b⟩ | ⟨a, j', b⟩
  · have e8 : G 111 8 = 0 := b.2.2.2.1
    rw [a, orF_0]
    refine w_ite (fun z => by omega) (fun _ => ?_)
    refine w_bpq (m_wordHere b (a := 15) (b := 4) (by omega) (za := 15) (zb := 4) rfl rfl) (fun v11 _ q => ?_)
    rw [hK2]
    refine w_bd (fun v3 e3 => ?_)
    refine w_jnP (fun K5 hK5 => ?_)
    rcases q with ⟨u1, u2⟩ | ⟨k, u1, u2, -, u3, u4⟩
    · have ne : ¬ (yk S j = 2 ∧ 15 ≤ yw S j ∧ yw S j ≤ 18) := by
        intro z
        refine u2 (yw S j - 15).toNat (by omega) ⟨rfl, z.1, ?_⟩
        show yw S j = ((cixw (15 + (yw S j - 15).toNat) : Nat) : Int)
        unfold cixw; rw [if_pos (by omega)]; omega
      refine w_ite (fun _ => ?_) (fun z => absurd e8 z)
      refine w_ite (fun _ => ?_) (fun z => absurd (by rw [e3, u1]; decide) z)
      refine w_bn (m_wrg w b (by decide) (by decide)) (fun _ g q => ?_)
      rw [aWr_fl] at q
      have g8 : g 111 8 = flt S 1 j := q.2.2.2.2.1
      rw [hK5]
      refine w_jn ?_
      refine w_ite (fun _ => ?_) (fun z => absurd (by rw [g8]; omega) z)
      refine w_bh (fun g2 e2 => ?_)
      have i0 := m_inc0 q.2
      rw [← e2] at i0
      have h8 : g2 111 8 = flt S 1 j := i0.2.2.2.2.1
      have ez : wdR S 15 18 j = flt S 1 j := by unfold wdR; rw [cif_f ne]
      refine w_ite (fun _ => ?_) (fun z => absurd (by rw [h8]; omega) z)
      exact w_rt ⟨q.1.tr i0.1, Or.inr ⟨by rw [ez]; omega, j, by rw [ez]; exact i0.2⟩, fun z => by rw [ez] at z; omega⟩
    · have ce : ((cixw (15 + k) : Nat) : Int) = 15 + k := by unfold cixw; rw [if_pos (by omega)]; omega
      rw [ce] at u4
      simp only at u3 u4
      have ez : wdR S 15 18 j = 0 := (wdR_z w).mpr ⟨u3, by omega, by omega⟩
      refine w_ite (fun _ => ?_) (fun z => absurd e8 z)
      refine w_ite (fun z => by omega) (fun _ => ?_)
      rw [hK5]
      refine w_jn ?_
      refine w_ite (fun z => by omega) (fun _ => ?_)
      refine w_bh (fun g2 e2 => ?_)
      have i0 := m_inc b (by simp only; omega)
      rw [← e2] at i0
      have h8 : g2 111 8 = 0 := i0.2.2.2.2.1
      refine w_ite (fun z => by omega) (fun _ => ?_)
      exact w_rt ⟨i0.1, Or.inl ⟨ez, i0.2⟩, fun _ => by omega⟩
  · have e8 : G 111 8 = F := b.2.2.2.1
    have p0 : 0 ≤ F := b.2.2.2.2.2.2
    rw [orF_n a]
    refine w_ite (fun _ => ?_) (fun z => by omega)
    rw [hK2]
    refine w_bd (fun v3 e3 => ?_)
    refine w_jn ?_
    refine w_ite (fun z => by omega) (fun _ => ?_)
    refine w_jn ?_
    refine w_ite (fun _ => ?_) (fun z => by omega)
    refine w_bh (fun g2 e2 => ?_)
    have i0 := m_inc0 b
    rw [← e2] at i0
    have h8 : g2 111 8 = F := i0.2.2.2.2.1
    refine w_ite (fun _ => ?_) (fun z => by omega)
    exact w_rt ⟨i0.1, Or.inr ⟨a, j', i0.2⟩, fun y => absurd y a⟩
end RDA
