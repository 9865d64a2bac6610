/-! READING A RING: the reference's whole reading; a ring begins -/
section RDG
variable {S : TS} {G : Hp} {n : Nat} {D : DR}
theorem m_cir : fX12_circle 111 G = some (G 117 0, G) := by unfold fX12_circle; rw [rf_111_10, rd_in (by decide) (by decide), br_s]; rfl
theorem m_nds : fX12_nodes 111 G = some (G 117 2, G) := by unfold fX12_nodes; rw [rf_111_10, rd_in (by decide) (by decide), br_s]; rfl
theorem m_kys : fX12_keys 111 G = some (G 117 3, G) := by unfold fX12_keys; rw [rf_111_10, rd_in (by decide) (by decide), br_s]; rfl
/-- the ring's row, as the reference keeps it -/
def RD (S : TS) (D : DR) (G : Hp) : Prop := G 117 0 = dC D ∧ G 117 1 = dLg D ∧ G 117 2 = (dN D : Int) ∧ G 117 3 = (dK D : Int) ∧ G 117 4 = lwM (dW D) ∧ (∀ i : Nat, i < dN D → G 117 (6 + i) = dkd D i ∧ G 117 (14 + i) = dpl D i) ∧ (∀ i : Nat, i < dK D → G 117 (22 + i) = dkp D i) ∧ ∀ t : Nat, dW D = some t → (∀ i, i < (lawR S t).2.2.length → G 118 i = (lawR S t).2.2.getD i 0) ∧ G 118 (lawR S t).2.2.length = 0 ∧ (lawR S t).2.2.length ≤ 999
theorem m_lies (w : WTp S) (d : RD S D G) (wd : WD S D) : WP (fX12_liesAll 111 G) (fun _ G' => (∀ c, c ≠ 121 → c ≠ 122 → c ≠ 125 → G' c = G c) ∧ ∀ i, i < dK D → G' 125 i = lieV S D i) := by
  have wK := wd.2.2.2.2.1
  have wC := wd.1
  obtain ⟨d0, d1, d2, d3, d4, d5, d6, d7⟩ := d
  unfold fX12_liesAll
  rw [rf_111_10, rf_111_15, rf_111_20]
  refine w_bd (fun v1 e1 => ?_)
  refine w_lpIH (fun v2 g => ∃ k : Nat, v2 = k ∧ k ≤ dK D ∧ (∀ c, c ≠ 121 → c ≠ 122 → c ≠ 125 → g c = G c) ∧ ∀ i, i < k → g 125 i = lieV S D i) (fun v2 _ => ((dK D : Int) - v2).toNat) (fun rc v2 g hI hr => ?_) v1 G ⟨0, e1, by omega, fun _ _ _ _ => rfl, fun i hi => absurd hi (Nat.not_lt_zero i)⟩ (by omega)
  obtain ⟨k, hv, hk, fg, lg⟩ := hI
  have g117 : g 117 = G 117 := fg 117 (by decide) (by decide) (by decide)
  have g118 : g 118 = G 118 := fg 118 (by decide) (by decide) (by decide)
  refine w_bp m_kys (fun v5 e5 => ?_)
  rw [g117, d3] at e5
  refine w_ite (fun c => ?_) (fun c => ?_)
  · have kK : k < dK D := by omega
    have ei : iadd 22 v2 = ((22 + k : Nat) : Int) := by rw [hv, iadd_id (by omega) (by omega)]; omega
    rw [ei]
    refine w_rd (by omega) (by omega) (fun v6 e6 => ?_)
    rw [Int.toNat_natCast, g117, d6 k kK] at e6
    refine w_wr (by omega) (by omega) (fun g7 e7 => ?_)
    refine w_wr (by omega) (by omega) (fun g8 e8 => ?_)
    have h8 : ∀ c, c ≠ 121 → g8 c = g c := fun c hc => by rw [e8, up_ne hc, e7, up_ne hc]
    refine w_bp m_cir (fun v9 e9 => ?_)
    rw [h8 117 (by decide), g117, d0] at e9
    refine w_wr (by omega) (by omega) (fun g10 e10 => ?_)
    have h10 : ∀ c, c ≠ 121 → g10 c = g c := fun c hc => by rw [e10, up_ne hc, h8 c hc]
    refine w_bp m_nds (fun v11 e11 => ?_)
    rw [h10 117 (by decide), g117, d2] at e11
    refine w_wr (by omega) (by omega) (fun g12 e12 => ?_)
    have h12 : ∀ c, c ≠ 121 → g12 c = g c := fun c hc => by rw [e12, up_ne hc, h10 c hc]
    rw [show (0 : Int).toNat = 0 from rfl] at e7
    rw [show (1 : Int).toNat = 1 from rfl] at e8
    rw [show (2 : Int).toNat = 2 from rfl] at e10
    rw [show (3 : Int).toNat = 3 from rfl] at e12
    have f0 : g12 121 0 = dkp D k := by rw [e12, up_at, if_neg (by decide), e10, up_at, if_neg (by decide), e8, up_at, if_neg (by decide), e7, up_at, if_pos ⟨rfl, rfl⟩]; exact e6
    have f1 : g12 121 1 = (k : Int) := by rw [e12, up_at, if_neg (by decide), e10, up_at, if_neg (by decide), e8, up_at, if_pos ⟨rfl, rfl⟩]; exact hv
    have f2 : g12 121 2 = dC D := by rw [e12, up_at, if_neg (by decide), e10, up_at, if_pos ⟨rfl, rfl⟩]; exact e9
    have f3 : g12 121 3 = (dN D : Int) := by rw [e12, up_at, if_pos ⟨rfl, rfl⟩]; exact e11
    refine w_rd (by omega) (by omega) (fun v13 e13 => ?_)
    rw [show (4 : Int).toNat = 4 from rfl, h12 117 (by decide), g117, d4] at e13
    refine w_jnP (fun K16 hK => ?_)
    have fin : ∀ (v14 : Int) (g15 : Hp), (∀ c, c ≠ 121 → c ≠ 122 → g15 c = g c) → v14 = lwV S D k → WP (K16 v14 g15) (fun _ G' => (∀ c, c ≠ 121 → c ≠ 122 → c ≠ 125 → G' c = G c) ∧ ∀ i, i < dK D → G' 125 i = lieV S D i) := by
      intro v14 g15 h15 e14
      rw [hK]
      refine w_bd (fun v17 e17 => ?_)
      have c15 : g15 117 0 = dC D := by rw [h15 117 (by decide) (by decide), g117]; exact d0
      refine w_bp m_cir (fun v18 e18 => ?_)
      rw [c15] at e18
      refine w_jnP (fun K20 hK20 => ?_)
      have fin2 : ∀ v19, (if v19 < 0 then v19 + dC D else v19) = lieV S D k → (v19 < 0 → -256 ≤ v19) → WP (K20 v19) (fun _ G' => (∀ c, c ≠ 121 → c ≠ 122 → c ≠ 125 → G' c = G c) ∧ ∀ i, i < dK D → G' 125 i = lieV S D i) := by
        intro v19 e19 b19
        rw [hK20]
        refine w_bd (fun v21 e21 => ?_)
        refine w_jnP (fun K23 hK23 => ?_)
        have fin3 : ∀ v22, v22 = lieV S D k → WP (K23 v22) (fun _ G' => (∀ c, c ≠ 121 → c ≠ 122 → c ≠ 125 → G' c = G c) ∧ ∀ i, i < dK D → G' 125 i = lieV S D i) := by
          intro v22 e22
          rw [hK23]
          refine w_wr (by omega) (by omega) (fun g24 e24 => ?_)
          rw [hv, Int.toNat_natCast] at e24
          refine w_bd (fun v25 e25 => ?_)
          rw [iadd_id (by omega) (by omega)] at e25
          refine hr v25 g24 ⟨k + 1, by omega, by omega, fun c a b c' => by rw [e24, up_ne c', h15 c a b, fg c a b c'], fun i hi => ?_⟩ (by omega)
          rw [e24, up_at]
          by_cases ei : i = k
          · rw [if_pos ⟨rfl, ei⟩, ei]; exact e22
          · rw [if_neg (fun y => ei y.2), h15 125 (by decide) (by decide)]; exact lg i (by omega)
        refine w_ite (fun cc => ?_) (fun cc => ?_)
        · refine w_bp m_cir (fun v26 e26 => ?_)
          rw [c15] at e26
          rw [e21] at cc
          rw [if_pos cc] at e19
          have := b19 cc
          exact fin3 _ (by rw [e21, e26, iadd_id (by omega) (by omega)]; exact e19)
        · rw [e21] at cc
          rw [if_neg cc] at e19
          exact fin3 _ (by rw [e21]; exact e19)
      refine w_ite (fun cc => ?_) (fun cc => ?_)
      · exact fin2 0 (by unfold lieV; rw [if_neg (by omega), if_neg (by omega)]) (by omega)
      · refine w_bp m_cir (fun v27 e27 => ?_)
        rw [c15] at e27
        refine w_nz (by omega) ?_
        have hC : 1 ≤ dC D ∧ dC D ≤ 256 := by omega
        have rs := irem_s (v := lwV S D k) hC.1 hC.2
        refine fin2 _ ?_ ?_
        · have pC : 0 < dC D := by omega
          rw [e17, e14, e27]; unfold lieV; rw [if_pos pC]; rfl
        · rw [e17, e14, e27]
          intro z
          by_cases y : (Int32.ofInt (lwV S D k)).toInt < 0
          · have := (rs.1 y).1; omega
          · have := (rs.2 y).1; omega
    cases hW : dW D with
    | none =>
      rw [hW] at e13
      have e13' : v13 = -1 := e13
      refine w_ite (fun _ => ?_) (fun y => absurd (by omega) y)
      refine w_rd (by omega) (by omega) (fun v31 e31 => ?_)
      rw [show (0 : Int).toNat = 0 from rfl, f0] at e31
      exact fin v31 g12 (fun c a _ => h12 c a) (by rw [lwV_n hW]; exact e31)
    | some t =>
      rw [hW] at e13
      have e13' : v13 = 0 := e13
      refine w_ite (fun y => by omega) (fun _ => ?_)
      refine w_rd (by omega) (by omega) (fun v28 e28 => ?_)
      have x28 : v28 = 0 := by rw [e28, show (4 : Int).toNat = 4 from rfl, h12 117 (by decide), g117, d4, hW]; rfl
      rw [x28]
      obtain ⟨v, u1, u2⟩ := law_gd (F := fF D k) w (wd.2.2.2.2.2.2.2.2.2.2 t hW)
      obtain ⟨c1, c2, c3⟩ := d7 t hW
      have c12 : g12 118 = G 118 := by rw [h12 118 (by decide), g118]
      refine w_bn (m_worth (L := (lawR S t).2.2) (F := fF D k) (v := v) (by omega) (fun i hi => by rw [c12]; exact c1 i hi) (by rw [c12]; exact c2) (fun i i0 i4 => ?_) u1 (u2 [] (by rw [List.length_nil]; omega))) (fun v29 g30 q30 => ?_)
      · have : i = 0 ∨ i = 1 ∨ i = 2 ∨ i = 3 := by omega
        rcases this with h | h | h | h <;> subst h
        · exact f0
        · exact f1
        · exact f2
        · exact f3
      · exact fin v29 g30 (fun c a b => by rw [q30.2 c b, h12 c a]) (by rw [q30.1]; exact (lwV_s hW u1).symm)
  · obtain rfl : k = dK D := by omega
    exact w_rt ⟨fg, lg⟩
/-- what a ring tells then -/
noncomputable def TD (S : TS) (D : DR) : TT := (dC D, dLg D, (dN D : Int), (dK D : Int), dkd D, dpl D, lieV S D)
def W0 : WLD := (a0s, (0, fun _ => a0s), (0, fun _ => 0, fun _ => 0, fun _ => 0), (0, fun _ => 0, fun _ => 0, fun _ => 0), (fun _ => 0, fun _ => a0s, fun _ => (0, fun _ => 0, fun _ => 0, fun _ => 0)))
theorem WT_D (wd : WD S D) : WT (TD S D) := by
  obtain ⟨w1, w2, w3, w4, w5, w6, w7, w8, w9, w10, w11⟩ := wd
  refine ⟨⟨?_, ?_⟩, ⟨?_, ?_⟩, w2, ⟨?_, ?_⟩, fun i h0 h1 => ?_, fun i j h0 h1 h2 h3 e => ?_, fun k h0 h1 => ?_⟩
  · show (0 : Int) ≤ (dN D : Int); omega
  · show (dN D : Int) ≤ 8; omega
  · show (0 : Int) ≤ (dK D : Int); omega
  · show (dK D : Int) ≤ 10; omega
  · show 0 ≤ dC D; omega
  · show dC D ≤ 256; omega
  · have h1' : i < (dN D : Int) := h1
    have q := w6 i.toNat (by omega)
    exact ⟨q.1, q.2.1⟩
  · have h1' : i < (dN D : Int) := h1
    have h3' : j < (dN D : Int) := h3
    have := w8 i.toNat j.toNat (by omega) (by omega) e
    omega
  · show 0 ≤ lieV S D k.toNat ∧ (lieV S D k.toNat < dC D ∨ (dC D = 0 ∧ lieV S D k.toNat = 0))
    unfold lieV
    by_cases c : 0 < dC D
    · rw [if_pos c]
      have q := fmd_r (v := lwV S D k.toNat) (C := dC D) (by omega) (by omega)
      exact ⟨q.1, Or.inl q.2⟩
    · rw [if_neg c]; exact ⟨by omega, Or.inr ⟨by omega, rfl⟩⟩
theorem OW_D (wd : WD S D) : OW (TD S D) W0 := by
  have w := WT_D wd
  refine ⟨w, WA_0 w, fun k hk => absurd hk (Nat.not_lt_zero k), ⟨⟨by decide, by decide⟩, fun i h0 h1 => ?_⟩, ⟨⟨by decide, by decide⟩, fun i h0 h1 => ?_⟩, fun m _ => ⟨Or.inl rfl, fun z => ?_⟩, by decide⟩
  · have h1' : i < 0 := h1
    omega
  · have h1' : i < 0 := h1
    omega
  · have z' : (0 : Int) = 1 := z
    omega
theorem m_begs (w : WTp S) (d : RD S D G) (wd : WD S D) : WP (fX12_begins 111 G) (fun _ G' => RW (TD S D) W0 G' ∧ (∀ c, c ≠ 111 → c < 120 ∨ 125 < c → G' c = G c) ∧ ∀ k, k ≠ 18 → G' 111 k = G 111 k) := by
  unfold fX12_begins
  rw [rf_111_17, rf_111_14, rf_111_19]
  refine w_bn (m_lies w d wd) (fun _ g1 q1 => ?_)
  obtain ⟨f1, l1⟩ := q1
  refine w_bn (m_starts (b := 0) (by omega)) (fun _ g2 q2 => ?_)
  obtain ⟨f2, -, s2⟩ := q2
  refine w_wr (by omega) (by omega) (fun g3 e3 => ?_)
  refine w_wr (by omega) (by omega) (fun g4 e4 => ?_)
  refine w_bh (fun g5 e5 => ?_)
  rw [show (130 : Int).toNat = 130 from rfl] at e3
  rw [show (0 : Int).toNat = 0 from rfl] at e4
  refine w_bd (fun v6 e6 => ?_)
  refine w_lpIH (fun v7 g => ∃ k : Nat, v7 = k ∧ k ≤ 4 ∧ (∀ c, c ≠ 124 → g c = g5 c) ∧ ∀ i, i < k → g 124 i = 0) (fun v7 _ => (4 - v7).toNat) (fun rc v7 g hI hr => ?_) v6 g5 ⟨0, e6, by omega, fun _ _ => rfl, fun i hi => absurd hi (Nat.not_lt_zero i)⟩ (by omega)
  obtain ⟨k, hv, hk, fg, lg⟩ := hI
  refine w_ite (fun c => ?_) (fun c => ?_)
  · refine w_wrZ (by omega) (by omega) (Or.inl rfl) (fun g10 e10 => ?_)
    rw [hv, Int.toNat_natCast] at e10
    refine w_bd (fun v11 e11 => ?_)
    rw [iadd_id (by omega) (by omega)] at e11
    refine hr v11 g10 ⟨k + 1, by omega, by omega, fun c hc => by rw [e10, up_ne hc, fg c hc], fun i hi => ?_⟩ (by omega)
    rw [e10, up_at]
    by_cases ei : i = k
    · rw [if_pos ⟨rfl, ei⟩]
    · rw [if_neg (fun y => ei y.2)]; exact lg i (by omega)
  · obtain rfl : k = 4 := by omega
    obtain ⟨d0, d1, d2, d3, d4, d5, d6, d7⟩ := d
    have g117 : g 117 = G 117 := by rw [fg 117 (by decide), e5, up_ne (by decide), e4, up_ne (by decide), e3, up_ne (by decide), f2 117 (by decide), f1 117 (by decide) (by decide) (by decide)]
    have g125 : g 125 = g1 125 := by rw [fg 125 (by decide), e5, up_ne (by decide), e4, up_ne (by decide), e3, up_ne (by decide), f2 125 (by decide)]
    have g123 : g 123 = g3 123 := by rw [fg 123 (by decide), e5, up_ne (by decide), e4, up_ne (by decide)]
    have g120 : g 120 = g4 120 := by rw [fg 120 (by decide), e5, up_ne (by decide)]
    have g111 : g 111 = g5 111 := fg 111 (by decide)
    refine w_rt ⟨⟨?_, ?_, ⟨?_, by decide, fun k hk => absurd hk (Nat.not_lt_zero k)⟩, ⟨?_, fun i h0 h1 => ?_⟩, ⟨?_, fun i h0 h1 => ?_⟩, fun m hm => ⟨lg m hm, fun z => ?_⟩⟩, fun c a b => ?_, fun k hk => ?_⟩
    · refine ⟨by rw [g117]; exact d0, by rw [g117]; exact d1, by rw [g117]; exact d2, by rw [g117]; exact d3, fun i h0 h1 => ?_, fun i h0 h1 => ?_⟩
      · have h1' : i < (dN D : Int) := h1
        have q := d5 i.toNat (by omega)
        rw [g117, show (6 + i).toNat = 6 + i.toNat by omega, show (14 + i).toNat = 14 + i.toNat by omega]
        exact q
      · have h1' : i < (dK D : Int) := h1
        rw [g125]; exact l1 i.toNat (by omega)
    · refine s2.lo2 (fun i _ hi => ?_)
      rw [g123, e3, up_at, if_neg (by omega)]
    · rw [g111, e5, up_at, if_pos ⟨rfl, rfl⟩]; rfl
    · show g 123 (0 + 130) = 0
      rw [g123, e3, up_at, if_pos ⟨rfl, rfl⟩]
    · have h1' : i < 0 := h1
      omega
    · show g 120 0 = 0
      rw [g120, e4, up_at, if_pos ⟨rfl, rfl⟩]
    · have h1' : i < 0 := h1
      omega
    · have z' : (0 : Int) = 1 := z
      omega
    · rw [fg c (by omega), e5, up_ne (by omega), e4, up_ne (by omega), e3, up_ne (by omega), f2 c (by omega), f1 c (by omega) (by omega) (by omega)]
    · rw [g111, e5, up_at, if_neg (fun y => hk y.2), e4, up_ne (by decide), e3, up_ne (by decide), f2 111 (by decide), f1 111 (by decide) (by decide) (by decide)]
end RDG
