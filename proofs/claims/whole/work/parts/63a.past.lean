/-! THE PAST: what can be undone -/
section PAS
variable {b : Nat} {a : AS} {G : Hp} {T : TT}
theorem rf45_all : ∀ i : Fin 17, rf 45 i.val = 46 + 2 * i.val := by decide +kernel
theorem rf45 {i : Nat} (h : i < 17) : rf 45 i = 46 + 2 * i := rf45_all ⟨i, h⟩
theorem rfS_all : ∀ i : Fin 17, rf (46 + 2 * i.val) 0 = 46 + 2 * i.val + 1 := by decide +kernel
theorem rfS {i : Nat} (h : i < 17) : rf (46 + 2 * i) 0 = 46 + 2 * i + 1 := rfS_all ⟨i, h⟩
theorem rf80_all : ∀ i : Fin 4, rf 80 i.val = 83 + 7 * i.val ∧ rf (83 + 7 * i.val) 0 = 83 + 7 * i.val + 1 ∧ rf 81 i.val = 85 + 7 * i.val ∧ rf (85 + 7 * i.val) 0 = 86 + 7 * i.val ∧ rf (85 + 7 * i.val) 1 = 87 + 7 * i.val ∧ rf (85 + 7 * i.val) 2 = 88 + 7 * i.val := by decide +kernel
theorem rf80 {i : Nat} (h : i < 4) : rf 80 i = 83 + 7 * i ∧ rf (83 + 7 * i) 0 = 83 + 7 * i + 1 ∧ rf 81 i = 85 + 7 * i ∧ rf (85 + 7 * i) 0 = 86 + 7 * i ∧ rf (85 + 7 * i) 1 = 87 + 7 * i ∧ rf (85 + 7 * i) 2 = 88 + 7 * i := rf80_all ⟨i, h⟩
abbrev UD : Type := Nat × (Nat → AS)
def XP (nx : Nat) (u : UD) (G : Hp) : Prop := G 44 4 = nx ∧ nx < 17 ∧ G 44 5 = u.1 ∧ u.1 ≤ 16 ∧ ∀ k, k < u.1 → XA (46 + 2 * ((nx + 17 - u.1 + k) % 17)) (u.2 k) G
def MP (u : UD) (G : Hp) : Prop := G 111 18 = u.1 ∧ u.1 ≤ 16 ∧ ∀ k, k < u.1 → MR (155 * (5 + k)) (u.2 k) G
def pU (u : UD) (a : AS) : UD := if u.1 < 16 then (u.1 + 1, fun k => if k = u.1 then a else u.2 k) else (16, fun k => if k = 15 then a else u.2 (k + 1))
def WU (T : TT) (u : UD) : Prop := ∀ k, k < u.1 → WA T (u.2 k)
theorem WU_p {u : UD} (h : WU T u) (hu : u.1 ≤ 16) (hw : WA T a) : WU T (pU u a) := by
  unfold pU; split
  · intro k hk
    show WA T (if k = u.1 then a else u.2 k)
    have hk : k < u.1 + 1 := hk
    split
    · exact hw
    · exact h k (by omega)
  · intro k hk
    show WA T (if k = 15 then a else u.2 (k + 1))
    have hk : k < 16 := hk
    split
    · exact hw
    · exact h (k + 1) (by omega)
theorem pU_le (u : UD) (a : AS) (hu : u.1 ≤ 16) : (pU u a).1 ≤ 16 := by
  unfold pU; split
  · show u.1 + 1 ≤ 16; omega
  · exact Nat.le_refl _
theorem XA.same {q : Nat} {G' : Hp} (h : XA q a G) (k : ∀ c, c = q ∨ c = q + 1 → G' c = G c) : XA q a G' := h.fr (k q (Or.inl rfl)) (k (q + 1) (Or.inr rfl))
theorem x_lay {nx : Nat} {u : UD} (h : XA 27 a G) (p : XP nx u G) : WP (fX3_lay 44 27 G) (fun _ G' => (∀ c, c ≠ 46 + 2 * nx → c ≠ 46 + 2 * nx + 1 → G' c = G c) ∧ XA (46 + 2 * nx) a G') := by
  unfold fX3_lay ra
  rw [p.1, rf_44_0, if_neg (by omega), if_pos (by have := p.2.1; omega), if_pos (by have := p.2.1; omega), Int.toNat_natCast, rf45 p.2.1]
  have := p.2.1
  refine w_bn (x_copyFrom (rfS p.2.1) rf_27_0 (by omega) (by omega) (by omega) h) (fun v g q => ?_)
  exact w_rt ⟨q.1, q.2.2⟩
theorem XP.fr {nx : Nat} {u : UD} {G' : Hp} (p : XP nx u G) (k : ∀ c, c ≠ 46 + 2 * nx → c ≠ 46 + 2 * nx + 1 → (c = 44 ∨ (46 ≤ c ∧ c < 80)) → G' c = G c) : XP nx u G' := by
  have h1 := p.2.1
  have h2 := p.2.2.2.1
  refine ⟨by rw [k 44 (by omega) (by omega) (by omega)]; exact p.1, h1, by rw [k 44 (by omega) (by omega) (by omega)]; exact p.2.2.1, h2, fun i hi => ?_⟩
  refine (p.2.2.2.2 i hi).same (fun c hc => k c ?_ ?_ ?_)
  · omega
  · omega
  · omega
theorem x_keepIf {nx : Nat} {u : UD} {v : Int} (hv : v = 0 ∨ v = 1) (p : XP nx u G) (x : XA (46 + 2 * nx) a G) : WP (fX3_keepIf 44 v G) (fun r G' => r = v ∧ (∀ c, c ≠ 44 → G' c = G c) ∧ ((v = 0 ∧ XP nx u G') ∨ (v = 1 ∧ ∃ nx', XP nx' (pU u a) G'))) := by
  have h1 := p.2.1
  have h2 := p.2.2.2.1
  have p1 := p.1
  have p3 := p.2.2.1
  unfold fX3_keepIf
  refine w_ite (fun c => ?_) (fun c => ?_)
  · exact w_rz hv ⟨rfl, fun _ _ => rfl, Or.inl ⟨c, p⟩⟩
  · rw [p1, iadd_id (by omega) (by omega)]
    have key : ∀ nv : Nat, (nv : Int) = (if (nx : Int) + 1 < 17 then (nx : Int) + 1 else 0) → WP (bh (up G 44 4 nv) fun G3 => bh (up G3 44 5 (if 16 < iadd (G3 44 5) 1 then 16 else iadd (G3 44 5) 1)) fun G4 => rz v G4) (fun r G' => r = v ∧ (∀ c, c ≠ 44 → G' c = G c) ∧ ((v = 0 ∧ XP nx u G') ∨ (v = 1 ∧ ∃ nx', XP nx' (pU u a) G'))) := by
      intro nv hn
      refine w_bh (fun G3 hG3 => ?_)
      refine w_bh (fun G4 hG4 => ?_)
      have e5 : G3 44 5 = u.1 := by rw [hG3, up_at, if_neg (by omega)]; exact p3
      rw [e5, iadd_id (by omega) (by omega)] at hG4
      have fr : ∀ c, c ≠ 44 → G4 c = G c := fun c z => by rw [hG4, up_ne z, hG3, up_ne z]
      refine w_rz hv ⟨rfl, fr, Or.inr ⟨by omega, nv, ?_, ?_, ?_, pU_le u a h2, ?_⟩⟩
      · rw [hG4, up_at, if_neg (by omega), hG3, up_at]; simp
      · split at hn <;> omega
      · rw [hG4, up_at, if_pos ⟨rfl, rfl⟩]
        unfold pU
        by_cases c16 : u.1 < 16
        · rw [if_pos c16, if_neg (by omega)]; show (u.1 : Int) + 1 = ((u.1 + 1 : Nat) : Int); omega
        · rw [if_neg c16, if_pos (by omega)]; rfl
      · intro k hk
        unfold pU at hk ⊢
        by_cases c16 : u.1 < 16
        · rw [if_pos c16] at hk ⊢
          have hk : k < u.1 + 1 := hk
          show XA (46 + 2 * ((nv + 17 - (u.1 + 1) + k) % 17)) (if k = u.1 then a else u.2 k) G4
          by_cases ek : k = u.1
          · rw [if_pos ek, show (nv + 17 - (u.1 + 1) + k) % 17 = nx by split at hn <;> omega]
            exact x.same (fun c hc => fr c (by omega))
          · rw [if_neg ek, show (nv + 17 - (u.1 + 1) + k) % 17 = (nx + 17 - u.1 + k) % 17 by split at hn <;> omega]
            exact (p.2.2.2.2 k (by omega)).same (fun c hc => fr c (by omega))
        · rw [if_neg c16] at hk ⊢
          have hk : k < 16 := hk
          show XA (46 + 2 * ((nv + 17 - 16 + k) % 17)) (if k = 15 then a else u.2 (k + 1)) G4
          by_cases ek : k = 15
          · rw [if_pos ek, show (nv + 17 - 16 + k) % 17 = nx by split at hn <;> omega]
            exact x.same (fun c hc => fr c (by omega))
          · rw [if_neg ek, show (nv + 17 - 16 + k) % 17 = (nx + 17 - u.1 + (k + 1)) % 17 by split at hn <;> omega]
            exact (p.2.2.2.2 (k + 1) (by omega)).same (fun c hc => fr c (by omega))
    rw [jn_s]
    refine w_ite (fun c => ?_) (fun c => ?_)
    · have := key (nx + 1) (by rw [if_pos c]; omega)
      rw [show ((nx + 1 : Nat) : Int) = (nx : Int) + 1 by omega] at this
      exact this
    · exact key 0 (by rw [if_neg c]; rfl)
theorem x_keepN {nx : Nat} {u : UD} {v : Int} (p : XP nx u G) (x : XA (46 + 2 * nx) a G) : WP (fX3_keepUnlessNone 44 v G) (fun r G' => r = v ∧ (∀ c, c ≠ 44 → G' c = G c) ∧ ((v = -1 ∧ XP nx u G') ∨ (v ≠ -1 ∧ ∃ nx', XP nx' (pU u a) G'))) := by
  unfold fX3_keepUnlessNone
  rw [jn_s]
  refine w_ite (fun c => ?_) (fun c => ?_)
  · refine w_bn (x_keepIf (Or.inl rfl) p x) (fun r g q => ?_)
    refine w_rt ⟨rfl, q.2.1, Or.inl ⟨c, ?_⟩⟩
    rcases q.2.2 with z | z
    · exact z.2
    · omega
  · refine w_bn (x_keepIf (Or.inr rfl) p x) (fun r g q => ?_)
    refine w_rt ⟨rfl, q.2.1, Or.inr ⟨c, ?_⟩⟩
    rcases q.2.2 with z | z
    · omega
    · exact z.2
/-- how undoing goes -/
def qU (u : UD) : UD := (u.1 - 1, u.2)
theorem x_takeBack {nx : Nat} {u : UD} (p : XP nx u G) : WP (fX3_takeBack 44 27 G) (fun r G' => (∀ c, c ≠ 27 → c ≠ 28 → c ≠ 44 → G' c = G c) ∧ ((u.1 = 0 ∧ r = 0 ∧ G' = G) ∨ (u.1 ≠ 0 ∧ r = 1 ∧ XA 27 (u.2 (u.1 - 1)) G' ∧ ∃ nx', XP nx' (qU u) G'))) := by
  have h1 := p.2.1
  have h2 := p.2.2.2.1
  have p1 := p.1
  have p3 := p.2.2.1
  unfold fX3_takeBack
  refine w_ite (fun c => ?_) (fun c => ?_)
  · rw [p3, isub_id (by omega) (by omega)]
    refine w_bh (fun G1 hG1 => ?_)
    have e4 : G1 44 4 = nx := by rw [hG1, up_at, if_neg (by omega)]; exact p1
    rw [jn_s, e4]
    have key : ∀ nv : Nat, nv = (if nx = 0 then 16 else nx - 1) → WP (bh (up G1 44 4 nv) fun G4 => ra (rf 44 0) 17 (G4 44 4) fun t5 => bn (fX6_copyFrom 27 t5 G4) fun _ G7 => rz 1 G7) (fun r G' => (∀ c, c ≠ 27 → c ≠ 28 → c ≠ 44 → G' c = G c) ∧ ((u.1 = 0 ∧ r = 0 ∧ G' = G) ∨ (u.1 ≠ 0 ∧ r = 1 ∧ XA 27 (u.2 (u.1 - 1)) G' ∧ ∃ nx', XP nx' (qU u) G'))) := by
      intro nv hn
      refine w_bh (fun G4 hG4 => ?_)
      have hnv : nv < 17 := by split at hn <;> omega
      have fr : ∀ c, c ≠ 44 → G4 c = G c := fun c z => by rw [hG4, up_ne z, hG1, up_ne z]
      have e44 : G4 44 4 = nv := by rw [hG4, up_at]; simp
      have e45 : G4 44 5 = (u.1 : Int) - 1 := by rw [hG4, up_at, if_neg (by omega), hG1, up_at]; simp
      unfold ra
      rw [e44, if_pos (by omega), Int.toNat_natCast, rf_44_0, rf45 hnv]
      have x := p.2.2.2.2 (u.1 - 1) (by omega)
      rw [show (nx + 17 - u.1 + (u.1 - 1)) % 17 = nv by split at hn <;> omega] at x
      refine w_bn (x_copyFrom rf_27_0 (rfS hnv) (by omega) (by omega) (by omega) (x.same (fun c hc => fr c (by omega)))) (fun v G7 q => ?_)
      refine w_rz (Or.inr rfl) ⟨fun c x1 x2 x3 => by rw [q.1 c x1 x2, fr c x3], Or.inr ⟨by omega, rfl, q.2.2, nv, ?_, hnv, ?_, ?_, ?_⟩⟩
      · rw [q.1 44 (by decide) (by decide)]; exact e44
      · rw [q.1 44 (by decide) (by decide), e45]; show (u.1 : Int) - 1 = ((u.1 - 1 : Nat) : Int); omega
      · show u.1 - 1 ≤ 16; omega
      · intro k hk
        have hk : k < u.1 - 1 := hk
        show XA (46 + 2 * ((nv + 17 - (u.1 - 1) + k) % 17)) (u.2 k) G7
        rw [show (nv + 17 - (u.1 - 1) + k) % 17 = (nx + 17 - u.1 + k) % 17 by split at hn <;> omega]
        exact (p.2.2.2.2 k (by omega)).same (fun c hc => by rw [q.1 c (by omega) (by omega), fr c (by omega)])
    refine w_ite (fun c2 => ?_) (fun c2 => ?_)
    · rw [isub_id (by omega) (by omega)]
      have := key (nx - 1) (by rw [if_neg (by omega)])
      rw [show ((nx - 1 : Nat) : Int) = (nx : Int) - 1 by omega] at this
      exact this
    · exact key 16 (by rw [if_pos (by omega)])
  · exact w_rz (Or.inl rfl) ⟨fun _ _ _ _ => rfl, Or.inl ⟨by omega, rfl, rfl⟩⟩
/-! the reference's past -/
theorem m_aside (h : MR 0 a G) : WP (fX12_aside 111 G) (fun _ G' => (∀ c, c ≠ 123 → G' c = G c) ∧ (∀ i, i < 3410 → G' 123 i = G 123 i) ∧ MR 3410 a G') := by
  unfold fX12_aside
  refine w_bn (m_copy (s := 0) (t := 3410) (by omega) (by omega) (by omega) h) (fun v g q => ?_)
  exact w_rt ⟨q.1, fun i x => q.2.1 i (Or.inl x), q.2.2.1⟩
theorem MP.fr {u : UD} {G' : Hp} (p : MP u G) (h1 : G' 111 18 = G 111 18) (h2 : ∀ i, 775 ≤ i → i < 3255 → G' 123 i = G 123 i) : MP u G' := by
  refine ⟨by rw [h1]; exact p.1, p.2.1, fun k hk i hi => ?_⟩
  have := p.2.1
  rw [h2 _ (by omega) (by omega)]; exact p.2.2 k hk i hi
theorem m_copyU {s t : Nat} {ss tt : Int} (es : ss = s) (et : tt = t) (hs : s ≤ 3410) (ht : t ≤ 3410) (hd : s + 130 ≤ t ∨ t + 130 ≤ s) (h : MR s a G) : WP (fX12_copies 111 ss tt 130 G) (fun _ G' => (∀ c, c ≠ 123 → G' c = G c) ∧ (∀ i, i < t ∨ t + 130 ≤ i → G' 123 i = G 123 i) ∧ MR t a G' ∧ MR s a G') := by
  rw [es, et]; exact m_copy hs ht hd h
theorem m_keeps {u : UD} (p : MP u G) (x : MR 3410 a G) : WP (fX12_keeps 111 G) (fun _ G' => (∀ c, c ≠ 111 → c ≠ 123 → G' c = G c) ∧ (∀ k, k ≠ 18 → G' 111 k = G 111 k) ∧ (∀ i, i < 775 → G' 123 i = G 123 i) ∧ MP (pU u a) G') := by
  have u2 := p.2.1
  have u1 := p.1
  unfold fX12_keeps
  rw [jn_s]
  have key : ∀ (G1 : Hp) (n : Nat), n < 16 → G1 111 18 = n → (∀ c, c ≠ 111 → c ≠ 123 → G1 c = G c) → (∀ k, k ≠ 18 → G1 111 k = G 111 k) → (∀ i, i < 775 ∨ 3255 ≤ i → G1 123 i = G 123 i) → (∀ k, k < n → MR (155 * (5 + k)) ((pU u a).2 k) G1) → (pU u a).1 = n + 1 → (pU u a).2 n = a → WP (bn (fX12_copies 111 3410 (imul 155 (iadd 5 (G1 111 18))) 130 G1) fun _ G3 => bh (up G3 111 18 (iadd (G3 111 18) 1)) fun G4 => rt 0 G4) (fun _ G' => (∀ c, c ≠ 111 → c ≠ 123 → G' c = G c) ∧ (∀ k, k ≠ 18 → G' 111 k = G 111 k) ∧ (∀ i, i < 775 → G' 123 i = G 123 i) ∧ MP (pU u a) G') := by
    intro G1 n hn e18 f1 g1 c1 m1 pn pa
    rw [e18, iadd_id (by omega) (by omega), imul_id (by omega) (by omega)]
    have x1 : MR 3410 a G1 := fun i hi => by rw [c1 _ (by omega)]; exact x i hi
    refine w_bn (m_copyU (s := 3410) (t := 155 * (5 + n)) rfl (by omega) (by omega) (by omega) (by omega) x1) (fun v G3 q => ?_)
    have e3 : G3 111 18 = n := by rw [q.1 111 (by decide)]; exact e18
    rw [e3, iadd_id (by omega) (by omega)]
    refine w_bh (fun G4 hG4 => ?_)
    refine w_rt ⟨fun c x y => by rw [hG4, up_ne x, q.1 c y, f1 c x y], fun k hk => by rw [hG4, up_at, if_neg (fun z => hk z.2), q.1 111 (by decide), g1 k hk], fun i hi => by rw [hG4, up_ne (by decide), q.2.1 i (by omega), c1 i (by omega)], ?_, by omega, fun k hk => ?_⟩
    · rw [hG4, up_at, if_pos ⟨rfl, rfl⟩, pn]; omega
    · rw [pn] at hk
      have e4 : G4 123 = G3 123 := by rw [hG4, up_ne (by decide)]
      by_cases ek : k = n
      · rw [ek, pa]; exact q.2.2.1.fr e4
      · exact ((m1 k (by omega)).ou (q := 155 * (5 + n)) (by omega) q.2.1).fr e4
  refine w_ite (fun c => ?_) (fun c => ?_)
  · have hu : u.1 = 16 := by omega
    refine w_bd (fun v6 hv6 => ?_)
    refine w_lpIH (fun (v7 : Int) (G8 : Hp) => (1 ≤ v7) ∧ (v7 ≤ 16) ∧ (∀ c, c ≠ 123 → G8 c = G c) ∧ (∀ i, i < 775 ∨ 3255 ≤ i → G8 123 i = G 123 i) ∧ (∀ k : Nat, (k : Int) + 1 < v7 → MR (155 * (5 + k)) (u.2 (k + 1)) G8) ∧ (∀ k : Nat, v7 ≤ (k : Int) → k < 16 → MR (155 * (5 + k)) (u.2 k) G8)) (fun v7 _ => (16 - v7).toNat) (fun rc v7 G8 hI hrc => ?_) _ _ ?_ ?_
    · obtain ⟨i0, i1, f8, g8, lo, sh⟩ := hI
      refine w_ite (fun c2 => ?_) (fun c2 => ?_)
      · rw [iadd_id (by omega) (by omega), isub_id (by omega) (by omega), imul_id (by omega) (by omega), imul_id (by omega) (by omega)]
        refine w_bn (m_copyU (s := 155 * (5 + v7.toNat)) (t := 155 * (5 + (v7.toNat - 1))) (by omega) (by omega) (by omega) (by omega) (by omega) (sh v7.toNat (by omega) (by omega))) (fun v G11 q => ?_)
        refine w_bd (fun v12 hv12 => ?_)
        rw [iadd_id (by omega) (by omega)] at hv12
        refine hrc _ _ ⟨by omega, by omega, fun c x => by rw [q.1 c x]; exact f8 c x, fun i x => by rw [q.2.1 i (by omega)]; exact g8 i x, fun k x => ?_, fun k x y => ?_⟩ (by show (16 - v12).toNat < (16 - v7).toNat; omega)
        · by_cases ek : (k : Int) + 1 = v7
          · have e1 : k = v7.toNat - 1 := by omega
            have e2 : v7.toNat = k + 1 := by omega
            rw [e2] at q
            have := q.2.2.1
            rw [show k + 1 - 1 = k by omega] at this
            exact this
          · exact (lo k (by omega)).ou (q := 155 * (5 + (v7.toNat - 1))) (by omega) q.2.1
        · exact (sh k (by omega) y).ou (q := 155 * (5 + (v7.toNat - 1))) (by omega) q.2.1
      · have e18 : G8 111 18 = 16 := by rw [f8 111 (by decide), u1, hu]; rfl
        rw [e18, isub_id (by omega) (by omega)]
        refine w_bh (fun G10 hG10 => ?_)
        have pe : pU u a = (16, fun k => if k = 15 then a else u.2 (k + 1)) := by unfold pU; rw [if_neg (by omega)]
        refine key G10 15 (by omega) (by rw [hG10, up_at]; simp) (fun c x y => by rw [hG10, up_ne x, f8 c y]) (fun k hk => by rw [hG10, up_at, if_neg (fun z => hk z.2), f8 111 (by decide)]) (fun i x => by rw [hG10, up_ne (by decide)]; exact g8 i x) (fun k hk => ?_) (by rw [pe]) (by rw [pe]; rfl)
        rw [pe]
        show MR _ (if k = 15 then a else u.2 (k + 1)) G10
        rw [if_neg (by omega)]
        exact (lo k (by omega)).fr (by rw [hG10, up_ne (by decide)])
    · exact ⟨by omega, by omega, fun c x => rfl, fun i x => rfl, fun k x => by omega, fun k x y => p.2.2 k (by omega)⟩
    · show (16 - v6).toNat < 5000; omega
  · have pe : pU u a = (u.1 + 1, fun k => if k = u.1 then a else u.2 k) := by unfold pU; rw [if_pos (by omega)]
    refine key G u.1 (by omega) u1 (fun _ _ _ => rfl) (fun _ _ => rfl) (fun _ _ => rfl) (fun k hk => ?_) (by rw [pe]) (by rw [pe]; show (if u.1 = u.1 then a else _) = a; rw [if_pos rfl])
    rw [pe]
    show MR _ (if k = u.1 then a else u.2 k) G
    rw [if_neg (by omega)]; exact p.2.2 k hk
theorem m_done {u : UD} {v : Int} (p : MP u G) (x : MR 3410 a G) : WP (fX12_done 111 v G) (fun r G' => r = v ∧ (∀ c, c ≠ 111 → c ≠ 123 → G' c = G c) ∧ (∀ k, k ≠ 18 → G' 111 k = G 111 k) ∧ (∀ i, i < 775 → G' 123 i = G 123 i) ∧ ((v < 0 ∧ MP u G') ∨ (0 ≤ v ∧ MP (pU u a) G'))) := by
  unfold fX12_done
  refine w_ite (fun c => ?_) (fun c => ?_)
  · exact w_rt ⟨rfl, fun _ _ _ => rfl, fun _ _ => rfl, fun _ _ => rfl, Or.inl ⟨c, p⟩⟩
  · refine w_bn (m_keeps p x) (fun r g q => ?_)
    exact w_rt ⟨rfl, q.1, q.2.1, q.2.2.1, Or.inr ⟨by omega, q.2.2.2⟩⟩
theorem m_undo {u : UD} (p : MP u G) (h : MR 0 a G) : WP (fX12_undo 111 G) (fun r G' => (∀ c, c ≠ 111 → c ≠ 123 → G' c = G c) ∧ (∀ k, k ≠ 0 → k ≠ 18 → G' 111 k = G 111 k) ∧ (∀ i, 130 ≤ i → G' 123 i = G 123 i) ∧ ((u.1 = 0 ∧ r = 0 ∧ MP u G' ∧ MR 0 a G') ∨ (u.1 ≠ 0 ∧ r = 1 ∧ MR 0 (u.2 (u.1 - 1)) G' ∧ MP (qU u) G'))) := by
  have u2 := p.2.1
  have u1 := p.1
  unfold fX12_undo
  refine w_bh (fun G1 hG1 => ?_)
  have e1 : G1 111 18 = u.1 := by rw [hG1, up_at, if_neg (by omega)]; exact u1
  have p1 : MP u G1 := p.fr (by rw [hG1, up_at, if_neg (by omega)]) (fun i _ _ => by rw [hG1, up_ne (by decide)])
  refine w_ite (fun c => ?_) (fun c => ?_)
  · exact w_rz (Or.inl rfl) ⟨fun c x _ => by rw [hG1, up_ne x], fun k x _ => by rw [hG1, up_at, if_neg (fun z => x z.2)], fun i _ => by rw [hG1, up_ne (by decide)], Or.inl ⟨by omega, rfl, p1, h.fr (by rw [hG1, up_ne (by decide)])⟩⟩
  · rw [e1, isub_id (by omega) (by omega)]
    refine w_bh (fun G2 hG2 => ?_)
    have e2 : G2 111 18 = (u.1 : Int) - 1 := by rw [hG2, up_at]; simp
    rw [e2, iadd_id (by omega) (by omega), imul_id (by omega) (by omega)]
    have m2 : ∀ k, k < u.1 → MR (155 * (5 + k)) (u.2 k) G2 := fun k hk => (p1.2.2 k hk).fr (by rw [hG2, up_ne (by decide)])
    refine w_bn (m_copyU (s := 155 * (5 + (u.1 - 1))) (t := 0) (by omega) rfl (by omega) (by omega) (by omega) (m2 (u.1 - 1) (by omega))) (fun v G3 q => ?_)
    refine w_rz (Or.inr rfl) ⟨fun c x y => by rw [q.1 c y, hG2, up_ne x, hG1, up_ne x], fun k x y => by rw [q.1 111 (by decide), hG2, up_at, if_neg (fun z => y z.2), hG1, up_at, if_neg (fun z => x z.2)], fun i x => by rw [q.2.1 i (by omega), hG2, up_ne (by decide), hG1, up_ne (by decide)], Or.inr ⟨by omega, rfl, q.2.2.1, ?_, by show u.1 - 1 ≤ 16; omega, fun k hk => ?_⟩⟩
    · rw [q.1 111 (by decide), e2]; show (u.1 : Int) - 1 = ((u.1 - 1 : Nat) : Int); omega
    · have hk : k < u.1 - 1 := hk
      exact (m2 k (by omega)).ou (q := 0) (by omega) q.2.1
end PAS
