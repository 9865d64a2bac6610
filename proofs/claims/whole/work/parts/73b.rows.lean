/-! THE START: rows, and the small makers -/
section STA
variable {G : Hp} {Q : Int → Hp → Prop}
theorem w_na {n kk : Nat} {len : Int} {o : RT} (h : kd n = kk ∧ (ln n : Int) = len) (k : WP o Q) : WP (na n kk len o) Q := by unfold na; rw [if_pos h]; exact k
theorem w_no {n ci : Nat} {o : RT} (h : kd n = ci) (k : WP o Q) : WP (no n ci o) Q := by unfold no; rw [if_pos h]; exact k
theorem w_gr {t k : Nat} {o : RT} (h : G t k = 1) (w : WP o Q) : WP (gr G t k o) Q := by unfold gr; rw [if_pos h]; exact w
theorem w_pf {t k c : Nat} {o : RT} (h : rf t k = c) (w : WP o Q) : WP (pf t k c o) Q := by unfold pf; rw [if_pos h]; exact w
theorem w_aa {a len c : Nat} {i : Int} {o : RT} (h : (0 ≤ i ∧ i < (len : Int)) ∧ rf a i.toNat = c) (w : WP o Q) : WP (aa a len i c o) Q := by unfold aa; rw [if_pos h]; exact w
theorem w_ve {n : Nat} (h : Q 0 G) : WP (ve n n G) Q := by unfold ve; rw [if_pos rfl]; exact w_rt h
theorem w_if {c : Prop} {D : Decidable c} {o o' : RT} (h : c) (w : WP o Q) : WP (@ite RT c D o o') Q := by rw [if_pos h]; exact w
theorem clr_at {n c k : Nat} : clr G n c k = if c = n then 0 else G c k := by unfold clr; split <;> rfl
theorem w_lpIHN {b : Int → Hp → Nat → RT} {F : (Int → Hp → Nat → RT) → Int → Hp → Nat → RT} (I : Int → Hp → Nat → Prop) (m : Int → Hp → Nat → Nat) (hs : ∀ rc v0 v1 v2, I v0 v1 v2 → (∀ u0 u1 u2, I u0 u1 u2 → m u0 u1 u2 < m v0 v1 v2 → WP (rc u0 u1 u2) Q) → WP (F rc v0 v1 v2) Q) (x0 : Int) (x1 : Hp) (x2 : Nat) (h0 : I x0 x1 x2) (hm : m x0 x1 x2 < 5000) : WP (lp b 5000 F x0 x1 x2) Q := by
  have key : ∀ k v0 v1 v2, I v0 v1 v2 → m v0 v1 v2 < k → WP (lp b k F v0 v1 v2) Q := by
    intro k
    induction k with
    | zero => intro v0 v1 v2 _ h; exact absurd h (Nat.not_lt_zero _)
    | succ k ih => intro v0 v1 v2 hI h; exact hs _ v0 v1 v2 hI (fun u0 u1 u2 hu hl => ih u0 u1 u2 hu (by omega))
  exact key 5000 x0 x1 x2 h0 hm
/-- all references of a cell are set -/
def OKM (c : Nat) (G : Hp) : Prop := ∀ k, plR c k = true → k < ln c → G c k = 1
theorem OKM.fr {c : Nat} {G' : Hp} (h : OKM c G) (e : G' c = G c) : OKM c G' := fun k a b => by rw [e]; exact h k a b
theorem okm_arr {c : Nat} (h : kd c = 20 ∨ kd c = 21 ∨ kd c = 22 ∨ kd c = 23) : OKM c G := by
  intro k hp _
  exfalso
  unfold plR isR at hp
  rcases h with h | h | h | h <;> rw [h] at hp <;> simp [RFS] at hp
theorem i6 {q : Nat} (h1 : kd (q + 1) = 20 ∧ (ln (q + 1) : Int) = 114) (h2 : rf q 0 = q + 1) (h3 : kd q = 6) (h4 : ln q = 2) : WP (iX6_init q (q + 1) G) (fun _ G' => (∀ c, c ≠ q → c ≠ q + 1 → G' c = G c) ∧ (∀ k, k ≠ 0 → G' q k = G q k) ∧ (∀ i : Nat, i < 114 → G' (q + 1) i = -1) ∧ OKM q G' ∧ OKM (q + 1) G') := by
  unfold iX6_init
  rw [h2]
  refine w_na h1 ?_
  refine w_bh (fun g1 e1 => ?_)
  refine w_pf h2 ?_
  refine w_bh (fun g4 e4 => ?_)
  refine w_bd (fun v5 e5 => ?_)
  have k4 : ∀ c, c ≠ q → c ≠ q + 1 → g4 c = G c := fun c a b => by rw [e4, up_ne a, e1, clr_ne b]
  have k0 : g4 q 0 = 1 := by rw [e4, up_at, if_pos ⟨rfl, rfl⟩]
  have kq : ∀ k, k ≠ 0 → g4 q k = G q k := fun k hk => by rw [e4, up_at, if_neg (fun y => hk y.2), e1, clr_ne (by omega)]
  refine w_lpIH (fun v g => ∃ k : Nat, v = k ∧ k ≤ 114 ∧ (∀ c, c ≠ q + 1 → g c = g4 c) ∧ ∀ i : Nat, i < k → g (q + 1) i = -1) (fun v _ => (114 - v).toNat) (fun rc v g hI hr => ?_) v5 g4 ⟨0, e5, by omega, fun _ _ => rfl, fun i hi => absurd hi (Nat.not_lt_zero i)⟩ (by omega)
  obtain ⟨k, hv, hk, f, l⟩ := hI
  refine w_ite (fun c => ?_) (fun c => ?_)
  · refine w_gr (by rw [f q (by omega)]; exact k0) ?_
    refine w_if (by omega) ?_
    refine w_wr (by omega) (by omega) (fun g9 e9 => ?_)
    rw [hv, Int.toNat_natCast] at e9
    refine w_bd (fun v10 e10 => ?_)
    rw [iadd_id (by omega) (by omega)] at e10
    refine hr v10 g9 ⟨k + 1, by omega, by omega, fun c hc => by rw [e9, up_ne hc, f c hc], fun i hi => ?_⟩ (by omega)
    rw [e9, up_at]
    by_cases ei : i = k
    · rw [if_pos ⟨rfl, ei⟩]
    · rw [if_neg (fun y => ei y.2)]; exact l i (by omega)
  · obtain rfl : k = 114 := by omega
    refine w_ve ⟨fun c a b => by rw [f c b, k4 c a b], fun k hk => by rw [f q (by omega)]; exact kq k hk, l, fun k hp hl => ?_, okm_arr (Or.inl h1.1)⟩
    rw [f q (by omega)]
    have : k = 0 ∨ k = 1 := by omega
    rcases this with h | h <;> subst h
    · exact k0
    · exfalso; unfold plR isR at hp; rw [h3] at hp; simp [RFS] at hp
theorem i5 {q : Nat} (h1 : kd (q + 1) = 20 ∧ (ln (q + 1) : Int) = 8) (h2 : kd (q + 2) = 20 ∧ (ln (q + 2) : Int) = 8) (h3 : kd (q + 3) = 23 ∧ (ln (q + 3) : Int) = 8) (h4 : kd (q + 4) = 20 ∧ (ln (q + 4) : Int) = 22) (r0 : rf q 0 = q + 1) (r1 : rf q 1 = q + 2) (r2 : rf q 2 = q + 3) (r3 : rf q 3 = q + 4) (hk : kd q = 5) (hl : ln q = 5) : WP (iX5_init q (q + 1) G) (fun _ G' => (∀ c, c < q ∨ q + 4 < c → G' c = G c) ∧ (∀ k, 4 ≤ k → G' q k = G q k) ∧ (∀ i, G' (q + 3) i = 0) ∧ ∀ c, q ≤ c → c ≤ q + 4 → OKM c G') := by
  unfold iX5_init
  refine w_na h1 ?_
  refine w_bh (fun g1 e1 => ?_)
  refine w_pf r0 ?_
  refine w_bh (fun g2 e2 => ?_)
  refine w_na h2 ?_
  refine w_bh (fun g3 e3 => ?_)
  refine w_pf r1 ?_
  refine w_bh (fun g4 e4 => ?_)
  refine w_na h3 ?_
  refine w_bh (fun g5 e5 => ?_)
  refine w_pf r2 ?_
  refine w_bh (fun g6 e6 => ?_)
  refine w_na h4 ?_
  refine w_bh (fun g7 e7 => ?_)
  refine w_pf r3 ?_
  refine w_bh (fun g8 e8 => ?_)
  have aq : ∀ k, g8 q k = if k = 3 then 1 else if k = 2 then 1 else if k = 1 then 1 else if k = 0 then 1 else G q k := by
    intro k
    rw [e8, up_at, e7, clr_ne (by omega), e6, up_at, e5, clr_ne (by omega), e4, up_at, e3, clr_ne (by omega), e2, up_at, e1, clr_ne (by omega)]
    simp only [true_and]
  refine w_ve ⟨fun c hc => ?_, fun k k4 => ?_, fun i => ?_, fun c c1 c2 => ?_⟩
  · rw [e8, up_ne (by omega), e7, clr_ne (by omega), e6, up_ne (by omega), e5, clr_ne (by omega), e4, up_ne (by omega), e3, clr_ne (by omega), e2, up_ne (by omega), e1, clr_ne (by omega)]
  · rw [aq, if_neg (by omega), if_neg (by omega), if_neg (by omega), if_neg (by omega)]
  · rw [e8, up_ne (by omega), e7, clr_ne (by omega), e6, up_ne (by omega), e5, clr_self]
  · by_cases ec : c = q
    · subst ec
      intro k hp hk2
      rw [aq]
      have : k = 0 ∨ k = 1 ∨ k = 2 ∨ k = 3 ∨ k = 4 := by omega
      rcases this with h | h | h | h | h <;> subst h
      · rfl
      · rfl
      · rfl
      · rfl
      · exfalso; unfold plR isR at hp; rw [hk] at hp; simp [RFS] at hp
    · have : c = q + 1 ∨ c = q + 2 ∨ c = q + 3 ∨ c = q + 4 := by omega
      rcases this with h | h | h | h <;> subst h
      · exact okm_arr (Or.inl h1.1)
      · exact okm_arr (Or.inl h2.1)
      · exact okm_arr (Or.inr (Or.inr (Or.inr h3.1)))
      · exact okm_arr (Or.inl h4.1)
end STA
