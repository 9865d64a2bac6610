/-! THE START: the reference's maker; the end -/
section STF
variable {G : Hp} {Q : Int → Hp → Prop}
theorem w_nb {o : RT} (w : WP o Q) : WP (nb 1 o) Q := by unfold nb; rw [if_pos rfl]; exact w
theorem w_nl {t k : Nat} {len : Int} {f : Hp → RT} (h : kd 128 = 20 ∧ (ln 128 : Int) = len ∧ rf t k = 128 ∧ AF (up (clr G 128) t k 1)) (w : ∀ g, g = up (clr G 128) t k 1 → WP (f g) Q) : WP (nl t k len G f) Q := by unfold nl; rw [if_pos h]; exact w _ rfl
theorem tw_s {L : List Int} {g g' : Hp} {n : Nat} {v : Int} (h : ∀ i, g 116 i = L.getD i 0) (e : g' = up g 116 n v) (hn : n = L.length) : ∀ i, g' 116 i = (L ++ [v]).getD i 0 := by
  intro i
  rw [e, up_at, gd_app]
  by_cases c : i < L.length
  · rw [if_neg (by omega), if_pos c]; exact h i
  · rw [if_neg c]
    by_cases c2 : i = n
    · rw [if_pos ⟨rfl, c2⟩, c2, hn, Nat.sub_self]; rfl
    · rw [if_neg (fun y => c2 y.2), h i]
      have e1 : L.getD i 0 = 0 := by rw [List.getD_eq_getElem?_getD, List.getElem?_eq_none (by omega)]; rfl
      have e2 : [v].getD (i - L.length) 0 = 0 := by rw [List.getD_eq_getElem?_getD, List.getElem?_eq_none (by rw [List.length_singleton]; omega)]; rfl
      rw [e1, e2]
theorem i12_111 {S : TS} (w : WTp S) (hO : ∀ c, c ≤ 110 → OKM c G) : WP (iX12_init 111 G) (fun _ G' => (∀ c, c < 111 → G' c = G c) ∧ (∀ i : Nat, i < 26 → G' 116 i = W37 i) ∧ G' 111 2 = G 111 2 ∧ RW (TD S D0) W0 G') := by
  unfold iX12_init
  skip
  refine w_na (by decide) ?_
  refine w_bh (fun g1 e1 => ?_)
  refine w_pf rfl ?_
  refine w_bh (fun g2 e2 => ?_)
  refine w_na (by decide) ?_
  refine w_bh (fun g3 e3 => ?_)
  refine w_pf rfl ?_
  refine w_bh (fun g4 e4 => ?_)
  refine w_na (by decide) ?_
  refine w_bh (fun g5 e5 => ?_)
  refine w_pf rfl ?_
  refine w_bh (fun g6 e6 => ?_)
  refine w_na (by decide) ?_
  refine w_bh (fun g7 e7 => ?_)
  refine w_pf rfl ?_
  refine w_bh (fun g8 e8 => ?_)
  refine w_na (by decide) ?_
  refine w_bh (fun g9 e9 => ?_)
  have t9 : ∀ i, g9 116 i = ([] : List Int).getD i 0 := fun i => by rw [e9, clr_self]; rfl
  refine w_wr (by decide) (by decide) (fun g10 e10 => ?_)
  have t10 := tw_s t9 e10 rfl
  refine w_wr (by decide) (by decide) (fun g11 e11 => ?_)
  have t11 := tw_s t10 e11 rfl
  refine w_wr (by decide) (by decide) (fun g12 e12 => ?_)
  have t12 := tw_s t11 e12 rfl
  refine w_wr (by decide) (by decide) (fun g13 e13 => ?_)
  have t13 := tw_s t12 e13 rfl
  refine w_wr (by decide) (by decide) (fun g14 e14 => ?_)
  have t14 := tw_s t13 e14 rfl
  refine w_wr (by decide) (by decide) (fun g15 e15 => ?_)
  have t15 := tw_s t14 e15 rfl
  refine w_wr (by decide) (by decide) (fun g16 e16 => ?_)
  have t16 := tw_s t15 e16 rfl
  refine w_wr (by decide) (by decide) (fun g17 e17 => ?_)
  have t17 := tw_s t16 e17 rfl
  refine w_wr (by decide) (by decide) (fun g18 e18 => ?_)
  have t18 := tw_s t17 e18 rfl
  refine w_wr (by decide) (by decide) (fun g19 e19 => ?_)
  have t19 := tw_s t18 e19 rfl
  refine w_wr (by decide) (by decide) (fun g20 e20 => ?_)
  have t20 := tw_s t19 e20 rfl
  refine w_wr (by decide) (by decide) (fun g21 e21 => ?_)
  have t21 := tw_s t20 e21 rfl
  refine w_wr (by decide) (by decide) (fun g22 e22 => ?_)
  have t22 := tw_s t21 e22 rfl
  refine w_wr (by decide) (by decide) (fun g23 e23 => ?_)
  have t23 := tw_s t22 e23 rfl
  refine w_wr (by decide) (by decide) (fun g24 e24 => ?_)
  have t24 := tw_s t23 e24 rfl
  refine w_wr (by decide) (by decide) (fun g25 e25 => ?_)
  have t25 := tw_s t24 e25 rfl
  refine w_wr (by decide) (by decide) (fun g26 e26 => ?_)
  have t26 := tw_s t25 e26 rfl
  refine w_wr (by decide) (by decide) (fun g27 e27 => ?_)
  have t27 := tw_s t26 e27 rfl
  refine w_wr (by decide) (by decide) (fun g28 e28 => ?_)
  have t28 := tw_s t27 e28 rfl
  refine w_wr (by decide) (by decide) (fun g29 e29 => ?_)
  have t29 := tw_s t28 e29 rfl
  refine w_wr (by decide) (by decide) (fun g30 e30 => ?_)
  have t30 := tw_s t29 e30 rfl
  refine w_wr (by decide) (by decide) (fun g31 e31 => ?_)
  have t31 := tw_s t30 e31 rfl
  refine w_wr (by decide) (by decide) (fun g32 e32 => ?_)
  have t32 := tw_s t31 e32 rfl
  refine w_wr (by decide) (by decide) (fun g33 e33 => ?_)
  have t33 := tw_s t32 e33 rfl
  refine w_wr (by decide) (by decide) (fun g34 e34 => ?_)
  have t34 := tw_s t33 e34 rfl
  refine w_wr (by decide) (by decide) (fun g35 e35 => ?_)
  have t35 := tw_s t34 e35 rfl
  refine w_pf rfl ?_
  refine w_bh (fun g36 e36 => ?_)
  refine w_na (by decide) ?_
  refine w_bh (fun g37 e37 => ?_)
  refine w_pf rfl ?_
  refine w_bh (fun g38 e38 => ?_)
  refine w_na (by decide) ?_
  refine w_bh (fun g39 e39 => ?_)
  refine w_pf rfl ?_
  refine w_bh (fun g40 e40 => ?_)
  refine w_na (by decide) ?_
  refine w_bh (fun g41 e41 => ?_)
  refine w_pf rfl ?_
  refine w_bh (fun g42 e42 => ?_)
  refine w_na (by decide) ?_
  refine w_bh (fun g43 e43 => ?_)
  refine w_pf rfl ?_
  refine w_bh (fun g44 e44 => ?_)
  refine w_na (by decide) ?_
  refine w_bh (fun g45 e45 => ?_)
  refine w_pf rfl ?_
  refine w_bh (fun g46 e46 => ?_)
  refine w_na (by decide) ?_
  refine w_bh (fun g47 e47 => ?_)
  refine w_pf rfl ?_
  refine w_bh (fun g48 e48 => ?_)
  refine w_na (by decide) ?_
  refine w_bh (fun g49 e49 => ?_)
  refine w_pf rfl ?_
  refine w_bh (fun g50 e50 => ?_)
  refine w_na (by decide) ?_
  refine w_bh (fun g51 e51 => ?_)
  refine w_pf rfl ?_
  refine w_bh (fun g52 e52 => ?_)
  refine w_na (by decide) ?_
  refine w_bh (fun g53 e53 => ?_)
  refine w_pf rfl ?_
  refine w_bh (fun g54 e54 => ?_)
  refine w_na (by decide) ?_
  refine w_bh (fun g55 e55 => ?_)
  refine w_pf rfl ?_
  refine w_bh (fun g56 e56 => ?_)
  refine w_na (by decide) ?_
  refine w_bh (fun g57 e57 => ?_)
  refine w_pf rfl ?_
  refine w_bh (fun g58 e58 => ?_)
  have fr : ∀ c, c < 111 → g58 c = G c := fun c hc => by
    rw [e58, up_ne (by omega), e57, clr_ne (by omega), e56, up_ne (by omega), e55, clr_ne (by omega), e54, up_ne (by omega), e53, clr_ne (by omega), e52, up_ne (by omega), e51, clr_ne (by omega), e50, up_ne (by omega), e49, clr_ne (by omega), e48, up_ne (by omega), e47, clr_ne (by omega), e46, up_ne (by omega), e45, clr_ne (by omega), e44, up_ne (by omega), e43, clr_ne (by omega), e42, up_ne (by omega), e41, clr_ne (by omega), e40, up_ne (by omega), e39, clr_ne (by omega), e38, up_ne (by omega), e37, clr_ne (by omega), e36, up_ne (by omega), e35, up_ne (by omega), e34, up_ne (by omega), e33, up_ne (by omega), e32, up_ne (by omega), e31, up_ne (by omega), e30, up_ne (by omega), e29, up_ne (by omega), e28, up_ne (by omega), e27, up_ne (by omega), e26, up_ne (by omega), e25, up_ne (by omega), e24, up_ne (by omega), e23, up_ne (by omega), e22, up_ne (by omega), e21, up_ne (by omega), e20, up_ne (by omega), e19, up_ne (by omega), e18, up_ne (by omega), e17, up_ne (by omega), e16, up_ne (by omega), e15, up_ne (by omega), e14, up_ne (by omega), e13, up_ne (by omega), e12, up_ne (by omega), e11, up_ne (by omega), e10, up_ne (by omega), e9, clr_ne (by omega), e8, up_ne (by omega), e7, clr_ne (by omega), e6, up_ne (by omega), e5, clr_ne (by omega), e4, up_ne (by omega), e3, clr_ne (by omega), e2, up_ne (by omega), e1, clr_ne (by omega)]
  have aq : ∀ k, g58 111 k = if k = 23 then 1 else if k = 22 then 1 else if k = 20 then 1 else if k = 19 then 1 else if k = 17 then 1 else if k = 16 then 1 else if k = 15 then 1 else if k = 14 then 1 else if k = 13 then 1 else if k = 11 then 1 else if k = 10 then 1 else if k = 9 then 1 else if k = 6 then 1 else if k = 5 then 1 else if k = 4 then 1 else if k = 1 then 1 else G 111 k := by
    intro k
    rw [e58, up_at, e57, clr_ne (by decide), e56, up_at, e55, clr_ne (by decide), e54, up_at, e53, clr_ne (by decide), e52, up_at, e51, clr_ne (by decide), e50, up_at, e49, clr_ne (by decide), e48, up_at, e47, clr_ne (by decide), e46, up_at, e45, clr_ne (by decide), e44, up_at, e43, clr_ne (by decide), e42, up_at, e41, clr_ne (by decide), e40, up_at, e39, clr_ne (by decide), e38, up_at, e37, clr_ne (by decide), e36, up_at, e35, up_ne (by decide), e34, up_ne (by decide), e33, up_ne (by decide), e32, up_ne (by decide), e31, up_ne (by decide), e30, up_ne (by decide), e29, up_ne (by decide), e28, up_ne (by decide), e27, up_ne (by decide), e26, up_ne (by decide), e25, up_ne (by decide), e24, up_ne (by decide), e23, up_ne (by decide), e22, up_ne (by decide), e21, up_ne (by decide), e20, up_ne (by decide), e19, up_ne (by decide), e18, up_ne (by decide), e17, up_ne (by decide), e16, up_ne (by decide), e15, up_ne (by decide), e14, up_ne (by decide), e13, up_ne (by decide), e12, up_ne (by decide), e11, up_ne (by decide), e10, up_ne (by decide), e9, clr_ne (by decide), e8, up_at, e7, clr_ne (by decide), e6, up_at, e5, clr_ne (by decide), e4, up_at, e3, clr_ne (by decide), e2, up_at, e1, clr_ne (by decide)]
    simp only [true_and]
  have tb : ∀ i : Nat, i < 26 → g58 116 i = W37 i := fun i hi => by
    rw [e58, up_ne (by decide), e57, clr_ne (by decide), e56, up_ne (by decide), e55, clr_ne (by decide), e54, up_ne (by decide), e53, clr_ne (by decide), e52, up_ne (by decide), e51, clr_ne (by decide), e50, up_ne (by decide), e49, clr_ne (by decide), e48, up_ne (by decide), e47, clr_ne (by decide), e46, up_ne (by decide), e45, clr_ne (by decide), e44, up_ne (by decide), e43, clr_ne (by decide), e42, up_ne (by decide), e41, clr_ne (by decide), e40, up_ne (by decide), e39, clr_ne (by decide), e38, up_ne (by decide), e37, clr_ne (by decide), e36, up_ne (by decide)]; exact t35 i
  clear t9 t10 t11 t12 t13 t14 t15 t16 t17 t18 t19 t20 t21 t22 t23 t24 t25 t26 t27 t28 t29 t30 t31 t32 t33 t34 t35
  refine w_nl ⟨by decide, by decide, rfl, fun c k hc hp hk => ?_⟩ (fun g e => ?_)
  · by_cases c1 : c ≤ 110
    · rw [up_ne (by omega), clr_ne (by omega), fr c (by omega)]; exact hO c c1 k hp hk
    · by_cases c2 : c = 111
      · subst c2
        rw [up_at, clr_ne (by decide), aq]
        have hk' : k < 26 := hk
        have : k = 0 ∨ k = 1 ∨ k = 2 ∨ k = 3 ∨ k = 4 ∨ k = 5 ∨ k = 6 ∨ k = 7 ∨ k = 8 ∨ k = 9 ∨ k = 10 ∨ k = 11 ∨ k = 12 ∨ k = 13 ∨ k = 14 ∨ k = 15 ∨ k = 16 ∨ k = 17 ∨ k = 18 ∨ k = 19 ∨ k = 20 ∨ k = 21 ∨ k = 22 ∨ k = 23 ∨ k = 24 ∨ k = 25 := by omega
        rcases this with h | h | h | h | h | h | h | h | h | h | h | h | h | h | h | h | h | h | h | h | h | h | h | h | h | h <;> subst h
        · exact absurd hp (by decide)
        · rfl
        · exact absurd hp (by decide)
        · exact absurd hp (by decide)
        · rfl
        · rfl
        · rfl
        · exact absurd hp (by decide)
        · exact absurd hp (by decide)
        · rfl
        · rfl
        · rfl
        · exact absurd hp (by decide)
        · rfl
        · rfl
        · rfl
        · rfl
        · rfl
        · exact absurd hp (by decide)
        · rfl
        · rfl
        · exact absurd hp (by decide)
        · rfl
        · rfl
        · rfl
        · exact absurd hp (by decide)
      · exfalso
        have ka : kd c = 20 ∨ kd c = 21 ∨ kd c = 22 ∨ kd c = 23 := by
          have : c = 112 ∨ c = 113 ∨ c = 114 ∨ c = 115 ∨ c = 116 ∨ c = 117 ∨ c = 118 ∨ c = 119 ∨ c = 120 ∨ c = 121 ∨ c = 122 ∨ c = 123 ∨ c = 124 ∨ c = 125 ∨ c = 126 ∨ c = 127 ∨ c = 128 := by omega
          rcases this with h | h | h | h | h | h | h | h | h | h | h | h | h | h | h | h | h <;> subst h <;> decide
        have o1 := okm_arr (G := fun _ _ => 0) ka k hp hk
        have o2 : (0 : Int) = 1 := o1
        omega
  have k1 : ∀ c, c ≠ 111 → c ≠ 128 → g c = g58 c := fun c a b => by rw [e, up_ne a, clr_ne b]
  have a1 : g 111 2 = G 111 2 := by rw [e, up_at, if_neg (by decide), clr_ne (by decide), aq]; rfl
  refine w_bn (m_std (a := 0) (by omega) (z := 0) rfl) (fun _ g92 q92 => ?_)
  obtain ⟨f92, -, s92⟩ := q92
  have s : ∀ i, i < 32 → g92 117 i = if i = 1 then 2 else if i = 4 then -1 else 0 := fun i hi => by have := s92 i hi; rw [Nat.zero_add] at this; exact this
  have rd : RD S D0 g92 := ⟨s 0 (by omega), s 1 (by omega), s 2 (by omega), s 3 (by omega), s 4 (by omega), fun i hi => absurd hi (Nat.not_lt_zero i), fun i hi => absurd hi (Nat.not_lt_zero i), fun t ht => by cases ht⟩
  refine w_bn (m_begs w rd WD_0) (fun _ g93 q93 => w_ve ⟨fun c hc => ?_, fun i hi => ?_, ?_, q93.1⟩)
  · rw [q93.2.1 c (by omega) (by omega), f92 c (by omega), k1 c (by omega) (by omega), fr c hc]
  · rw [q93.2.1 116 (by decide) (by omega), f92 116 (by decide), k1 116 (by decide) (by decide)]; exact tb i hi
  · rw [q93.2.2 2 (by decide), f92 111 (by decide)]; exact a1
def S0 : TS := (0, fun _ => 0)
theorem WTp_0 : WTp S0 := ⟨Int.le_refl 0, by decide, fun i hi => by have hi' : (i : Int) < 0 := hi; omega⟩
theorem lw_start {sn : Nat} {sc : Nat → Int} (hs : sn ≤ 3584) : WP (fL_law sn sc (fun _ _ => 0)) (fun r _ => r = 1) := by
  unfold fL_law
  refine w_no (by decide) ?_
  refine w_bh (fun g1 e1 => ?_)
  refine w_bn i11_0 (fun _ g2 q2 => ?_)
  obtain ⟨f2, o2, x1, x3, ⟨y0, y1, y2, y3⟩, x19, x27, x28, x39, x42, x44, x45, x82, x88⟩ := q2
  refine w_no (by decide) ?_
  refine w_bh (fun g3 e3 => ?_)
  have k3 : ∀ c, c ≠ 111 → g3 c = g2 c := fun c hc => by rw [e3, clr_ne hc]
  refine w_bn (i12_111 WTp_0 (fun c hc => (o2 c hc).fr (k3 c (by omega)))) (fun _ g4 q4 => ?_)
  obtain ⟨f4, t4, z4, rw4⟩ := q4
  refine w_nb ?_
  refine w_bh (fun g5 e5 => ?_)
  have k5 : ∀ c, c ≠ 129 → g5 c = g4 c := fun c hc => by rw [e5, clr_ne hc]
  have k : ∀ c, c < 111 → g5 c = g2 c := fun c hc => by rw [k5 c (by omega), f4 c hc, k3 c (by omega)]
  refine lw_loop hs ⟨TD S0 D0, W0, OW_D WD_0, ⟨⟨?_, ?_, ?_, ?_, fun i h0 h1 => ?_, fun i h0 h1 => ?_⟩, ⟨?_, fun i hi => ?_⟩, ⟨0, ?_, by decide, ?_, by decide, fun j hj => absurd hj (Nat.not_lt_zero j)⟩, ⟨?_, fun i h0 h1 => ?_⟩, ⟨?_, fun i h0 h1 => ?_⟩, ⟨fun m hm => ⟨?_, fun z => ?_⟩, fun i hi => ?_, fun m hm i hi => ?_⟩⟩, rw4.e (OW_D WD_0) (fun c _ hc => k5 c (by omega)), ⟨S0, WTp_0, ⟨?_, fun i hi => ?_⟩, ⟨?_, fun i hi => ?_⟩⟩, fun i hi => ?_, fun i hi => ?_, fun i hi => ?_, fun i hi => ?_, fun i j hi => ?_, fun i j hi => ?_⟩
  · rw [k 4 (by decide)]; exact y0
  · rw [k 4 (by decide)]; exact y1
  · rw [k 4 (by decide)]; exact y2
  · rw [k 4 (by decide)]; exact y3
  · have h1' : i < 0 := h1
    omega
  · have h1' : i < 0 := h1
    omega
  · rw [k 27 (by decide)]; exact x27
  · rw [k 28 (by decide)]; exact x28 i hi
  · rw [k 44 (by decide)]; exact x44
  · rw [k 44 (by decide)]; exact x45
  · rw [k 39 (by decide)]; exact x39
  · have h1' : i < 0 := h1
    omega
  · rw [k 19 (by decide)]; exact x19
  · have h1' : i < 0 := h1
    omega
  · rw [k 82 (by decide)]; exact x82 m
  · have z' : (0 : Int) = 1 := z
    omega
  · rw [k 42 (by decide)]; exact Or.inl (x42 i)
  · rw [k (88 + 7 * m) (by omega)]; exact Or.inl (x88 m hm i)
  · rw [k 1 (by decide)]; exact x1 3 (by decide)
  · have h1' : (i : Int) < 0 := hi
    omega
  · rw [k5 111 (by decide), z4, e3, clr_self]; rfl
  · have h1' : (i : Int) < 0 := hi
    omega
  · rw [k 3 (by decide)]; exact x3 i hi
  · rw [k5 116 (by decide)]; exact t4 i hi
  · have h1' : (i : Int) < 0 := hi
    omega
  · have h1' : (i : Int) < 0 := hi
    omega
  · have h1' : (i : Int) < 0 := hi
    omega
  · have h1' : (i : Int) < 0 := hi
    omega
theorem whole_pure : PURE := by
  intro sn sc hs _
  obtain ⟨r, G', e, hr⟩ := lw_start (sc := sc) hs
  exact ⟨G', by rw [e, hr]⟩
end STF
