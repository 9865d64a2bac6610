/-! THE START: the class's maker -/
section STE
variable {G : Hp}
theorem i11_0 : WP (iX11_init 0 1 G) (fun _ G' => (∀ c, 110 < c → G' c = G c) ∧ (∀ c, c ≤ 110 → OKM c G') ∧ (∀ k, 2 ≤ k → G' 1 k = 0) ∧ (∀ i : Nat, i < 25 → G' 3 i = W32 i) ∧ (G' 4 0 = 0 ∧ G' 4 1 = 2 ∧ G' 4 2 = 0 ∧ G' 4 3 = 0) ∧ G' 19 3 = 0 ∧ G' 27 1 = 0 ∧ (∀ i : Nat, i < 114 → G' 28 i = -1) ∧ G' 39 4 = 0 ∧ (∀ i, G' 42 i = 0) ∧ G' 44 4 = 0 ∧ G' 44 5 = 0 ∧ (∀ i, G' 82 i = 0) ∧ ∀ m, m < 4 → ∀ i, G' (88 + 7 * m) i = 0) := by
  unfold iX11_init
  rw [rf_0_0, rf_0_1, rf_0_5, rf_0_6, rf_0_7, rf_0_8]
  refine w_no (by decide) ?_
  refine w_bh (fun c0 ec0 => ?_)
  refine w_bn i7_1 (fun _ h0 q0 => ?_)
  obtain ⟨f0, o0, p0, l0⟩ := q0
  refine w_pf rfl ?_
  refine w_bh (fun u0 eu0 => ?_)
  have z0 : ∀ k, k < 1 → u0 0 k = 1 := fun k hk => by
    rw [eu0, up_at]
    by_cases ek : k = 0
    · rw [if_pos ⟨rfl, ek⟩]
    · omega
  refine w_no (by decide) ?_
  refine w_bh (fun c1 ec1 => ?_)
  have y1 : ∀ k, k < 1 → c1 0 k = 1 := fun k hk => by rw [ec1, clr_ne (by decide)]; exact z0 k hk
  refine w_bn i8_4 (fun _ h1 q1 => ?_)
  obtain ⟨f1, o1, p1, p1a, p1b, p1c⟩ := q1
  refine w_pf rfl ?_
  refine w_bh (fun u1 eu1 => ?_)
  have z1 : ∀ k, k < 2 → u1 0 k = 1 := fun k hk => by
    rw [eu1, up_at]
    by_cases ek : k = 1
    · rw [if_pos ⟨rfl, ek⟩]
    · rw [if_neg (fun y => ek y.2), f1 0 (by decide)]; exact y1 k (by omega)
  refine w_no (by decide) ?_
  refine w_bh (fun c2 ec2 => ?_)
  have y2 : ∀ k, k < 2 → c2 0 k = 1 := fun k hk => by rw [ec2, clr_ne (by decide)]; exact z1 k hk
  refine w_gr (y2 0 (by decide)) ?_
  refine w_if (by decide) ?_
  refine w_bn i4_11 (fun _ h2 q2 => ?_)
  obtain ⟨f2, o2⟩ := q2
  refine w_pf rfl ?_
  refine w_bh (fun u2 eu2 => ?_)
  have z2 : ∀ k, k < 3 → u2 0 k = 1 := fun k hk => by
    rw [eu2, up_at]
    by_cases ek : k = 2
    · rw [if_pos ⟨rfl, ek⟩]
    · rw [if_neg (fun y => ek y.2), f2 0 (by decide)]; exact y2 k (by omega)
  refine w_no (by decide) ?_
  refine w_bh (fun c3 ec3 => ?_)
  have y3 : ∀ k, k < 3 → c3 0 k = 1 := fun k hk => by rw [ec3, clr_ne (by decide)]; exact z2 k hk
  refine w_bn i10_19 (fun _ h3 q3 => ?_)
  obtain ⟨f3, o3, p3⟩ := q3
  refine w_pf rfl ?_
  refine w_bh (fun u3 eu3 => ?_)
  have z3 : ∀ k, k < 4 → u3 0 k = 1 := fun k hk => by
    rw [eu3, up_at]
    by_cases ek : k = 3
    · rw [if_pos ⟨rfl, ek⟩]
    · rw [if_neg (fun y => ek y.2), f3 0 (by decide)]; exact y3 k (by omega)
  refine w_no (by decide) ?_
  refine w_bh (fun c4 ec4 => ?_)
  have y4 : ∀ k, k < 4 → c4 0 k = 1 := fun k hk => by rw [ec4, clr_ne (by decide)]; exact z3 k hk
  refine w_bn i10_23 (fun _ h4 q4 => ?_)
  obtain ⟨f4, o4, p4⟩ := q4
  refine w_pf rfl ?_
  refine w_bh (fun u4 eu4 => ?_)
  have z4 : ∀ k, k < 5 → u4 0 k = 1 := fun k hk => by
    rw [eu4, up_at]
    by_cases ek : k = 4
    · rw [if_pos ⟨rfl, ek⟩]
    · rw [if_neg (fun y => ek y.2), f4 0 (by decide)]; exact y4 k (by omega)
  refine w_no (by decide) ?_
  refine w_bh (fun c5 ec5 => ?_)
  have y5 : ∀ k, k < 5 → c5 0 k = 1 := fun k hk => by rw [ec5, clr_ne (by decide)]; exact z4 k hk
  refine w_bn (i6 (q := 27) (by decide) (by decide) (by decide) (by decide)) (fun _ h5 q5 => ?_)
  obtain ⟨fr5, p5, l5, oa5, ob5⟩ := q5
  have f5 : ∀ c, c < 27 ∨ 28 < c → h5 c = c5 c := fun c hc => fr5 c (by omega) (by omega)
  have o5 : ∀ c, 27 ≤ c → c ≤ 28 → OKM c h5 := fun c c1 c2 => by
    have : c = 27 ∨ c = 28 := by omega
    rcases this with h | h <;> subst h
    · exact oa5
    · exact ob5
  refine w_pf rfl ?_
  refine w_bh (fun u5 eu5 => ?_)
  have z5 : ∀ k, k < 6 → u5 0 k = 1 := fun k hk => by
    rw [eu5, up_at]
    by_cases ek : k = 5
    · rw [if_pos ⟨rfl, ek⟩]
    · rw [if_neg (fun y => ek y.2), f5 0 (by decide)]; exact y5 k (by omega)
  refine w_no (by decide) ?_
  refine w_bh (fun c6 ec6 => ?_)
  have y6 : ∀ k, k < 6 → c6 0 k = 1 := fun k hk => by rw [ec6, clr_ne (by decide)]; exact z5 k hk
  refine w_gr (y6 1 (by decide)) ?_
  refine w_gr (y6 5 (by decide)) ?_
  refine w_if (by decide) ?_
  refine w_if (by decide) ?_
  refine w_bn i1_29 (fun _ h6 q6 => ?_)
  obtain ⟨f6, o6⟩ := q6
  refine w_pf rfl ?_
  refine w_bh (fun u6 eu6 => ?_)
  have z6 : ∀ k, k < 7 → u6 0 k = 1 := fun k hk => by
    rw [eu6, up_at]
    by_cases ek : k = 6
    · rw [if_pos ⟨rfl, ek⟩]
    · rw [if_neg (fun y => ek y.2), f6 0 (by decide)]; exact y6 k (by omega)
  refine w_no (by decide) ?_
  refine w_bh (fun c7 ec7 => ?_)
  have y7 : ∀ k, k < 7 → c7 0 k = 1 := fun k hk => by rw [ec7, clr_ne (by decide)]; exact z6 k hk
  refine w_gr (y7 1 (by decide)) ?_
  refine w_gr (y7 5 (by decide)) ?_
  refine w_gr (y7 6 (by decide)) ?_
  refine w_if (by decide) ?_
  refine w_if (by decide) ?_
  refine w_if (by decide) ?_
  refine w_bn i0_31 (fun _ h7 q7 => ?_)
  obtain ⟨f7, o7⟩ := q7
  refine w_pf rfl ?_
  refine w_bh (fun u7 eu7 => ?_)
  have z7 : ∀ k, k < 8 → u7 0 k = 1 := fun k hk => by
    rw [eu7, up_at]
    by_cases ek : k = 7
    · rw [if_pos ⟨rfl, ek⟩]
    · rw [if_neg (fun y => ek y.2), f7 0 (by decide)]; exact y7 k (by omega)
  refine w_no (by decide) ?_
  refine w_bh (fun c8 ec8 => ?_)
  have y8 : ∀ k, k < 8 → c8 0 k = 1 := fun k hk => by rw [ec8, clr_ne (by decide)]; exact z7 k hk
  refine w_gr (y8 1 (by decide)) ?_
  refine w_gr (y8 5 (by decide)) ?_
  refine w_gr (y8 6 (by decide)) ?_
  refine w_if (by decide) ?_
  refine w_if (by decide) ?_
  refine w_if (by decide) ?_
  refine w_bn i2_33 (fun _ h8 q8 => ?_)
  obtain ⟨f8, o8⟩ := q8
  refine w_pf rfl ?_
  refine w_bh (fun u8 eu8 => ?_)
  have z8 : ∀ k, k < 9 → u8 0 k = 1 := fun k hk => by
    rw [eu8, up_at]
    by_cases ek : k = 8
    · rw [if_pos ⟨rfl, ek⟩]
    · rw [if_neg (fun y => ek y.2), f8 0 (by decide)]; exact y8 k (by omega)
  refine w_no (by decide) ?_
  refine w_bh (fun c9 ec9 => ?_)
  have y9 : ∀ k, k < 9 → c9 0 k = 1 := fun k hk => by rw [ec9, clr_ne (by decide)]; exact z8 k hk
  refine w_gr (y9 1 (by decide)) ?_
  refine w_gr (y9 5 (by decide)) ?_
  refine w_gr (y9 7 (by decide)) ?_
  refine w_gr (y9 8 (by decide)) ?_
  refine w_if (by decide) ?_
  refine w_if (by decide) ?_
  refine w_if (by decide) ?_
  refine w_if (by decide) ?_
  refine w_bn i9_34 (fun _ h9 q9 => ?_)
  obtain ⟨f9, o9⟩ := q9
  refine w_pf rfl ?_
  refine w_bh (fun u9 eu9 => ?_)
  have z9 : ∀ k, k < 10 → u9 0 k = 1 := fun k hk => by
    rw [eu9, up_at]
    by_cases ek : k = 9
    · rw [if_pos ⟨rfl, ek⟩]
    · rw [if_neg (fun y => ek y.2), f9 0 (by decide)]; exact y9 k (by omega)
  refine w_no (by decide) ?_
  refine w_bh (fun c10 ec10 => ?_)
  have y10 : ∀ k, k < 10 → c10 0 k = 1 := fun k hk => by rw [ec10, clr_ne (by decide)]; exact z9 k hk
  refine w_bn (i5 (q := 39) (by decide) (by decide) (by decide) (by decide) (by decide) (by decide) (by decide) (by decide) (by decide) (by decide)) (fun _ h10 q10 => ?_)
  obtain ⟨f10, p10, l10, o10⟩ := q10
  refine w_pf rfl ?_
  refine w_bh (fun u10 eu10 => ?_)
  have z10 : ∀ k, k < 11 → u10 0 k = 1 := fun k hk => by
    rw [eu10, up_at]
    by_cases ek : k = 10
    · rw [if_pos ⟨rfl, ek⟩]
    · rw [if_neg (fun y => ek y.2), f10 0 (by decide)]; exact y10 k (by omega)
  refine w_no (by decide) ?_
  refine w_bh (fun c11 ec11 => ?_)
  have y11 : ∀ k, k < 11 → c11 0 k = 1 := fun k hk => by rw [ec11, clr_ne (by decide)]; exact z10 k hk
  refine w_bn i3_44 (fun _ h11 q11 => ?_)
  obtain ⟨f11, o11, p11, p11a, p11b, p11c⟩ := q11
  refine w_pf rfl ?_
  refine w_bh (fun u11 eu11 => ?_)
  have z11 : ∀ k, k < 12 → u11 0 k = 1 := fun k hk => by
    rw [eu11, up_at]
    by_cases ek : k = 11
    · rw [if_pos ⟨rfl, ek⟩]
    · rw [if_neg (fun y => ek y.2), f11 0 (by decide)]; exact y11 k (by omega)
  have K11 : ∀ c, c ≠ 0 → u11 c = h11 c := fun c hc => by rw [eu11, up_ne hc]
  have K10 : ∀ c, c ≠ 0 → c < 44 → u11 c = h10 c := fun c hc hl => by rw [K11 c hc, f11 c (by omega), ec11, clr_ne (by omega), eu10, up_ne hc]
  have K9 : ∀ c, c ≠ 0 → c < 39 → u11 c = h9 c := fun c hc hl => by rw [K10 c hc (by omega), f10 c (by omega), ec10, clr_ne (by omega), eu9, up_ne hc]
  have K8 : ∀ c, c ≠ 0 → c < 34 → u11 c = h8 c := fun c hc hl => by rw [K9 c hc (by omega), f9 c (by omega), ec9, clr_ne (by omega), eu8, up_ne hc]
  have K7 : ∀ c, c ≠ 0 → c < 33 → u11 c = h7 c := fun c hc hl => by rw [K8 c hc (by omega), f8 c (by omega), ec8, clr_ne (by omega), eu7, up_ne hc]
  have K6 : ∀ c, c ≠ 0 → c < 31 → u11 c = h6 c := fun c hc hl => by rw [K7 c hc (by omega), f7 c (by omega), ec7, clr_ne (by omega), eu6, up_ne hc]
  have K5 : ∀ c, c ≠ 0 → c < 29 → u11 c = h5 c := fun c hc hl => by rw [K6 c hc (by omega), f6 c (by omega), ec6, clr_ne (by omega), eu5, up_ne hc]
  have K4 : ∀ c, c ≠ 0 → c < 27 → u11 c = h4 c := fun c hc hl => by rw [K5 c hc (by omega), f5 c (by omega), ec5, clr_ne (by omega), eu4, up_ne hc]
  have K3 : ∀ c, c ≠ 0 → c < 23 → u11 c = h3 c := fun c hc hl => by rw [K4 c hc (by omega), f4 c (by omega), ec4, clr_ne (by omega), eu3, up_ne hc]
  have K2 : ∀ c, c ≠ 0 → c < 19 → u11 c = h2 c := fun c hc hl => by rw [K3 c hc (by omega), f3 c (by omega), ec3, clr_ne (by omega), eu2, up_ne hc]
  have K1 : ∀ c, c ≠ 0 → c < 11 → u11 c = h1 c := fun c hc hl => by rw [K2 c hc (by omega), f2 c (by omega), ec2, clr_ne (by omega), eu1, up_ne hc]
  have K0 : ∀ c, c ≠ 0 → c < 4 → u11 c = h0 c := fun c hc hl => by rw [K1 c hc (by omega), f1 c (by omega), ec1, clr_ne (by omega), eu0, up_ne hc]
  refine w_ve ⟨fun c hc => ?_, fun c hc => ?_, fun k hk => ?_, fun i hi => ?_, ⟨?_, ?_, ?_, ?_⟩, ?_, ?_, fun i hi => ?_, ?_, fun i => ?_, ?_, ?_, fun i => ?_, fun m hm i => ?_⟩
  · rw [eu11, up_ne (by omega), f11 c (by omega), ec11, clr_ne (by omega), eu10, up_ne (by omega), f10 c (by omega), ec10, clr_ne (by omega), eu9, up_ne (by omega), f9 c (by omega), ec9, clr_ne (by omega), eu8, up_ne (by omega), f8 c (by omega), ec8, clr_ne (by omega), eu7, up_ne (by omega), f7 c (by omega), ec7, clr_ne (by omega), eu6, up_ne (by omega), f6 c (by omega), ec6, clr_ne (by omega), eu5, up_ne (by omega), f5 c (by omega), ec5, clr_ne (by omega), eu4, up_ne (by omega), f4 c (by omega), ec4, clr_ne (by omega), eu3, up_ne (by omega), f3 c (by omega), ec3, clr_ne (by omega), eu2, up_ne (by omega), f2 c (by omega), ec2, clr_ne (by omega), eu1, up_ne (by omega), f1 c (by omega), ec1, clr_ne (by omega), eu0, up_ne (by omega), f0 c (by omega), ec0, clr_ne (by omega)]
  · by_cases d0 : c = 0
    · subst d0
      intro k hp hk
      have hk' : k < 12 := hk
      exact z11 k (by omega)
    by_cases d1 : c < 4
    · exact (o0 c (by omega) (by omega)).fr (K0 c d0 d1)
    by_cases d2 : c < 11
    · exact (o1 c (by omega) (by omega)).fr (K1 c d0 d2)
    by_cases d3 : c < 19
    · exact (o2 c (by omega) (by omega)).fr (K2 c d0 d3)
    by_cases d4 : c < 23
    · exact (o3 c (by omega) (by omega)).fr (K3 c d0 d4)
    by_cases d5 : c < 27
    · exact (o4 c (by omega) (by omega)).fr (K4 c d0 d5)
    by_cases d6 : c < 29
    · exact (o5 c (by omega) (by omega)).fr (K5 c d0 d6)
    by_cases d7 : c < 31
    · exact (o6 c (by omega) (by omega)).fr (K6 c d0 d7)
    by_cases d8 : c < 33
    · exact (o7 c (by omega) (by omega)).fr (K7 c d0 d8)
    by_cases d9 : c < 34
    · exact (o8 c (by omega) (by omega)).fr (K8 c d0 d9)
    by_cases d10 : c < 39
    · exact (o9 c (by omega) (by omega)).fr (K9 c d0 d10)
    by_cases d11 : c < 44
    · exact (o10 c (by omega) (by omega)).fr (K10 c d0 d11)
    exact (o11 c (by omega) (by omega)).fr (K11 c d0)
  · rw [K0 1 (by decide) (by decide), p0 k hk, ec0, clr_self]
  · rw [K0 3 (by decide) (by decide)]; exact l0 i hi
  · rw [K1 4 (by decide) (by decide), p1, ec1, clr_self]
  · rw [K1 4 (by decide) (by decide), p1a]
  · rw [K1 4 (by decide) (by decide), p1b, ec1, clr_self]
  · rw [K1 4 (by decide) (by decide), p1c, ec1, clr_self]
  · rw [K3 19 (by decide) (by decide), p3, ec3, clr_self]
  · rw [K5 27 (by decide) (by decide), p5 1 (by decide), ec5, clr_self]
  · rw [K5 28 (by decide) (by decide)]; exact l5 i hi
  · rw [K10 39 (by decide) (by decide), p10 4 (by decide), ec10, clr_self]
  · rw [K10 42 (by decide) (by decide)]; exact l10 i
  · rw [K11 44 (by decide), p11, ec11, clr_self]
  · rw [K11 44 (by decide), p11a, ec11, clr_self]
  · rw [K11 82 (by decide)]; exact p11b i
  · rw [K11 (88 + 7 * m) (by omega)]; exact p11c m hm i
end STE
