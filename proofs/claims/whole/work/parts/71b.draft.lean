/-! READING A RING: the draft, in both numberings -/
section RDB
abbrev DR : Type := (Int × Int × Int) × (Nat × Nat × Option Nat) × ((Nat → Int) × (Nat → Int) × (Nat → Nat)) × (Nat → Int) × (Nat → Nat)
end RDB
section RDC
variable {S : TS} {G : Hp} {n : Nat} {D : DR}
def dC (D : DR) : Int := D.1.1
def dLg (D : DR) : Int := D.1.2.1
def dS (D : DR) : Int := D.1.2.2
def dN (D : DR) : Nat := D.2.1.1
def dK (D : DR) : Nat := D.2.1.2.1
def dW (D : DR) : Option Nat := D.2.1.2.2
def dkd (D : DR) (i : Nat) : Int := D.2.2.1.1 i
def dpl (D : DR) (i : Nat) : Int := D.2.2.1.2.1 i
def dnn (D : DR) (i : Nat) : Nat := D.2.2.1.2.2 i
def dkp (D : DR) (i : Nat) : Int := D.2.2.2.1 i
def dkn (D : DR) (i : Nat) : Nat := D.2.2.2.2 i
def D0 : DR := ((0, 2, 0), (0, 0, none), (fun _ => 0, fun _ => 0, fun _ => 0), fun _ => 0, fun _ => 0)
def eC (D : DR) (v : Int) : DR := ((v, D.1.2.1, D.1.2.2), D.2)
def eL (D : DR) (v : Int) : DR := ((D.1.1, v, 1), D.2)
def eN (D : DR) (k p : Int) (t : Nat) : DR := (D.1, (D.2.1.1 + 1, D.2.1.2), (fun i => if i = D.2.1.1 then k else D.2.2.1.1 i, fun i => if i = D.2.1.1 then p else D.2.2.1.2.1 i, fun i => if i = D.2.1.1 then t else D.2.2.1.2.2 i), D.2.2.2)
def eK (D : DR) (p : Int) (t : Nat) : DR := (D.1, (D.2.1.1, D.2.1.2.1 + 1, D.2.1.2.2), D.2.2.1, fun i => if i = D.2.1.2.1 then p else D.2.2.2.1 i, fun i => if i = D.2.1.2.1 then t else D.2.2.2.2 i)
def eW (D : DR) (t : Nat) : DR := (D.1, (D.2.1.1, D.2.1.2.1, some t), D.2.2)
noncomputable def lwX (S : TS) (o : Option Nat) : Int := match o with
  | none => -1
  | some t => yp S t
def lwM (o : Option Nat) : Int := match o with
  | none => -1
  | some _ => 0
def XD (S : TS) (D : DR) (G : Hp) : Prop := G 12 0 = dC D ∧ G 12 1 = dLg D ∧ G 11 2 = dS D ∧ G 12 2 = (dN D : Int) ∧ G 12 3 = (dK D : Int) ∧ G 11 3 = lwX S (dW D) ∧ (∀ i : Nat, i < dN D → G 13 i = dkd D i ∧ G 14 i = dpl D i ∧ G 15 i = yl S (dnn D i)) ∧ ∀ i : Nat, i < dK D → G 16 i = dkp D i ∧ G 18 i = yl S (dkn D i)
def MLw (S : TS) (o : Option Nat) (G : Hp) : Prop := match o with
  | none => G 111 12 = 0
  | some t => G 111 12 = (((lawR S t).2.2.length + 1 : Nat) : Int) ∧ (∀ i, i < (lawR S t).2.2.length → G 118 (1100 + i) = (lawR S t).2.2.getD i 0) ∧ G 118 (1100 + (lawR S t).2.2.length) = 0 ∧ (lawR S t).2.2.length ≤ 999
def MD (S : TS) (D : DR) (G : Hp) : Prop := G 117 32 = dC D ∧ G 117 33 = dLg D ∧ G 117 34 = (dN D : Int) ∧ G 117 35 = (dK D : Int) ∧ G 117 36 = lwM (dW D) ∧ G 117 37 = dS D ∧ (∀ i : Nat, i < dN D → G 117 (38 + i) = dkd D i ∧ G 117 (46 + i) = dpl D i ∧ G 119 (18 + i) = yv S (dnn D i)) ∧ (∀ i : Nat, i < dK D → G 117 (54 + i) = dkp D i ∧ G 119 (26 + i) = yv S (dkn D i)) ∧ MLw S (dW D) G
def WD (S : TS) (D : DR) : Prop := (dC D = 0 ∨ (8 ≤ dC D ∧ dC D ≤ 256)) ∧ (1 ≤ dLg D ∧ dLg D ≤ 4) ∧ (dS D = 0 ∨ dS D = 1) ∧ dN D ≤ 8 ∧ dK D ≤ 10 ∧ (∀ i : Nat, i < dN D → (0 ≤ dpl D i ∧ dpl D i < dC D) ∧ (0 ≤ dkd D i ∧ dkd D i ≤ 3) ∧ yk S (dnn D i) = 2) ∧ (∀ i : Nat, i < dK D → (0 ≤ dkp D i ∧ dkp D i ≤ 999) ∧ yk S (dkn D i) = 2) ∧ (∀ i j : Nat, i < dN D → j < dN D → dpl D i = dpl D j → i = j) ∧ (∀ i j : Nat, i < dN D → j < dN D → yv S (dnn D i) = yv S (dnn D j) → i = j) ∧ (∀ i j : Nat, i < dK D → j < dK D → yv S (dkn D i) = yv S (dkn D j) → i = j) ∧ ∀ t : Nat, dW D = some t → (lawR S t).1 = 0
theorem WD_0 : WD S D0 := ⟨Or.inl rfl, ⟨by decide, by decide⟩, Or.inl rfl, by decide, by decide, fun i hi => absurd hi (Nat.not_lt_zero i), fun i hi => absurd hi (Nat.not_lt_zero i), fun i _ hi => absurd hi (Nat.not_lt_zero i), fun i _ hi => absurd hi (Nat.not_lt_zero i), fun i _ hi => absurd hi (Nat.not_lt_zero i), fun t h => by cases h⟩
/-! frames -/
def FD (G G' : Hp) : Prop := (∀ c, c ≠ 1 → c < 11 ∨ 18 < c → G' c = G c) ∧ ∀ k, k < 2 ∨ k = 3 ∨ 8 < k → G' 1 k = G 1 k
theorem FD.rf (G : Hp) : FD G G := ⟨fun _ _ _ => rfl, fun _ _ => rfl⟩
theorem FD.o8 {G' : Hp} (h : FX8 G G') : FD G G' := ⟨fun c x _ => h.1 c x, h.2⟩
theorem FD.tr {G1 G2 : Hp} (h : FD G G1) (h' : FD G1 G2) : FD G G2 := ⟨fun c x y => (h'.1 c x y).trans (h.1 c x y), fun k x => (h'.2 k x).trans (h.2 k x)⟩
theorem FD.up {c k : Nat} {v : Int} (hc : 11 ≤ c ∧ c ≤ 18) : FD G (up G c k v) := ⟨fun d x y => up_ne (by omega), fun j _ => by rw [up_ne (by omega)]⟩
theorem FDu {g g' : Hp} {c k : Nat} {v : Int} (h : FD G g) (e : g' = up g c k v) (hc : 11 ≤ c ∧ c ≤ 18) : FD G g' := by rw [e]; exact h.tr (FD.up hc)
theorem XD.f8 {G' : Hp} (h : XD S D G) (f : FX8 G G') : XD S D G' := by
  unfold XD
  rw [f.1 11 (by decide), f.1 12 (by decide), f.1 13 (by decide), f.1 14 (by decide), f.1 15 (by decide), f.1 16 (by decide), f.1 18 (by decide)]
  exact h
def FE (G G' : Hp) : Prop := (∀ c, c ≠ 111 → c ≠ 117 → c ≠ 118 → c ≠ 119 → G' c = G c) ∧ (∀ k, k ≠ 7 → k ≠ 8 → k ≠ 12 → G' 111 k = G 111 k) ∧ (∀ i, i < 32 → G' 117 i = G 117 i) ∧ (∀ i, i < 1100 → G' 118 i = G 118 i) ∧ ∀ i, i < 18 → G' 119 i = G 119 i
theorem FE.rf (G : Hp) : FE G G := ⟨fun _ _ _ _ _ => rfl, fun _ _ _ _ => rfl, fun _ _ => rfl, fun _ _ => rfl, fun _ _ => rfl⟩
theorem FE.tr {G1 G2 : Hp} (h : FE G G1) (h' : FE G1 G2) : FE G G2 := ⟨fun c a b d e => (h'.1 c a b d e).trans (h.1 c a b d e), fun k a b c => (h'.2.1 k a b c).trans (h.2.1 k a b c), fun i a => (h'.2.2.1 i a).trans (h.2.2.1 i a), fun i a => (h'.2.2.2.1 i a).trans (h.2.2.2.1 i a), fun i a => (h'.2.2.2.2 i a).trans (h.2.2.2.2 i a)⟩
theorem FE.o8 {G' : Hp} (h : FM8 G G') : FE G G' := ⟨fun c a _ _ _ => h.1 c a, fun k a b _ => h.2 k a b, fun i _ => by rw [h.1 117 (by decide)], fun i _ => by rw [h.1 118 (by decide)], fun i _ => by rw [h.1 119 (by decide)]⟩
theorem FE.up {c k : Nat} {v : Int} (hc : (c = 117 ∧ 32 ≤ k) ∨ (c = 119 ∧ 18 ≤ k) ∨ (c = 118 ∧ 1100 ≤ k)) : FE G (up G c k v) := by
  refine ⟨fun d x y z u => up_ne (by omega), fun j _ _ _ => by rw [up_ne (by omega)], fun i hi => ?_, fun i hi => ?_, fun i hi => ?_⟩
  · rw [up_at, if_neg (by omega)]
  · rw [up_at, if_neg (by omega)]
  · rw [up_at, if_neg (by omega)]
theorem FE.ov {G' : Hp} (h : FMv 0 G G') : FE G G' := ⟨fun c a _ b _ => h.1 c a b, fun k a b c => h.2.1 k a b c, fun i _ => by rw [h.1 117 (by decide) (by decide)], fun i hi => h.2.2 i (by omega), fun i _ => by rw [h.1 119 (by decide) (by decide)]⟩
theorem MLw.fr {o : Option Nat} {G' : Hp} (h : MLw S o G) (h1 : G' 118 = G 118) (h2 : G' 111 12 = G 111 12) : MLw S o G' := by
  cases o with
  | none => exact h2.trans h
  | some t => exact ⟨h2.trans h.1, fun i hi => by rw [h1]; exact h.2.1 i hi, by rw [h1]; exact h.2.2⟩
theorem MD.fr {G' : Hp} (h : MD S D G) (h1 : G' 117 = G 117) (h2 : G' 119 = G 119) (h3 : G' 118 = G 118) (h4 : G' 111 12 = G 111 12) : MD S D G' := by
  obtain ⟨a1, a2, a3, a4, a5, a6, a7, a8, a9⟩ := h
  have l := a9.fr h3 h4
  unfold MD; rw [h1, h2]
  exact ⟨a1, a2, a3, a4, a5, a6, a7, a8, l⟩
theorem MD.f8 {G' : Hp} (h : MD S D G) (f : FM8 G G') : MD S D G' := h.fr (f.1 117 (by decide)) (f.1 119 (by decide)) (f.1 118 (by decide)) (f.2 12 (by decide) (by decide))
/-! names -/
theorem ylv {a b : Nat} (h : yk S a = 2) (h' : yk S b = 2) : yl S a = yl S b ↔ yv S a = yv S b := nm_eq (tok_nm h) (tok_nm h')
def dNm (S : TS) (D : DR) (j : Nat) : Prop := (∃ i, i < dN D ∧ yv S (dnn D i) = yv S j) ∨ ∃ i, i < dK D ∧ yv S (dkn D i) = yv S j
noncomputable def nmR (S : TS) (D : DR) (j : Nat) : Int := cif (isN S j) (cif (dNm S D j) (flt S 3 j) 0) (flt S 1 j)
theorem nmR_z (w : WTp S) {j : Nat} : nmR S D j = 0 ↔ isN S j ∧ ¬ dNm S D j := by
  have l1 := flt_r w (k := 1) (j := j) (by decide)
  have l3 := flt_r w (k := 3) (j := j) (by decide)
  unfold nmR
  by_cases h : isN S j
  · rw [cif_t h]
    by_cases h2 : dNm S D j
    · rw [cif_t h2]; exact ⟨fun z => by omega, fun z => absurd h2 z.2⟩
    · rw [cif_f h2]; exact ⟨fun _ => ⟨h, h2⟩, fun _ => rfl⟩
  · rw [cif_f h]; exact ⟨fun z => by omega, fun z => absurd z.1 h⟩
theorem x_nodeNm {q c N : Nat} (hq : rf q 6 = c) (hN : N ≤ 8) (e : G q 2 = (N : Int)) {x : Int} : WP (fX8_nodeNamed q x G) (fun r G' => G' = G ∧ ((r = -1 ∧ ∀ i : Nat, i < N → G c i ≠ x) ∨ ∃ i : Nat, i < N ∧ r = i ∧ G c i = x)) := by
  unfold fX8_nodeNamed
  rw [hq]
  refine w_bd (fun v1 e1 => ?_)
  refine w_lpI (fun v => ∃ i : Nat, v = i ∧ i ≤ N ∧ ∀ k : Nat, k < i → G c k ≠ x) (fun v => ((N : Int) - v).toNat) (fun rc v hI hr => ?_) v1 ⟨0, e1, by omega, fun k hk => by omega⟩ (by omega)
  obtain ⟨i, hv, hi, hn⟩ := hI
  refine w_ite (fun c1 => ?_) (fun c1 => ?_)
  · rw [e] at c1
    refine w_rd (by omega) (by omega) (fun v4 e4 => ?_)
    rw [hv, Int.toNat_natCast] at e4
    refine w_ite (fun c2 => w_rt ⟨rfl, Or.inr ⟨i, by omega, hv, by rw [← e4]; exact lcmp_z.mp c2⟩⟩) (fun c2 => ?_)
    refine w_bd (fun v5 e5 => ?_)
    rw [iadd_id (by omega) (by omega)] at e5
    refine hr v5 ⟨i + 1, by omega, by omega, fun k hk => ?_⟩ (by omega)
    by_cases z : k = i
    · rw [z, ← e4]; exact fun y => c2 (lcmp_z.mpr y)
    · exact hn k (by omega)
  · rw [e] at c1
    exact w_rt ⟨rfl, Or.inl ⟨rfl, fun k hk => hn k (by omega)⟩⟩
theorem x_keyNm {q c N : Nat} (hq : rf q 9 = c) (hN : N ≤ 10) (e : G q 3 = (N : Int)) {x : Int} : WP (fX8_keyNamed q x G) (fun r G' => G' = G ∧ ((r = -1 ∧ ∀ i : Nat, i < N → G c i ≠ x) ∨ ∃ i : Nat, i < N ∧ r = i ∧ G c i = x)) := by
  unfold fX8_keyNamed
  rw [hq]
  refine w_bd (fun v1 e1 => ?_)
  refine w_lpI (fun v => ∃ i : Nat, v = i ∧ i ≤ N ∧ ∀ k : Nat, k < i → G c k ≠ x) (fun v => ((N : Int) - v).toNat) (fun rc v hI hr => ?_) v1 ⟨0, e1, by omega, fun k hk => by omega⟩ (by omega)
  obtain ⟨i, hv, hi, hn⟩ := hI
  refine w_ite (fun c1 => ?_) (fun c1 => ?_)
  · rw [e] at c1
    refine w_rd (by omega) (by omega) (fun v4 e4 => ?_)
    rw [hv, Int.toNat_natCast] at e4
    refine w_ite (fun c2 => w_rt ⟨rfl, Or.inr ⟨i, by omega, hv, by rw [← e4]; exact lcmp_z.mp c2⟩⟩) (fun c2 => ?_)
    refine w_bd (fun v5 e5 => ?_)
    rw [iadd_id (by omega) (by omega)] at e5
    refine hr v5 ⟨i + 1, by omega, by omega, fun k hk => ?_⟩ (by omega)
    by_cases z : k = i
    · rw [z, ← e4]; exact fun y => c2 (lcmp_z.mpr y)
    · exact hn k (by omega)
  · rw [e] at c1
    exact w_rt ⟨rfl, Or.inl ⟨rfl, fun k hk => hn k (by omega)⟩⟩
theorem x_ndAt {q c N : Nat} (hq : rf q 5 = c) (hN : N ≤ 8) (e : G q 2 = (N : Int)) {x : Int} : WP (fX8_nodeAt q x G) (fun r G' => G' = G ∧ ((r = -1 ∧ ∀ i : Nat, i < N → G c i ≠ x) ∨ ∃ i : Nat, i < N ∧ r = i ∧ G c i = x)) := by
  unfold fX8_nodeAt
  rw [hq]
  refine w_bd (fun v1 e1 => ?_)
  refine w_lpI (fun v => ∃ i : Nat, v = i ∧ i ≤ N ∧ ∀ k : Nat, k < i → G c k ≠ x) (fun v => ((N : Int) - v).toNat) (fun rc v hI hr => ?_) v1 ⟨0, e1, by omega, fun k hk => by omega⟩ (by omega)
  obtain ⟨i, hv, hi, hn⟩ := hI
  refine w_ite (fun c1 => ?_) (fun c1 => ?_)
  · rw [e] at c1
    refine w_rd (by omega) (by omega) (fun v4 e4 => ?_)
    rw [hv, Int.toNat_natCast] at e4
    refine w_ite (fun c2 => w_rt ⟨rfl, Or.inr ⟨i, by omega, hv, by rw [← e4]; exact c2⟩⟩) (fun c2 => ?_)
    refine w_bd (fun v5 e5 => ?_)
    rw [iadd_id (by omega) (by omega)] at e5
    refine hr v5 ⟨i + 1, by omega, by omega, fun k hk => ?_⟩ (by omega)
    by_cases z : k = i
    · rw [z, ← e4]; exact c2
    · exact hn k (by omega)
  · rw [e] at c1
    exact w_rt ⟨rfl, Or.inl ⟨rfl, fun k hk => hn k (by omega)⟩⟩
theorem x_newNm {j : Nat} (w : WTp S) (h : XJ S j 0 G) (d : XD S D G) (wd : WD S D) : WP (fX4_isNewName 11 G) (fun v G' => FX8 G G' ∧ ((nmR S D j = 0 ∧ v = 1 ∧ G' = G) ∨ (nmR S D j ≠ 0 ∧ v = 0 ∧ G' 1 8 = nmR S D j))) := by
  have l1 := flt_r w (k := 1) (j := j) (by decide)
  have l3 := flt_r w (k := 3) (j := j) (by decide)
  obtain ⟨d1, d2, d3, d4, d5, d6, d7, d8⟩ := d
  obtain ⟨w1, w2, w3, w4, w5, w6, w7, w8⟩ := wd
  unfold fX4_isNewName
  rw [rf_11_0, rf_11_1, x_isNam h, bp_s]
  by_cases hn : isN S j
  · have hn' : yk S j = 2 ∧ (yw S j < 0 ∨ 22 ≤ yw S j) := hn
    rw [if_pos hn', if_neg (by decide)]
    have e7 : G 1 7 = yl S j := (x_wix h hn.1).2
    have fnd : dNm S D j → ∀ K : RT, K = (bn (fX7_wrong 1 3 G) fun v4 G5 => rz v4 G5) → WP K (fun v G' => FX8 G G' ∧ ((nmR S D j = 0 ∧ v = 1 ∧ G' = G) ∨ (nmR S D j ≠ 0 ∧ v = 0 ∧ G' 1 8 = nmR S D j))) := by
      intro hd K hK
      have ez : nmR S D j = flt S 3 j := by unfold nmR; rw [cif_t hn, cif_t hd]
      rw [hK]
      refine w_bn (x_wr5 w h (by decide) (by decide)) (fun v g q => w_rz (Or.inl q.1) ⟨q.2.1, Or.inr ⟨by omega, q.1, by rw [ez]; exact q.2.2⟩⟩)
    refine w_bpq (x_nodeNm (q := 12) rf_12_6 w4 d4) (fun v2 _ q2 => ?_)
    rw [e7] at q2
    refine w_jnP (fun K3 hK3 => ?_)
    rcases q2.2 with ⟨a, b⟩ | ⟨i, a, b, c⟩
    · refine w_ite (fun _ => ?_) (fun z => absurd a z)
      refine w_bpq (x_keyNm (q := 12) rf_12_9 w5 d5) (fun v6 _ q6 => ?_)
      rw [e7] at q6
      rcases q6.2 with ⟨a', b'⟩ | ⟨i, a', b', c'⟩
      · refine w_ite (fun _ => ?_) (fun z => absurd a' z)
        refine w_rz (Or.inr rfl) ⟨FX8.rf G, Or.inl ⟨(nmR_z w).mpr ⟨hn, ?_⟩, rfl, rfl⟩⟩
        rintro (⟨i, hi, he⟩ | ⟨i, hi, he⟩)
        · exact b i hi (by rw [(d7 i hi).2.2]; exact (ylv (w6 i hi).2.2 hn.1).mpr he)
        · exact b' i hi (by rw [(d8 i hi).2]; exact (ylv (w7 i hi).2 hn.1).mpr he)
      · refine w_ite (fun z => by omega) (fun _ => ?_)
        exact fnd (Or.inr ⟨i, a', (ylv (w7 i a').2 hn.1).mp (by rw [← (d8 i a').2]; exact c')⟩) K3 hK3
    · refine w_ite (fun z => by omega) (fun _ => ?_)
      exact fnd (Or.inl ⟨i, a, (ylv (w6 i a).2.2 hn.1).mp (by rw [← (d7 i a).2.2]; exact c)⟩) K3 hK3
  · have hn' : ¬ (yk S j = 2 ∧ (yw S j < 0 ∨ 22 ≤ yw S j)) := hn
    rw [if_neg hn', if_pos rfl]
    have ez : nmR S D j = flt S 1 j := by unfold nmR; rw [cif_f hn]
    refine w_bn (x_wr5 w h (by decide) (by decide)) (fun v g q => w_rz (Or.inl q.1) ⟨q.2.1, Or.inr ⟨by omega, q.1, by rw [ez]; exact q.2.2⟩⟩)
end RDC
