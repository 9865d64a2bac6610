/-! THE LAW, the reference's side -/
section WPK
variable {Q : Int → Hp → Prop}
theorem w_jnP {X : Type} {K : X} {f : X → RT} (h : ∀ K0 : X, K0 = K → WP (f K0) Q) : WP (jn K f) Q := h K rfl
theorem w_jnK {K : Int → RT} {c : Prop} {D : Decidable c} {a b : Int} (h : ∀ v, ((c ∧ v = a) ∨ (¬ c ∧ v = b)) → WP (K v) Q) : WP (jn K fun K' => @ite RT c D (K' a) (K' b)) Q := by
  show WP (@ite RT c D (K a) (K b)) Q
  by_cases z : c
  · rw [if_pos z]; exact h a (Or.inl ⟨z, rfl⟩)
  · rw [if_neg z]; exact h b (Or.inr ⟨z, rfl⟩)
end WPK
section LAWM
variable {S : TS} {G : Hp} {n c : Nat}
def FMv (c : Nat) (G G' : Hp) : Prop := (∀ d, d ≠ 111 → d ≠ 118 → G' d = G d) ∧ (∀ k, k ≠ 7 → k ≠ 8 → k ≠ 12 → G' 111 k = G 111 k) ∧ ∀ i, i < 1100 + c → G' 118 i = G 118 i
theorem FMv.rf (G : Hp) : FMv c G G := ⟨fun _ _ _ => rfl, fun _ _ _ _ => rfl, fun _ _ => rfl⟩
theorem FMv.tr {c' : Nat} {G1 G2 : Hp} (h : FMv c G G1) (h' : FMv c' G1 G2) (l : c ≤ c') : FMv c G G2 := ⟨fun d x y => (h'.1 d x y).trans (h.1 d x y), fun k x y z => (h'.2.1 k x y z).trans (h.2.1 k x y z), fun i hi => (h'.2.2 i (by omega)).trans (h.2.2 i hi)⟩
theorem FMv.o8 {G' : Hp} (h : FM8 G G') : FMv c G G' := ⟨fun d x _ => h.1 d x, fun k x y _ => h.2 k x y, fun i _ => by rw [h.1 118 (by decide)]⟩
def RVp (S : TS) (n : Nat) (r : LR) (c : Nat) (G G' : Hp) : Prop := FMv c G G' ∧ MJ S n (r.2.1, r.1) G' ∧ G' 111 12 = ((c + r.2.2.length : Nat) : Int) ∧ ∀ i, i < r.2.2.length → G' 118 (1100 + c + i) = r.2.2.getD i 0
theorem gd_app : ∀ (a b : List Int) (i : Nat), (a ++ b).getD i 0 = if i < a.length then a.getD i 0 else b.getD (i - a.length) 0
  | [], b, i => by simp
  | x :: a, b, 0 => by simp
  | x :: a, b, i + 1 => by
    have q := gd_app a b i
    rw [List.cons_append, List.getD_cons_succ, q, List.getD_cons_succ, List.length_cons]
    by_cases h : i < a.length
    · rw [if_pos h, if_pos (by omega)]
    · rw [if_neg h, if_neg (by omega), show i + 1 - (a.length + 1) = i - a.length by omega]
theorem RVp.z {j : Nat} (m : MJ S n (j, 0) G) (h : G 111 12 = (c : Int)) : RVp S n (0, j, []) c G G := ⟨FMv.rf G, m, by simpa using h, fun i hi => absurd hi (Nat.not_lt_zero i)⟩
theorem RVp.fm {r r' : LR} {g g' : Hp} (h : RVp S n r c G g) (f : FM8 g g') (m : MJ S n (r'.2.1, r'.1) g') (e : r'.2.2 = r.2.2) : RVp S n r' c G g' := by
  obtain ⟨a, -, b, d⟩ := h
  refine ⟨a.tr (FMv.o8 f (c := c)) (Nat.le_refl c), m, by rw [e, f.2 12 (by decide) (by decide)]; exact b, fun i hi => ?_⟩
  rw [e] at hi ⊢
  rw [f.1 118 (by decide)]; exact d i hi
theorem RVp.pre {r : LR} {g g' : Hp} (f : FM8 G g) (h : RVp S n r c g g') : RVp S n r c G g' := by
  obtain ⟨a, m, b, d⟩ := h
  exact ⟨(FMv.o8 f (c := c)).tr a (Nat.le_refl c), m, b, d⟩
theorem RVp.seq {r q : LR} {g g1 g2 : Hp} (h : RVp S n r c G g) (f : FM8 g g1) (h' : RVp S n q (c + r.2.2.length) g1 g2) : RVp S n (q.1, q.2.1, r.2.2 ++ q.2.2) c G g2 := by
  obtain ⟨a, -, b, d⟩ := h
  obtain ⟨a', m', b', d'⟩ := h'
  refine ⟨(a.tr (FMv.o8 f (c := c)) (Nat.le_refl c)).tr a' (by omega), m', ?_, fun i hi => ?_⟩
  · rw [b']; simp only [List.length_append]; omega
  · simp only [List.length_append] at hi ⊢
    rw [gd_app]
    by_cases l : i < r.2.2.length
    · rw [if_pos l, a'.2.2 _ (by omega), f.1 118 (by decide)]; exact d i l
    · rw [if_neg l]
      have := d' (i - r.2.2.length) (by omega)
      rw [← this]; congr 1; omega
theorem m_emt {r : LR} {g : Hp} {a b o : Int} (h : RVp S n r c G g) (l : c + r.2.2.length ≤ 1000) (a0 : 0 ≤ a ∧ a ≤ 10) (b0 : 0 ≤ b ∧ b ≤ 9999) (e : a + 16 * b = o) : WP (fX12_emit 111 a b g) (fun _ G' => RVp S n (r.1, r.2.1, r.2.2 ++ [o]) c G G') := by
  unfold fX12_emit
  obtain ⟨f, m, h12, hc⟩ := h
  rw [rf_111_11, h12, iadd_id (by omega) (by omega), imul_id (by omega) (by omega), iadd_id (a := a) (by omega) (by omega), e]
  refine w_wr (by omega) (by omega) (fun u q => ?_)
  have en : ((1100 : Int) + ((c + r.2.2.length : Nat) : Int)).toNat = 1100 + c + r.2.2.length := by omega
  rw [en] at q
  have u12 : u 111 12 = ((c + r.2.2.length : Nat) : Int) := by rw [q, up_at, if_neg (by omega)]; exact h12
  refine w_bh (fun u2 q2 => w_rt ?_)
  rw [u12, iadd_id (by omega) (by omega)] at q2
  have fv : FMv (c + r.2.2.length) g u2 := by
    rw [q2, q]
    refine ⟨fun d x y => ?_, fun k x y z => ?_, fun i hi => ?_⟩
    · funext i; rw [up_at, if_neg (by omega), up_at, if_neg (by omega)]
    · rw [up_at, if_neg (by omega), up_at, if_neg (by omega)]
    · rw [up_at, if_neg (by omega), up_at, if_neg (by omega)]
  refine ⟨f.tr fv (by omega), ?_, ?_, fun i hi => ?_⟩
  · exact m.fr (fv.1 _ (by decide) (by decide)) (fv.1 _ (by decide) (by decide)) (fv.1 _ (by decide) (by decide)) (fv.1 _ (by decide) (by decide)) (by rw [q2, q, up_at, if_neg (by omega), up_at, if_neg (by omega)]) (by rw [q2, q, up_at, if_neg (by omega), up_at, if_neg (by omega)])
  · rw [q2, up_at, if_pos ⟨rfl, rfl⟩]; simp only [List.length_append, List.length_singleton]; omega
  · simp only [List.length_append, List.length_singleton] at hi ⊢
    rw [gd_app, q2, q, up_at, if_neg (by omega), up_at]
    by_cases l2 : i < r.2.2.length
    · rw [if_neg (by omega), if_pos l2]; exact hc i l2
    · have e2 : i = r.2.2.length := by omega
      rw [if_pos ⟨rfl, by omega⟩, if_neg l2, e2, Nat.sub_self]; rfl
/-- a reader, at a depth -/
def MRd (S : TS) (n : Nat) (R : Hp → RT) (P : Nat → LR) : Prop := ∀ G j c, MJ S n (j, 0) G → G 111 12 = ((c : Nat) : Int) → c ≤ j → WP (R G) (fun _ G' => RVp S n (P j) c G G')
theorem m_seq {R : Hp → RT} {P : Nat → LR} {r : LR} {g g' : Hp} {j : Nat} (hR : MRd S n R P) (hp : PGr n j r) (cj : c ≤ j) (h : RVp S n r c G g) (f : FM8 g g') (m : MJ S n (r.2.1 + 1, 0) g') : WP (R g') (fun _ G9 => RVp S n ((P (r.2.1 + 1)).1, (P (r.2.1 + 1)).2.1, r.2.2 ++ (P (r.2.1 + 1)).2.2) c G G9) := by
  have b := hp.2.1
  refine (hR g' (r.2.1 + 1) (c + r.2.2.length) m (by rw [f.2 12 (by decide) (by decide)]; exact h.2.2.1) (by omega)).mono (fun _ G9 q => ?_)
  exact h.seq f q
theorem HN_of (h : MCE S n G) : HN S n := by
  intro j hj k
  rcases Nat.lt_or_ge j n with c | c
  · exact c
  · have e : j = n := by omega
    rw [e] at k; exact absurd h.nd k
theorem m_allS {R1 R2 R3 R4 R5 : Nat → Int → Hp → RT} {P : Nat → LR} {d : Int} (hP : PG n P) (hR : MRd S n (R2 111 d) P) : MRd S n (gX12_allOf R1 R2 R3 R4 R5 111 d) (fun j => lpR P (opc S 0) 1000 (P j)) := by
  intro G j c m h12 cj
  unfold gX12_allOf
  have hn := HN_of m.1
  have n1 := m.2.2.2.2.2.1
  have jn' := m.2.2.2.2.1
  refine w_bn (hR G j c m h12 cj) (fun _ G1 q1 => ?_)
  have p0 := hP j jn'
  refine w_lpH (fun g => ∃ (f : Nat) (r : LR), PGr n j r ∧ RVp S n r c G g ∧ lpR P (opc S 0) f r = lpR P (opc S 0) 1000 (P j) ∧ (r.1 = 0 → n + 1 ≤ f + r.2.1)) (fun g => ((n : Int) - g 111 7).toNat) (fun rc g hI hr => ?_) G1 ⟨1000, P j, p0, q1, rfl, fun z => by have := p0.2.2.2 z; omega⟩ (by have := q1.2.1.2.2.1; omega)
  obtain ⟨f, r, pr, rv, er, hf⟩ := hI
  have mj := rv.2.1
  rw [m_isWrd mj (w := 20) (by decide) (z := 20) rfl, m_isWrd mj (w := 21) (by decide) (z := 21) rfl]
  simp only [bp_s]
  have c20 : ((cixw 20 : Nat) : Int) = 20 := rfl
  have c21 : ((cixw 21 : Nat) : Int) = 21 := rfl
  rw [c20, c21]
  have stop : (r.1 ≠ 0 ∨ opc S 0 r.2.1 = 0) → RVp S n (lpR P (opc S 0) 1000 (P j)) c G g := by
    intro z; rw [lpR_e z] at er; rw [← er]; exact rv
  refine w_jnP (fun K5 e5 => ?_)
  have go : r.1 = 0 → opc S 0 r.2.1 ≠ 0 → WP K5 (fun _ G' => RVp S n (lpR P (opc S 0) 1000 (P j)) c G G') := by
    intro z o
    have k := opc_k o
    rw [e5]
    refine w_bd (fun v7 e7 => ?_)
    refine w_bh (fun G8 e8 => ?_)
    have inc := m_inc mj k.1
    rw [← e8] at inc
    have i2 : MJ S n (r.2.1 + 1, 0) G8 := by have := inc.2; rw [z] at this; exact this
    have ln := hn _ pr.1 k.1
    refine w_bn (m_seq hR pr cj rv inc.1 i2) (fun _ G9 q9 => ?_)
    have pj := PG_jn (c := opc S 0 r.2.1) hP pr ln
    have pl : c + (r.2.2 ++ (P (r.2.1 + 1)).2.2).length ≤ 1000 := by
      have := pj.2.1; have := pj.1
      simp only [jnR, List.length_append, List.length_singleton] at *; omega
    have fin : ∀ v10 : Int, v10 = opc S 0 r.2.1 → WP (bn (fX12_emit 111 v10 0 G9) fun _ G12 => rc G12) (fun _ G' => RVp S n (lpR P (opc S 0) 1000 (P j)) c G G') := by
      intro v10 h10
      refine w_bn (m_emt q9 pl (by omega) (by omega) (o := opc S 0 r.2.1) (by omega)) (fun _ G12 q12 => ?_)
      obtain ⟨f', rfl⟩ : ∃ f', f = f' + 1 := ⟨f - 1, by have := hf z; omega⟩
      rw [lpR_s, if_neg (by omega)] at er
      have q12' : RVp S n (jnR r (P (r.2.1 + 1)) (opc S 0 r.2.1)) c G G12 := q12
      have lt2 := (hP (r.2.1 + 1) (by omega)).2.1
      refine hr G12 ⟨f', _, pj, q12', er, fun y => ?_⟩ ?_
      · have := hf z
        show n + 1 ≤ f' + (P (r.2.1 + 1)).2.1
        omega
      · have a1 := mj.2.2.1
        have a2 := q12'.2.1.2.2.1
        have a3 : (jnR r (P (r.2.1 + 1)) (opc S 0 r.2.1)).2.1 = (P (r.2.1 + 1)).2.1 := rfl
        simp only at a1 a2
        rw [a3] at a2
        omega
    refine w_jn ?_
    have oc : opc S 0 r.2.1 = if yk S r.2.1 = 2 ∧ yw S r.2.1 = 20 then 9 else if yk S r.2.1 = 2 ∧ yw S r.2.1 = 21 then 10 else 0 := by unfold opc; rw [if_pos rfl]
    by_cases y : yk S r.2.1 = 2 ∧ yw S r.2.1 = 20
    · rw [if_pos ⟨z, y.1, y.2⟩] at e7
      rw [if_neg (by omega)]
      exact fin 9 (by rw [oc, if_pos y])
    · rw [if_neg (fun q => y q.2)] at e7
      rw [if_pos e7]
      refine fin 10 ?_
      rw [oc, if_neg y]
      rw [oc, if_neg y] at o
      split at o
      · rename_i u; rw [if_pos u]
      · exact absurd rfl o
  have oc : opc S 0 r.2.1 = if yk S r.2.1 = 2 ∧ yw S r.2.1 = 20 then 9 else if yk S r.2.1 = 2 ∧ yw S r.2.1 = 21 then 10 else 0 := by unfold opc; rw [if_pos rfl]
  by_cases y : r.1 = 0 ∧ yk S r.2.1 = 2 ∧ yw S r.2.1 = 20
  · rw [if_pos y, if_neg (by decide)]
    exact go y.1 (by rw [oc, if_pos y.2]; decide)
  · rw [if_neg y, if_pos rfl]
    by_cases y2 : r.1 = 0 ∧ yk S r.2.1 = 2 ∧ yw S r.2.1 = 21
    · rw [if_pos y2, if_neg (by decide)]
      exact go y2.1 (by rw [oc, if_neg (by omega), if_pos y2.2]; decide)
    · rw [if_neg y2, if_pos rfl]
      refine w_rt (stop ?_)
      by_cases z : r.1 = 0
      · exact Or.inr (by rw [oc, if_neg (fun q => y ⟨z, q⟩), if_neg (fun q => y2 ⟨z, q⟩)])
      · exact Or.inl z
theorem m_sumS {R1 R2 R3 R4 R5 : Nat → Int → Hp → RT} {P : Nat → LR} {d : Int} (hP : PG n P) (hR : MRd S n (R4 111 d) P) : MRd S n (gX12_sums R1 R2 R3 R4 R5 111 d) (fun j => lpR P (opc S 2) 1000 (P j)) := by
  intro G j c m h12 cj
  unfold gX12_sums
  have hn := HN_of m.1
  have n1 := m.2.2.2.2.2.1
  have jn' := m.2.2.2.2.1
  refine w_bn (hR G j c m h12 cj) (fun _ G1 q1 => ?_)
  have p0 := hP j jn'
  refine w_lpH (fun g => ∃ (f : Nat) (r : LR), PGr n j r ∧ RVp S n r c G g ∧ lpR P (opc S 2) f r = lpR P (opc S 2) 1000 (P j) ∧ (r.1 = 0 → n + 1 ≤ f + r.2.1)) (fun g => ((n : Int) - g 111 7).toNat) (fun rc g hI hr => ?_) G1 ⟨1000, P j, p0, q1, rfl, fun z => by have := p0.2.2.2 z; omega⟩ (by have := q1.2.1.2.2.1; omega)
  obtain ⟨f, r, pr, rv, er, hf⟩ := hI
  have mj := rv.2.1
  rw [m_isSgn mj 43, m_isSgn mj 45]
  simp only [bp_s]
  have stop : (r.1 ≠ 0 ∨ opc S 2 r.2.1 = 0) → RVp S n (lpR P (opc S 2) 1000 (P j)) c G g := by
    intro z; rw [lpR_e z] at er; rw [← er]; exact rv
  have oc : opc S 2 r.2.1 = if yk S r.2.1 = 4 ∧ yv S r.2.1 = 43 then 4 else if yk S r.2.1 = 4 ∧ yv S r.2.1 = 45 then 5 else 0 := by unfold opc; rw [if_neg (by decide), if_neg (by decide), if_pos rfl]
  refine w_jnP (fun K5 e5 => ?_)
  have go : r.1 = 0 → opc S 2 r.2.1 ≠ 0 → WP K5 (fun _ G' => RVp S n (lpR P (opc S 2) 1000 (P j)) c G G') := by
    intro z o
    have k := opc_k o
    rw [e5]
    refine w_bd (fun v7 e7 => ?_)
    refine w_bh (fun G8 e8 => ?_)
    have inc := m_inc mj k.1
    rw [← e8] at inc
    have i2 : MJ S n (r.2.1 + 1, 0) G8 := by have := inc.2; rw [z] at this; exact this
    have ln := hn _ pr.1 k.1
    refine w_bn (m_seq hR pr cj rv inc.1 i2) (fun _ G9 q9 => ?_)
    have pj := PG_jn (c := opc S 2 r.2.1) hP pr ln
    have pl : c + (r.2.2 ++ (P (r.2.1 + 1)).2.2).length ≤ 1000 := by
      have := pj.2.1; have := pj.1
      simp only [jnR, List.length_append, List.length_singleton] at *; omega
    have fin : ∀ v10 : Int, v10 = opc S 2 r.2.1 → WP (bn (fX12_emit 111 v10 0 G9) fun _ G12 => rc G12) (fun _ G' => RVp S n (lpR P (opc S 2) 1000 (P j)) c G G') := by
      intro v10 h10
      refine w_bn (m_emt q9 pl (by omega) (by omega) (o := opc S 2 r.2.1) (by omega)) (fun _ G12 q12 => ?_)
      obtain ⟨f', rfl⟩ : ∃ f', f = f' + 1 := ⟨f - 1, by have := hf z; omega⟩
      rw [lpR_s, if_neg (by omega)] at er
      have q12' : RVp S n (jnR r (P (r.2.1 + 1)) (opc S 2 r.2.1)) c G G12 := q12
      have lt2 := (hP (r.2.1 + 1) (by omega)).2.1
      refine hr G12 ⟨f', _, pj, q12', er, fun y => ?_⟩ ?_
      · have := hf z
        show n + 1 ≤ f' + (P (r.2.1 + 1)).2.1
        omega
      · have a1 := mj.2.2.1
        have a2 := q12'.2.1.2.2.1
        have a3 : (jnR r (P (r.2.1 + 1)) (opc S 2 r.2.1)).2.1 = (P (r.2.1 + 1)).2.1 := rfl
        simp only at a1 a2
        rw [a3] at a2
        omega
    refine w_jn ?_
    by_cases y : yk S r.2.1 = 4 ∧ yv S r.2.1 = 43
    · rw [if_pos ⟨z, y.1, y.2⟩] at e7
      rw [if_neg (by omega)]
      exact fin 4 (by rw [oc, if_pos y])
    · rw [if_neg (fun q => y q.2)] at e7
      rw [if_pos e7]
      refine fin 5 ?_
      rw [oc, if_neg y]
      rw [oc, if_neg y] at o
      split at o
      · rename_i u; rw [if_pos u]
      · exact absurd rfl o
  by_cases y : r.1 = 0 ∧ yk S r.2.1 = 4 ∧ yv S r.2.1 = 43
  · rw [if_pos y, if_neg (by decide)]
    exact go y.1 (by rw [oc, if_pos y.2]; decide)
  · rw [if_neg y, if_pos rfl]
    by_cases y2 : r.1 = 0 ∧ yk S r.2.1 = 4 ∧ yv S r.2.1 = 45
    · rw [if_pos y2, if_neg (by decide)]
      exact go y2.1 (by rw [oc, if_neg (by omega), if_pos y2.2]; decide)
    · rw [if_neg y2, if_pos rfl]
      refine w_rt (stop ?_)
      by_cases z : r.1 = 0
      · exact Or.inr (by rw [oc, if_neg (fun q => y ⟨z, q⟩), if_neg (fun q => y2 ⟨z, q⟩)])
      · exact Or.inl z
theorem m_prodS {R1 R2 R3 R4 R5 : Nat → Int → Hp → RT} {P : Nat → LR} {d : Int} (hP : PG n P) (hR : MRd S n (R5 111 d) P) : MRd S n (gX12_products R1 R2 R3 R4 R5 111 d) (fun j => lpR P (opc S 3) 1000 (P j)) := by
  intro G j c m h12 cj
  unfold gX12_products
  have hn := HN_of m.1
  have n1 := m.2.2.2.2.2.1
  have jn' := m.2.2.2.2.1
  refine w_bn (hR G j c m h12 cj) (fun _ G1 q1 => ?_)
  have p0 := hP j jn'
  refine w_lpH (fun g => ∃ (f : Nat) (r : LR), PGr n j r ∧ RVp S n r c G g ∧ lpR P (opc S 3) f r = lpR P (opc S 3) 1000 (P j) ∧ (r.1 = 0 → n + 1 ≤ f + r.2.1)) (fun g => ((n : Int) - g 111 7).toNat) (fun rc g hI hr => ?_) G1 ⟨1000, P j, p0, q1, rfl, fun z => by have := p0.2.2.2 z; omega⟩ (by have := q1.2.1.2.2.1; omega)
  obtain ⟨f, r, pr, rv, er, hf⟩ := hI
  have mj := rv.2.1
  have oc : opc S 3 r.2.1 = if yk S r.2.1 = 4 ∧ yv S r.2.1 = 42 then 6 else 0 := by unfold opc; rw [if_neg (by decide), if_neg (by decide), if_neg (by decide)]
  refine w_bn (m_hasSgn mj 42) (fun v4 G5 q5 => ?_)
  obtain ⟨f5, ⟨z, y1, y2, e4, m5⟩ | ⟨y, e4, m5⟩⟩ := q5
  · rw [if_neg (by omega)]
    simp only at z y1 y2 m5
    have o6 : opc S 3 r.2.1 = 6 := by rw [oc, if_pos ⟨y1, y2⟩]
    have ln := hn _ pr.1 (by omega)
    rw [z] at m5
    refine w_bn (m_seq hR pr cj rv f5 m5) (fun _ G9 q9 => ?_)
    have pj := PG_jn (c := opc S 3 r.2.1) hP pr ln
    have pl : c + (r.2.2 ++ (P (r.2.1 + 1)).2.2).length ≤ 1000 := by
      have := pj.2.1; have := pj.1
      simp only [jnR, List.length_append, List.length_singleton] at *; omega
    refine w_bn (m_emt q9 pl (by omega) (by omega) (o := opc S 3 r.2.1) (by omega)) (fun _ G12 q12 => ?_)
    obtain ⟨f', rfl⟩ : ∃ f', f = f' + 1 := ⟨f - 1, by have := hf z; omega⟩
    rw [lpR_s, if_neg (by omega)] at er
    have q12' : RVp S n (jnR r (P (r.2.1 + 1)) (opc S 3 r.2.1)) c G G12 := q12
    have lt2 := (hP (r.2.1 + 1) (by omega)).2.1
    refine hr G12 ⟨f', _, pj, q12', er, fun y => ?_⟩ ?_
    · have := hf z
      show n + 1 ≤ f' + (P (r.2.1 + 1)).2.1
      omega
    · have a1 := mj.2.2.1
      have a2 := q12'.2.1.2.2.1
      have a3 : (jnR r (P (r.2.1 + 1)) (opc S 3 r.2.1)).2.1 = (P (r.2.1 + 1)).2.1 := rfl
      simp only at a1 a2
      rw [a3] at a2
      omega
  · rw [if_pos e4]
    simp only at y
    have st : r.1 ≠ 0 ∨ opc S 3 r.2.1 = 0 := by
      by_cases z : r.1 = 0
      · exact Or.inr (by rw [oc, if_neg (fun q => y ⟨z, q⟩)])
      · exact Or.inl z
    rw [lpR_e st] at er
    refine w_rt ?_
    show RVp S n (lpR P (opc S 3) 1000 (P j)) c G G5
    rw [← er]
    exact rv.fm f5 m5 rfl
theorem m_testS {R1 R2 R3 R4 R5 : Nat → Int → Hp → RT} {P : Nat → LR} {d : Int} (hP : PG n P) (hR : MRd S n (R3 111 d) P) : MRd S n (gX12_test R1 R2 R3 R4 R5 111 d) (fun j => lpR P (opc S 1) 1 (P j)) := by
  intro G j c m h12 cj
  unfold gX12_test
  have hn := HN_of m.1
  have n1 := m.2.2.2.2.2.1
  have jn' := m.2.2.2.2.1
  refine w_bn (hR G j c m h12 cj) (fun _ g rv => ?_)
  have pr := hP j jn'
  show WP _ (fun _ G' => RVp S n (lpR P (opc S 1) 1 (P j)) c G G')
  generalize P j = r at rv pr ⊢
  have mj := rv.2.1
  have oc : opc S 1 r.2.1 = if yk S r.2.1 = 4 ∧ yv S r.2.1 = 60 then 7 else if yk S r.2.1 = 4 ∧ yv S r.2.1 = 61 then 8 else 0 := by unfold opc; rw [if_neg (by decide), if_pos rfl]
  rw [m_isSgn mj 60, bp_s]
  refine w_bd (fun v3 e3 => ?_)
  refine w_bn (m_hasSgn mj 60) (fun v4 G5 q5 => ?_)
  refine w_jnP (fun K7 e7 => ?_)
  have go : ∀ g', r.1 = 0 → opc S 1 r.2.1 ≠ 0 → FM8 g g' → MJ S n (r.2.1 + 1, 0) g' → WP (K7 g') (fun _ G' => RVp S n (lpR P (opc S 1) 1 r) c G G') := by
    intro g' z o f' m'
    have k := opc_k o
    have ln := hn _ pr.1 k.1
    rw [e7, lpR_s, if_neg (by omega)]
    refine w_bn (m_seq hR pr cj rv f' m') (fun _ G9 q9 => ?_)
    have pj := PG_jn (c := opc S 1 r.2.1) hP pr ln
    have pl : c + (r.2.2 ++ (P (r.2.1 + 1)).2.2).length ≤ 1000 := by
      have := pj.2.1; have := pj.1
      simp only [jnR, List.length_append, List.length_singleton] at *; omega
    have fin : ∀ v10 : Int, v10 = opc S 1 r.2.1 → WP (bn (fX12_emit 111 v10 0 G9) fun _ G12 => rt 0 G12) (fun _ G' => RVp S n (lpR P (opc S 1) 0 (jnR r (P (r.2.1 + 1)) (opc S 1 r.2.1))) c G G') := by
      intro v10 h10
      exact w_bn (m_emt q9 pl (by omega) (by omega) (o := opc S 1 r.2.1) (by omega)) (fun _ G12 q12 => w_rt q12)
    refine w_jn ?_
    by_cases y : yk S r.2.1 = 4 ∧ yv S r.2.1 = 60
    · rw [if_pos ⟨z, y.1, y.2⟩] at e3
      rw [if_neg (by omega)]
      exact fin 7 (by rw [oc, if_pos y])
    · rw [if_neg (fun q => y q.2)] at e3
      rw [if_pos e3]
      refine fin 8 ?_
      rw [oc, if_neg y]
      rw [oc, if_neg y] at o
      split at o
      · rename_i u; rw [if_pos u]
      · exact absurd rfl o
  obtain ⟨f5, ⟨z, y1, y2, e4, m5⟩ | ⟨y, e4, m5⟩⟩ := q5
  · rw [if_neg (by omega)]
    simp only at z y1 y2 m5
    rw [z] at m5
    exact go G5 z (by rw [oc, if_pos ⟨y1, y2⟩]; decide) f5 m5
  · rw [if_pos e4]
    simp only at y
    refine w_bn (m_hasSgn m5 61) (fun v14 G15 q15 => ?_)
    obtain ⟨f6, ⟨z, y1, y2, e6, m6⟩ | ⟨y', e6, m6⟩⟩ := q15
    · rw [if_neg (by omega)]
      simp only at z y1 y2 m6
      rw [z] at m6
      exact go G15 z (by rw [oc, if_neg (by omega), if_pos ⟨y1, y2⟩]; decide) (f5.tr f6) m6
    · rw [if_pos e6]
      simp only at y'
      have st : r.1 ≠ 0 ∨ opc S 1 r.2.1 = 0 := by
        by_cases z : r.1 = 0
        · exact Or.inr (by rw [oc, if_neg (fun q => y ⟨z, q⟩), if_neg (fun q => y' ⟨z, q⟩)])
        · exact Or.inl z
      rw [lpR_e st]
      exact w_rt (rv.fm (f5.tr f6) m6 rfl)
end LAWM
