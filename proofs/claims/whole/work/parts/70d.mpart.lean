/-! THE LAW, the reference's side: a part -/
section LAWP
variable {S : TS} {G : Hp} {n c : Nat}
theorem aIs_f {j k : Nat} (h : aIs S (j, 0) (22 + k)) (hk : k < 4) : yk S j = 2 ∧ (yw S j = 0 ∨ (22 ≤ yw S j ∧ yw S j ≤ 24)) ∧ fix S j = k := by
  obtain ⟨-, h1, h2⟩ := h
  simp only at h1 h2
  have e : k = 0 ∨ k = 1 ∨ k = 2 ∨ k = 3 := by omega
  unfold fix
  rcases e with e | e | e | e <;> subst e <;> (unfold cixw at h2; simp at h2; rw [h2]; simp [h1])
theorem aIs_n {j : Nat} (h : ∀ k, k < 4 → ¬ aIs S (j, 0) (22 + k)) (h1 : yk S j = 2) : ¬ (yw S j = 0 ∨ (22 ≤ yw S j ∧ yw S j ≤ 24)) := by
  intro z
  have e : yw S j = 22 ∨ yw S j = 23 ∨ yw S j = 0 ∨ yw S j = 24 := by omega
  rcases e with e | e | e | e
  · exact h 0 (by decide) ⟨rfl, h1, by rw [show ((j, (0 : Int)) : Nat × Int).1 = j from rfl, e]; rfl⟩
  · exact h 1 (by decide) ⟨rfl, h1, by rw [show ((j, (0 : Int)) : Nat × Int).1 = j from rfl, e]; rfl⟩
  · exact h 2 (by decide) ⟨rfl, h1, by rw [show ((j, (0 : Int)) : Nat × Int).1 = j from rfl, e]; rfl⟩
  · exact h 3 (by decide) ⟨rfl, h1, by rw [show ((j, (0 : Int)) : Nat × Int).1 = j from rfl, e]; rfl⟩
theorem m_partW {R1 R2 R3 R4 R5 : Nat → Int → Hp → RT} {P : Nat → LR} {d : Int} {k : Nat} (w : WTp S) (d0 : 0 ≤ d) (hk : (k = 0 ∧ d = 5) ∨ (d < 5 ∧ ∃ k', k = k' + 1 ∧ P = pP S k' ∧ PG n P ∧ MRd S n (R1 111 (d + 1)) (pL S P 4) ∧ MRd S n (R5 111 (d + 1)) P)) : MRd S n (gX12_takePart R1 R2 R3 R4 R5 111 d) (pP S k) := by
  intro G j c m h12 cj
  unfold gX12_takePart
  have i := m.in
  have hn := HN_of m.1
  have n1 := m.2.2.2.2.2.1
  have jn' := m.2.2.2.2.1
  simp only at jn'
  have y := yp_r w (j := j)
  have r2 := (rso_1 (yk_r (S := S) (j := j))).2.1
  have e8 := m.2.2.2.1
  simp only at e8
  rw [rf_111_4, rf_111_6, e8, if_neg (by decide)]
  refine w_rd i.1 i.2 (fun v1 e1 => ?_)
  rw [m.at, m.k] at e1
  simp only at e1
  refine w_jnK (fun v2 h2 => ?_)
  refine w_bd (fun v4 e4 => ?_)
  have h4 : (yk S j = 3 ∧ v4 = 1) ∨ (yk S j ≠ 3 ∧ v4 = 0) := by
    rcases h2 with ⟨a, b⟩ | ⟨a, b⟩
    · exact Or.inl ⟨r2.mp (by omega), by omega⟩
    · exact Or.inr ⟨fun z => a (by rw [e1]; exact r2.mpr z), by omega⟩
  refine w_bpq (m_wordHere m (a := 22) (b := 4) (by omega) (za := 22) (zb := 4) rfl rfl) (fun v5 g5 q5 => ?_)
  refine w_bd (fun v6 e6 => ?_)
  have h6 : (yk S j = 2 ∧ (yw S j = 0 ∨ (22 ≤ yw S j ∧ yw S j ≤ 24)) ∧ v6 = fix S j ∧ 0 ≤ v6) ∨ (v6 < 0 ∧ ¬ (yk S j = 2 ∧ (yw S j = 0 ∨ (22 ≤ yw S j ∧ yw S j ≤ 24)))) := by
    rcases q5 with ⟨u1, u2⟩ | ⟨kk, u1, u2, u3⟩
    · exact Or.inr ⟨by rw [e6, u1]; decide, fun q => aIs_n u2 q.1 q.2⟩
    · have t := aIs_f u3 u1
      exact Or.inl ⟨t.1, t.2.1, by rw [e6, u2, t.2.2], by rw [e6, u2]; exact Int.natCast_nonneg kk⟩
  clear q5
  refine w_jnP (fun K8 hK8 => ?_)
  refine w_jnP (fun K29 hK29 => ?_)
  have flt : ∀ kk : Int, 1 ≤ kk → kk ≤ 5 → pP S k j = (kk + 16 * yp S j, j, []) → WP (bn (fX12_wrong 111 kk G) fun _ G34 => K8 G34) (fun _ G' => RVp S n (pP S k j) c G G') := by
    intro kk k1 k2 ep
    refine w_bn (m_wrg w m k1 k2) (fun _ g q => ?_)
    obtain ⟨f, mg⟩ := q
    rw [aWr_z rfl] at mg
    have e8' := mg.2.2.2.1
    simp only at e8'
    rw [hK8, ep]
    refine w_ite (fun _ => ?_) (fun z => by omega)
    exact w_rt ((RVp.z m h12).fm f mg rfl)
  by_cases b : bpt S j
  · have k29 : WP K29 (fun _ G' => RVp S n (pP S k j) c G G') := by
      rw [hK29]
      rcases hk with ⟨rfl, rfl⟩ | ⟨d5, k', rfl, rfl, hP, hR1, hR5⟩
      · rw [if_pos rfl]
        exact flt 5 (by decide) (by decide) (pP_0 b)
      · rw [if_neg (by omega), hK8, pP_s b, iadd_id (a := d) (b := 1) (by omega) (by omega)]
        refine w_ite (fun z => by omega) (fun _ => ?_)
        have jl := hn j jn' (bpt_k b)
        have c19 : ((cixw 19 : Nat) : Int) = 19 := rfl
        refine w_bn (m_hasWrd m (c := 19) (by decide) (z := 19) rfl) (fun v9 G10 q10 => ?_)
        rw [c19] at q10
        obtain ⟨f10, ⟨-, a1, a2, e9, m10⟩ | ⟨a1, e9, m10⟩⟩ := q10
        · simp only at a1 a2 m10
          rw [if_neg (by omega)]
          refine w_bn (hR5 G10 (j + 1) c m10 (by rw [f10.2 12 (by decide) (by decide)]; exact h12) (by omega)) (fun _ G25 q25 => ?_)
          have pg := hP (j + 1) (by omega)
          have pg1 := pg.1
          have pg2 := pg.2.1
          refine w_bn (m_emt (a := 3) (b := 0) (o := 3) q25 (by omega) (by omega) (by omega) (by omega)) (fun _ G26 q26 => w_rt ?_)
          unfold pPs
          rw [if_neg (by omega), if_neg (by omega), if_pos a2]
          exact q26.pre f10
        · rw [if_pos e9]
          refine w_bn (m_hasSgn m10 40) (fun v11 G12 q12 => ?_)
          obtain ⟨f12, ⟨-, b1, b2, e11, m12⟩ | ⟨b1, e11, m12⟩⟩ := q12
          · simp only at b1 b2 m12
            rw [if_neg (by omega)]
            have f := f10.tr f12
            refine w_bn (hR1 G12 (j + 1) c m12 (by rw [f.2 12 (by decide) (by decide)]; exact h12) (by omega)) (fun _ G21 q21 => ?_)
            refine w_bn (m_takeSgn w q21.2.1 41) (fun _ G22 q22 => w_rt ?_)
            unfold pPs
            rw [if_neg (by omega), if_pos b1]
            generalize pL S (pP S k') 4 (j + 1) = r at q21 q22
            have e : (((clR S r).2.1, (clR S r).1) : Nat × Int) = aSg S 41 (r.2.1, r.1) ∧ (clR S r).2.2 = r.2.2 := by
              unfold clR aSg aWr
              by_cases z : r.1 = 0
              · rw [if_neg (fun q => q z)]
                by_cases y : yk S r.2.1 = 4 ∧ yv S r.2.1 = 41
                · rw [if_pos y, if_pos ⟨z, y⟩]; exact ⟨by simp only [z], rfl⟩
                · rw [if_neg y, if_neg (fun q => y q.2), if_pos z]; exact ⟨rfl, rfl⟩
              · rw [if_pos z, if_neg (fun q => z q.1), if_neg z]; exact ⟨rfl, rfl⟩
            refine RVp.pre f (q21.fm q22.1 ?_ e.2)
            rw [e.1]; exact q22.2
          · have b1' : ¬ (yk S j = 4 ∧ yv S j = 40) := fun q => b1 ⟨rfl, q⟩
            have a1' : ¬ (yk S j = 2 ∧ yw S j = 19) := fun q => a1 ⟨rfl, q⟩
            clear a1 b1
            rw [if_pos e11]
            have f := f10.tr f12
            have rz0 := (RVp.z m h12).fm (r' := (0, j, [])) f m12 rfl
            refine w_jnK (fun v13 h13 => ?_)
            unfold bpt at b
            have em : ∀ v15 : Int, (yk S j = 3 → v15 = yv S j) → (yk S j ≠ 3 → v15 = fix S j) → WP (bn (fX12_emit 111 v13 v15 G12) fun _ G17 => bh (up G17 111 7 (iadd (G17 111 7) 1)) fun G18 => rt 0 G18) (fun _ G' => RVp S n (pPs S (pP S k') j) c G G') := by
              intro v15 t1 t2
              unfold pPs
              by_cases k3 : yk S j = 3
              · have vn := yv_n k3
                rw [if_pos k3]
                refine w_bn (m_emt (o := 1 + 16 * yv S j) rz0 (by simp only [List.length_nil]; omega) (by omega) (by have := t1 k3; omega) (by have := t1 k3; omega)) (fun _ G17 q17 => ?_)
                refine w_bh (fun G18 e18 => w_rt ?_)
                have inc := m_inc q17.2.1 (by simp only; omega)
                rw [← e18] at inc
                exact q17.fm inc.1 inc.2 rfl
              · have fr := fix_r (S := S) (j := j)
                rw [if_neg k3, if_neg (by omega), if_neg (by omega)]
                refine w_bn (m_emt (o := 2 + 16 * fix S j) rz0 (by simp only [List.length_nil]; omega) (by omega) (by have := t2 k3; omega) (by have := t2 k3; omega)) (fun _ G17 q17 => ?_)
                refine w_bh (fun G18 e18 => w_rt ?_)
                have inc := m_inc q17.2.1 (by simp only; omega)
                rw [← e18] at inc
                exact q17.fm inc.1 inc.2 rfl
            refine w_jn ?_
            refine w_ite (fun z => ?_) (fun z => ?_)
            · refine em v6 (fun q => by omega) (fun q => ?_)
              rcases h6 with u | u
              · exact u.2.2.1
              · exact absurd (by omega) u.2
            · have k3 : yk S j = 3 := by omega
              have vn := yv_n k3
              have i12 := m12.in
              refine w_rd i12.1 i12.2 (fun v20 e20 => ?_)
              rw [m12.at, m12.v (by simp only; omega) (by simp only; omega)] at e20
              simp only at e20
              rw [e20, l2i_id (by omega) (by omega)]
              exact em _ (fun _ => rfl) (fun q => absurd k3 q)
    refine w_ite (fun z => ?_) (fun _ => k29)
    refine w_ite (fun z4 => ?_) (fun _ => k29)
    rw [m_isSgn m 40, bp_s]
    refine w_ite (fun z5 => ?_) (fun _ => k29)
    rw [m_isWrd m (w := 19) (by decide) (z := 19) rfl, bp_s]
    refine w_ite (fun z6 => ?_) (fun _ => k29)
    exfalso
    have c19 : ((cixw 19 : Nat) : Int) = 19 := rfl
    rw [c19] at z6
    unfold bpt at b
    clear hk
    by_cases k2 : yk S j = 2
    · rw [if_pos ⟨rfl, k2, (show yw S j = 19 by omega)⟩] at z6
      exact absurd z6 (by decide)
    · rw [if_pos ⟨rfl, (show yk S j = 4 by omega), (show yv S j = 40 by omega)⟩] at z5
      exact absurd z5 (by decide)
  · have ep : pP S k j = (1 + 16 * yp S j, j, []) := pP_n b
    have c19 : ((cixw 19 : Nat) : Int) = 19 := rfl
    unfold bpt at b
    clear hk
    have z : v6 < 0 := by omega
    have z4 : v4 = 0 := by omega
    refine w_ite (fun _ => ?_) (fun y => absurd z y)
    refine w_ite (fun _ => ?_) (fun y => absurd z4 y)
    rw [m_isSgn m 40, bp_s]
    refine w_ite (fun _ => ?_) (fun y => ?_)
    · rw [m_isWrd m (w := 19) (by decide) (z := 19) rfl, bp_s, c19]
      refine w_ite (fun _ => ?_) (fun y => ?_)
      · exact flt 1 (by decide) (by decide) ep
      · exact absurd (if_neg (fun q => b (Or.inr (Or.inr ⟨q.2.1, Or.inl q.2.2⟩)))) y
    · exact absurd (if_neg (fun q => b (Or.inr (Or.inl q.2)))) y
theorem m_lev {P : Nat → LR} {d : Int} {f : Nat} (hn : HN S n) (hP : PG n P) (hR : MRd S n ((tie_mod f).2.2.2.2 111 d) P) : MRd S n ((tie_mod (f + 4)).1 111 d) (pL S P 4) := by
  have h1 : MRd S n ((tie_mod (f + 1)).2.2.2.1 111 d) (pL S P 1) := m_prodS (R1 := (tie_mod f).1) (R2 := (tie_mod f).2.1) (R3 := (tie_mod f).2.2.1) (R4 := (tie_mod f).2.2.2.1) (R5 := (tie_mod f).2.2.2.2) hP hR
  have h2 : MRd S n ((tie_mod (f + 2)).2.2.1 111 d) (pL S P 2) := m_sumS (R1 := (tie_mod (f + 1)).1) (R2 := (tie_mod (f + 1)).2.1) (R3 := (tie_mod (f + 1)).2.2.1) (R4 := (tie_mod (f + 1)).2.2.2.1) (R5 := (tie_mod (f + 1)).2.2.2.2) (PG_pL hP hn 1) h1
  have h3 : MRd S n ((tie_mod (f + 3)).2.1 111 d) (pL S P 3) := m_testS (R1 := (tie_mod (f + 2)).1) (R2 := (tie_mod (f + 2)).2.1) (R3 := (tie_mod (f + 2)).2.2.1) (R4 := (tie_mod (f + 2)).2.2.2.1) (R5 := (tie_mod (f + 2)).2.2.2.2) (PG_pL hP hn 2) h2
  exact m_allS (R1 := (tie_mod (f + 3)).1) (R2 := (tie_mod (f + 3)).2.1) (R3 := (tie_mod (f + 3)).2.2.1) (R4 := (tie_mod (f + 3)).2.2.2.1) (R5 := (tie_mod (f + 3)).2.2.2.2) (PG_pL hP hn 3) h3
theorem m_prt (w : WTp S) (hn : HN S n) : ∀ k, k ≤ 5 → ∀ f, 5 * k + 1 ≤ f → MRd S n ((tie_mod f).2.2.2.2 111 ((5 - k : Nat) : Int)) (pP S k)
  | 0, _, f, hf => by
    obtain ⟨f', rfl⟩ : ∃ f', f = f' + 1 := ⟨f - 1, by omega⟩
    exact m_partW (R1 := (tie_mod f').1) (R2 := (tie_mod f').2.1) (R3 := (tie_mod f').2.2.1) (R4 := (tie_mod f').2.2.2.1) (R5 := (tie_mod f').2.2.2.2) (P := pP S 0) w (by omega) (Or.inl ⟨rfl, rfl⟩)
  | k + 1, hk, f, hf => by
    obtain ⟨f', rfl⟩ : ∃ f', f = f' + 5 := ⟨f - 5, by omega⟩
    have ed : (((5 - (k + 1) : Nat) : Int)) + 1 = ((5 - k : Nat) : Int) := by omega
    refine m_partW (R1 := (tie_mod (f' + 4)).1) (R2 := (tie_mod (f' + 4)).2.1) (R3 := (tie_mod (f' + 4)).2.2.1) (R4 := (tie_mod (f' + 4)).2.2.2.1) (R5 := (tie_mod (f' + 4)).2.2.2.2) (P := pP S k) w (by omega) (Or.inr ⟨by omega, k, rfl, rfl, PG_pP w hn k, ?_, ?_⟩)
    · rw [ed]
      exact m_lev hn (PG_pP w hn k) (m_prt w hn k (by omega) f' (by omega))
    · rw [ed]
      exact m_prt w hn k (by omega) (f' + 4) (by omega)
theorem m_law (w : WTp S) {j : Nat} (m : MJ S n (j, 0) G) (h12 : G 111 12 = ((c : Nat) : Int)) (cj : c ≤ j) : WP (fX12_allOf 111 0 G) (fun _ G' => RVp S n (lawR S j) c G G') := by
  have hn := HN_of m.1
  unfold fX12_allOf lawR
  exact m_lev (f := 56) hn (PG_pP w hn 5) (m_prt w hn 5 (by omega) 56 (by omega)) G j c m h12 cj
theorem law_pg (w : WTp S) (hn : HN S n) {j : Nat} (h : j ≤ n) : PGr n j (lawR S j) := PG_pL (PG_pP w hn 5) hn 4 j h
theorem law_gd {F : Int → Int} (w : WTp S) {j : Nat} (h : (lawR S j).1 = 0) : GD F 25 (lawR S j).2.2 := GD_pL (GD_pP w 5) 4 j h
end LAWP
