/-! THE LAW, the class's side -/
section LAWX
variable {S : TS} {G : Hp}
def xF (G : Hp) (i : Int) : Int := if i = 0 then (if G 11 4 < 0 then 0 else if G 11 4 < 10 then G 16 (G 11 4).toNat else 0) else if i = 1 then G 11 4 else if i = 2 then G 12 0 else G 12 2
theorem xF_f {G' : Hp} (h : FX8 G G') : xF G' = xF G := by
  funext i; unfold xF; rw [h.1 11 (by decide), h.1 12 (by decide), h.1 16 (by decide)]
def CVp (S : TS) (r : LR) (G : Hp) (v : Int) (G' : Hp) : Prop := FX8 G G' ∧ (r.1 = 0 → XJ S r.2.1 0 G' ∧ VL (xF G) r.2.2 v) ∧ (r.1 ≠ 0 → ∃ j', XJ S j' r.1 G')
theorem opc0 {j : Nat} : opc S 0 j = if yk S j = 2 ∧ yw S j = 20 then 9 else if yk S j = 2 ∧ yw S j = 21 then 10 else 0 := by unfold opc; rw [if_pos rfl]
theorem opc1 {j : Nat} : opc S 1 j = if yk S j = 4 ∧ yv S j = 60 then 7 else if yk S j = 4 ∧ yv S j = 61 then 8 else 0 := by unfold opc; rw [if_neg (by decide), if_pos rfl]
theorem opc2 {j : Nat} : opc S 2 j = if yk S j = 4 ∧ yv S j = 43 then 4 else if yk S j = 4 ∧ yv S j = 45 then 5 else 0 := by unfold opc; rw [if_neg (by decide), if_neg (by decide), if_pos rfl]
theorem opc3 {j : Nat} : opc S 3 j = if yk S j = 4 ∧ yv S j = 42 then 6 else 0 := by unfold opc; rw [if_neg (by decide), if_neg (by decide), if_neg (by decide)]
theorem x_joins {j a : Nat} (h : XJ S j 0 G) (ha : a ≤ 3) {z : Int} (hz : z = a) : fX4_joinsOn 11 z G = some (if opc S a j = 0 then 0 else 1, G) := by
  unfold fX4_joinsOn
  rw [rf_11_0, h.2.2.2, if_pos rfl, x_isWrd h, x_isSgn h, x_isSgn h, x_isSgn h, x_isSgn h, x_isSgn h]
  simp only [bp_s, jn_s]
  have c : a = 0 ∨ a = 1 ∨ a = 2 ∨ a = 3 := by omega
  rcases c with c | c | c | c <;> subst c
  · obtain rfl : z = 0 := by omega
    rw [if_pos rfl, opc0]
    by_cases d : yk S j = 2 ∧ yw S j = 20
    · rw [if_pos d, if_pos ⟨d.1, by omega, by omega⟩]; rfl
    · rw [if_neg d]
      by_cases e : yk S j = 2 ∧ yw S j = 21
      · rw [if_pos e, if_pos ⟨e.1, by omega, by omega⟩]; rfl
      · rw [if_neg e, if_neg (by omega)]; rfl
  · obtain rfl : z = 1 := by omega
    rw [if_neg (by decide), if_pos rfl, opc1]
    by_cases d : yk S j = 4 ∧ yv S j = 60
    · rw [if_pos d, if_pos d]; rfl
    · rw [if_neg d, if_neg d]
      by_cases e : yk S j = 4 ∧ yv S j = 61
      · rw [if_pos e, if_pos e]; rfl
      · rw [if_neg e, if_neg e]; rfl
  · obtain rfl : z = 2 := by omega
    rw [if_neg (by decide), if_neg (by decide), if_pos rfl, opc2]
    by_cases d : yk S j = 4 ∧ yv S j = 43
    · rw [if_pos d, if_pos d]; rfl
    · rw [if_neg d, if_neg d]
      by_cases e : yk S j = 4 ∧ yv S j = 45
      · rw [if_pos e, if_pos e]; rfl
      · rw [if_neg e, if_neg e]; rfl
  · obtain rfl : z = 3 := by omega
    rw [if_neg (by decide), if_neg (by decide), if_neg (by decide), if_pos rfl, opc3]
    by_cases d : yk S j = 4 ∧ yv S j = 42
    · rw [if_pos d, if_pos d]; rfl
    · rw [if_neg d, if_neg d]; rfl
theorem x_joinsF {j : Nat} {F z : Int} (h : XJ S j F G) (hF : F ≠ 0) : fX4_joinsOn 11 z G = some (0, G) := by
  unfold fX4_joinsOn
  rw [rf_11_0, h.2.2.2, if_neg hF]; rfl
theorem x_joined {j a : Nat} {F v u : Int} {G' : Hp} (h : XJ S j F G) (ha : a ≤ 3) (hc : opc S a j ≠ 0) : fX4_joined (G 1 6) v u G' = some (wkd (opc S a j) v u, G') := by
  have c : a = 0 ∨ a = 1 ∨ a = 2 ∨ a = 3 := by omega
  unfold fX4_joined
  rcases c with c | c | c | c <;> subst c
  · rw [opc0] at hc ⊢
    by_cases d : yk S j = 2 ∧ yw S j = 20
    · rw [if_pos d, (x_wix h d.1).1, d.2]
      show (if v = 0 then rt 0 G' else (if u = 0 then rt 0 G' else rt 1 G')) = some ((if v ≠ 0 ∧ u ≠ 0 then 1 else 0), G')
      by_cases e : v = 0
      · rw [if_pos e, if_neg (fun q => q.1 e)]; rfl
      · rw [if_neg e]
        by_cases f : u = 0
        · rw [if_pos f, if_neg (fun q => q.2 f)]; rfl
        · rw [if_neg f, if_pos ⟨e, f⟩]; rfl
    · rw [if_neg d] at hc ⊢
      by_cases e : yk S j = 2 ∧ yw S j = 21
      · rw [if_pos e, (x_wix h e.1).1, e.2]
        show (if v = 0 then (if u = 0 then rt 0 G' else rt 1 G') else rt 1 G') = some ((if v ≠ 0 ∨ u ≠ 0 then 1 else 0), G')
        by_cases f : v = 0
        · rw [if_pos f]
          by_cases g : u = 0
          · rw [if_pos g, if_neg (by omega)]; rfl
          · rw [if_neg g, if_pos (Or.inr g)]; rfl
        · rw [if_neg f, if_pos (Or.inl f)]; rfl
      · rw [if_neg e] at hc; exact absurd rfl hc
  · rw [opc1] at hc ⊢
    by_cases d : yk S j = 4 ∧ yv S j = 60
    · rw [if_pos d, x_val h (Or.inr d.1), d.2]
      show (if v < u then rt 1 G' else rt 0 G') = some ((if v < u then 1 else 0), G')
      split <;> rfl
    · rw [if_neg d] at hc ⊢
      by_cases e : yk S j = 4 ∧ yv S j = 61
      · rw [if_pos e, x_val h (Or.inr e.1), e.2]
        show (if v = u then rt 1 G' else rt 0 G') = some ((if v = u then 1 else 0), G')
        split <;> rfl
      · rw [if_neg e] at hc; exact absurd rfl hc
  · rw [opc2] at hc ⊢
    by_cases d : yk S j = 4 ∧ yv S j = 43
    · rw [if_pos d, x_val h (Or.inr d.1), d.2]
      show rt (iadd v u) G' = some (iadd v u, G')
      rfl
    · rw [if_neg d] at hc ⊢
      by_cases e : yk S j = 4 ∧ yv S j = 45
      · rw [if_pos e, x_val h (Or.inr e.1), e.2]
        show rt (isub v u) G' = some (isub v u, G')
        rfl
      · rw [if_neg e] at hc; exact absurd rfl hc
  · rw [opc3] at hc ⊢
    by_cases d : yk S j = 4 ∧ yv S j = 42
    · rw [if_pos d, x_val h (Or.inr d.1), d.2]
      show rt (imul v u) G' = some (imul v u, G')
      rfl
    · rw [if_neg d] at hc; exact absurd rfl hc
theorem x_valS {R1 : Nat → Int → Int → Hp → RT} {R2 : Nat → Int → Hp → RT} {P : Nat → LR} {a : Nat} {d : Int} (w : WTp S) (ha : a ≤ 3) (hR : ∀ G j, XJ S j 0 G → WP (R1 11 (((a + 1 : Nat) : Int)) d G) (CVp S (P j) G)) {j : Nat} (h : XJ S j 0 G) : WP (gX4_valueOf R1 R2 11 (a : Int) d G) (CVp S (lpR P (opc S a) (fuL a) (P j)) G) := by
  unfold gX4_valueOf
  have ea : iadd (a : Int) 1 = ((a + 1 : Nat) : Int) := by rw [iadd_id (by omega) (by omega)]; omega
  rw [if_pos (by omega), ea, rf_11_0]
  refine w_bn (hR G j h) (fun v1 G2 q2 => ?_)
  refine w_bd (fun v3 e3 => ?_)
  refine w_bd (fun v4 e4 => ?_)
  subst e3; subst e4
  refine w_lpIIH (fun v5 v6 g => ∃ (i f : Nat) (r : LR), v6 = i ∧ i ≤ 1000 ∧ (a ≠ 1 → f + i = 1000) ∧ (a = 1 → f = 1 ∧ i = 0) ∧ CVp S r G v5 g ∧ lpR P (opc S a) f r = lpR P (opc S a) (fuL a) (P j)) (fun _ v6 _ => (1000 - v6).toNat) (fun rc v5 v6 g hI hr => ?_) v3 0 G2 ⟨0, fuL a, P j, rfl, by omega, fun z => by unfold fuL; rw [if_neg z], fun z => ⟨by unfold fuL; rw [if_pos z], rfl⟩, q2, rfl⟩ (by decide)
  obtain ⟨i, f, r, h6, i1, fa, fb, ⟨f8, c0, c1⟩, er⟩ := hI
  refine w_ite (fun c => ?_) (fun c => ?_)
  · by_cases z : r.1 = 0
    · obtain ⟨xj, vl⟩ := c0 z
      rw [x_joins xj ha rfl, bp_s]
      by_cases o : opc S a r.2.1 = 0
      · rw [if_pos o, if_pos rfl]
        rw [lpR_e (Or.inr o)] at er
        rw [← er]; exact w_rt ⟨f8, c0, c1⟩
      · rw [if_neg o, if_neg (by decide)]
        refine w_bd (fun v10 e10 => ?_)
        refine w_bn (x_stp w xj) (fun _ G11 q11 => ?_)
        refine w_bn (hR G11 _ q11.2) (fun v12 G13 q13 => ?_)
        rw [e10, x_joined xj ha o, bp_s]
        refine w_bd (fun v15 e15 => ?_)
        have k := (opc_k (S := S) (l := a) (j := r.2.1) o).2
        have xf : xF G11 = xF G := (xF_f q11.1).trans (xF_f f8)
        have f8' := (f8.tr q11.1).tr q13.1
        have cv : CVp S (jnR r (P (r.2.1 + 1)) (opc S a r.2.1)) G v15 G13 := by
          refine ⟨f8', fun y => ?_, fun y => q13.2.2 y⟩
          obtain ⟨x1, x2⟩ := q13.2.1 y
          refine ⟨x1, ?_⟩
          rw [xf] at x2
          rw [e15]
          exact VL_jn vl x2 k.1 k.2
        obtain ⟨f', rfl⟩ : ∃ f', f = f' + 1 := ⟨f - 1, by
          rcases Decidable.em (a = 1) with y | y
          · have := fb y; omega
          · have := fa y; omega⟩
        rw [lpR_s, if_neg (by omega)] at er
        refine w_ite (fun y => ?_) (fun y => ?_)
        · have := fb (by omega)
          obtain rfl : f' = 0 := by omega
          rw [← er]; exact w_rt cv
        · refine w_bd (fun v16 e16 => ?_)
          rw [iadd_id (by omega) (by omega)] at e16
          exact hr v15 v16 G13 ⟨i + 1, f', _, by omega, by omega, fun _ => by have := fa (by omega); omega, fun q => absurd (by omega : (a : Int) = 1) y, cv, er⟩ (by omega)
    · obtain ⟨j', xj⟩ := c1 z
      rw [x_joinsF xj z, bp_s, if_pos rfl]
      rw [lpR_e (Or.inl z)] at er
      rw [← er]; exact w_rt ⟨f8, c0, c1⟩
  · have : a ≠ 1 := fun y => by have := fb y; omega
    have := fa this
    obtain rfl : f = 0 := by omega
    rw [← er]; exact w_rt ⟨f8, c0, c1⟩
theorem x_bpt {j : Nat} (h : XJ S j 0 G) (b : bpt S j) : fX4_beginsPart 11 G = some (1, G) := by
  unfold fX4_beginsPart
  rw [rf_11_0, x_kin h, x_isSgn h, x_isWrd h, x_isWrd h, x_isWrd h, jn_s]
  simp only [bp_s]
  unfold bpt at b
  by_cases c1 : yk S j = 3
  · rw [if_pos c1]; rfl
  rw [if_neg c1]
  by_cases c2 : yk S j = 4 ∧ yv S j = 40
  · rw [if_pos c2, if_neg (by decide)]; rfl
  rw [if_neg c2, if_pos rfl]
  by_cases c3 : yk S j = 2 ∧ 19 ≤ yw S j ∧ yw S j ≤ 19
  · rw [if_pos c3, if_neg (by decide)]; rfl
  rw [if_neg c3, if_pos rfl]
  by_cases c4 : yk S j = 2 ∧ 0 ≤ yw S j ∧ yw S j ≤ 0
  · rw [if_pos c4, if_neg (by decide)]; rfl
  rw [if_neg c4, if_pos rfl, if_pos (show yk S j = 2 ∧ 22 ≤ yw S j ∧ yw S j ≤ 24 by omega), if_neg (by decide)]; rfl
theorem x_nbp {j : Nat} (h : XJ S j 0 G) (b : ¬ bpt S j) : fX4_beginsPart 11 G = some (0, G) := by
  unfold fX4_beginsPart
  rw [rf_11_0, x_kin h, x_isSgn h, x_isWrd h, x_isWrd h, x_isWrd h, jn_s]
  simp only [bp_s]
  unfold bpt at b
  rw [if_neg (show ¬ yk S j = 3 by omega), if_neg (show ¬ (yk S j = 4 ∧ yv S j = 40) by omega), if_pos rfl, if_neg (show ¬ (yk S j = 2 ∧ 19 ≤ yw S j ∧ yw S j ≤ 19) by omega), if_pos rfl, if_neg (show ¬ (yk S j = 2 ∧ 0 ≤ yw S j ∧ yw S j ≤ 0) by omega), if_pos rfl, if_neg (show ¬ (yk S j = 2 ∧ 22 ≤ yw S j ∧ yw S j ≤ 24) by omega), if_pos rfl]; rfl
theorem x_fact {j : Nat} (h : yw S j = 0 ∨ (22 ≤ yw S j ∧ yw S j ≤ 24)) : fX4_factValue 11 (yw S j) G = some (xF G (fix S j), G) := by
  unfold fX4_factValue fix
  rw [rf_11_1, rf_12_7]
  by_cases c0 : yw S j = 0
  · rw [if_pos c0, if_neg (by omega), if_neg (by omega), if_pos c0]; rfl
  rw [if_neg c0]
  by_cases c1 : yw S j = 22
  · rw [if_pos c1, if_pos c1]
    show _ = some ((if G 11 4 < 0 then 0 else if G 11 4 < 10 then G 16 (G 11 4).toNat else 0), G)
    by_cases d : G 11 4 < 0
    · rw [if_pos d, if_pos d]; rfl
    · rw [if_neg d, if_neg d]
      by_cases e : G 11 4 < 10
      · rw [if_pos e, if_pos e, rd_in (by omega) (by omega)]; rfl
      · rw [if_neg e, if_neg e]; rfl
  rw [if_neg c1, if_neg c1]
  by_cases c2 : yw S j = 23
  · rw [if_pos c2, if_pos c2]; rfl
  rw [if_neg c2, if_neg c2, if_neg c0]; rfl
/-! the bracket's end, taken in place (the class at a213888) -/
theorem w_tks {oI oW oS : RT} {v : Int} {Q Q' : Int → Hp → Prop} (h : WP (bp oI fun v1 => if v1 = 0 then (bn oW fun v4 G5 => rz v4 G5) else (bn oS fun _ G2 => rz 1 G2)) Q') (k : ∀ r g, Q' r g → WP (rt v g) Q) : WP (bp oI fun v1 => if v1 = 0 then (bn oW fun _ G5 => rt v G5) else (bn oS fun _ G2 => rt v G2)) Q := by
  obtain ⟨r, g, h1, h2⟩ := h
  cases oI with
  | none => cases h1
  | some p =>
    obtain ⟨p1, p2⟩ := p
    rw [bp_s] at h1 ⊢
    by_cases z : p1 = 0
    · rw [if_pos z] at h1 ⊢
      cases oW with
      | none => cases h1
      | some q =>
        obtain ⟨q1, q2⟩ := q
        rw [bn_s] at h1 ⊢
        unfold rz at h1
        by_cases y : q1 = 0 ∨ q1 = 1
        · rw [if_pos y] at h1
          cases h1
          exact k _ _ h2
        · rw [if_neg y] at h1
          cases h1
    · rw [if_neg z] at h1 ⊢
      cases oS with
      | none => cases h1
      | some q =>
        obtain ⟨q1, q2⟩ := q
        rw [bn_s] at h1 ⊢
        rw [rz_in (Or.inr rfl)] at h1
        cases h1
        exact k _ _ h2
theorem x_tks {j : Nat} {F : Int} (w : WTp S) (h : XJ S j F G) : WP (bp (fX7_isSign 1 41 G) fun v1 => if v1 = 0 then (bn (fX7_wrong 1 1 G) fun v4 G5 => rz v4 G5) else (bn (fX7_step 1 G) fun _ G2 => rz 1 G2)) (fun r G' => FX8 G G' ∧ (F ≠ 0 → ∃ j', XJ S j' F G') ∧ (F = 0 → (yk S j = 4 ∧ yv S j = 41 ∧ r = 1 ∧ XJ S (j + 1) 0 G') ∨ (¬ (yk S j = 4 ∧ yv S j = 41) ∧ r = 0 ∧ XJ S j (1 + 16 * yp S j) G'))) := by
  have q := x_takeSgn w h 41
  unfold fX7_takeSign at q
  exact q
theorem x_partS {R1 : Nat → Int → Int → Hp → RT} {R2 : Nat → Int → Hp → RT} {P : Nat → LR} {d : Int} (w : WTp S) (d0 : 0 ≤ d) (d5 : d < 5) (hR1 : ∀ G j, XJ S j 0 G → WP (R1 11 0 (d + 1) G) (CVp S (pL S P 4 j) G)) (hR2 : ∀ G j, XJ S j 0 G → WP (R2 11 (d + 1) G) (CVp S (P j) G)) {j : Nat} (h : XJ S j 0 G) (b : bpt S j) : WP (gX4_partValue R1 R2 11 d G) (CVp S (pPs S P j) G) := by
  unfold gX4_partValue
  rw [rf_11_0, x_bpt h b, bp_s, if_neg (by decide), if_pos d5, iadd_id (by omega) (by omega)]
  refine w_bd (fun v2 e2 => ?_)
  rw [x_kin h] at e2
  refine w_bd (fun v3 e3 => ?_)
  refine w_bn (x_stp w h) (fun _ G4 q4 => ?_)
  have xf := xF_f q4.1
  unfold bpt at b
  refine w_ite (fun c => ?_) (fun c => ?_)
  · have k : yk S j = 3 := by omega
    rw [x_val h (Or.inl k)] at e3
    have ep : pPs S P j = (0, j + 1, [1 + 16 * yv S j]) := by unfold pPs; rw [if_pos k]
    rw [ep]
    refine w_rt ⟨q4.1, fun _ => ⟨q4.2, ?_⟩, fun z => absurd rfl z⟩
    rw [e3]; exact VL_num (yv_n k).1
  refine w_ite (fun c' => ?_) (fun c' => ?_)
  · have ep : pPs S P j = clR S (pL S P 4 (j + 1)) := by unfold pPs; rw [if_neg (by omega), if_pos (by omega)]
    rw [ep]
    refine w_bn (hR1 G4 _ q4.2) (fun v8 G9 q9 => ?_)
    refine w_bd (fun v10 e10 => ?_)
    generalize pL S P 4 (j + 1) = r at q9
    obtain ⟨f9, c0, c1⟩ := q9
    by_cases z : r.1 = 0
    · obtain ⟨xj, vl⟩ := c0 z
      refine w_tks (x_tks w xj) (fun v11 G12 q12 => w_rt ?_)
      rw [xf] at vl
      have f12 := (q4.1.tr f9).tr q12.1
      unfold clR
      rw [if_neg (fun y => y z)]
      rcases q12.2.2 rfl with ⟨a1, a2, -, a4⟩ | ⟨a1, -, a4⟩
      · rw [if_pos ⟨a1, a2⟩]
        exact ⟨f12, fun _ => ⟨a4, by rw [e10]; exact vl⟩, fun y => absurd rfl y⟩
      · rw [if_neg a1]
        have y := yp_r w (j := r.2.1)
        exact ⟨f12, fun q => by simp only at q; omega, fun _ => ⟨_, a4⟩⟩
    · obtain ⟨j', xj⟩ := c1 z
      refine w_tks (x_tks w xj) (fun v11 G12 q12 => w_rt ?_)
      unfold clR
      rw [if_pos z]
      exact ⟨(q4.1.tr f9).tr q12.1, fun y => absurd y z, fun _ => q12.2.1 z⟩
  have k : yk S j = 2 := by omega
  rw [(x_wix h k).1] at e3
  refine w_ite (fun c2 => ?_) (fun c2 => ?_)
  · have ep : pPs S P j = ((P (j + 1)).1, (P (j + 1)).2.1, (P (j + 1)).2.2 ++ [3]) := by unfold pPs; rw [if_neg (by omega), if_neg (by omega), if_pos (by omega)]
    rw [ep]
    refine w_bn (hR2 G4 _ q4.2) (fun v6 G7 q7 => ?_)
    obtain ⟨f7, c0, c1⟩ := q7
    have fin : ∀ v, v = (if v6 = 0 then 1 else 0) → CVp S ((P (j + 1)).1, (P (j + 1)).2.1, (P (j + 1)).2.2 ++ [3]) G v G7 := by
      intro v hv
      refine ⟨q4.1.tr f7, fun z => ?_, fun z => c1 z⟩
      obtain ⟨xj, vl⟩ := c0 z
      rw [xf] at vl
      exact ⟨xj, by rw [hv]; exact VL_not vl⟩
    exact w_ite (fun y => w_rt (fin 1 (by rw [if_pos y]))) (fun y => w_rt (fin 0 (by rw [if_neg y])))
  · have ep : pPs S P j = (0, j + 1, [2 + 16 * fix S j]) := by unfold pPs; rw [if_neg (by omega), if_neg (by omega), if_neg (by omega)]
    rw [ep, e3, x_fact (by omega), bp_s]
    refine w_rt ⟨q4.1, fun _ => ⟨q4.2, ?_⟩, fun z => absurd rfl z⟩
    rw [xf]; exact VL_fact fix_r.1
theorem x_part0 {R1 : Nat → Int → Int → Hp → RT} {R2 : Nat → Int → Hp → RT} {d : Int} (w : WTp S) (d0 : 0 ≤ d) {j k : Nat} (h : XJ S j 0 G) (b : ¬ bpt S j ∨ (k = 0 ∧ d = 5)) : WP (gX4_partValue R1 R2 11 d G) (CVp S (pP S k j) G) := by
  unfold gX4_partValue
  have y := yp_r w (j := j)
  rw [rf_11_0]
  by_cases c : bpt S j
  · obtain ⟨rfl, rfl⟩ : k = 0 ∧ d = 5 := by rcases b with b | b; exact absurd c b; exact b
    rw [x_bpt h c, bp_s, if_neg (by decide), if_neg (by decide), pP_0 c]
    refine w_bn (x_wrg0 w h (by decide) (by decide)) (fun v g q => w_rt ⟨q.2.1, fun z => by simp only at z; omega, fun _ => ⟨_, q.2.2⟩⟩)
  · rw [x_nbp h c, bp_s, if_pos rfl, pP_n c]
    refine w_bn (x_wrg0 w h (by decide) (by decide)) (fun v g q => w_rt ⟨q.2.1, fun z => by simp only at z; omega, fun _ => ⟨_, q.2.2⟩⟩)
theorem x_lev {P : Nat → LR} {d : Int} {f : Nat} (w : WTp S) (hP : ∀ G j, XJ S j 0 G → WP ((tie_cls f).2 11 d G) (CVp S (P j) G)) : ∀ m, m ≤ 4 → ∀ G j, XJ S j 0 G → WP ((tie_cls (f + 1 + m)).1 11 ((4 - m : Nat) : Int) d G) (CVp S (pL S P m j) G)
  | 0, _, G, j, h => by
    show WP (gX4_valueOf (tie_cls f).1 (tie_cls f).2 11 4 d G) _
    unfold gX4_valueOf
    rw [if_neg (by decide)]
    exact w_bn (hP G j h) (fun v g q => w_rt q)
  | m + 1, hm, G, j, h => by
    show WP (gX4_valueOf (tie_cls (f + 1 + m)).1 (tie_cls (f + 1 + m)).2 11 ((4 - (m + 1) : Nat) : Int) d G) _
    have e : 4 - (m + 1) = 3 - m := by omega
    rw [e, pL_s]
    refine x_valS w (by omega) (fun G j h => ?_) h
    rw [show 3 - m + 1 = 4 - m by omega]
    exact x_lev w hP m (by omega) G j h
theorem x_prt (w : WTp S) : ∀ k, k ≤ 5 → ∀ f, 6 * k + 1 ≤ f → ∀ G j, XJ S j 0 G → WP ((tie_cls f).2 11 ((5 - k : Nat) : Int) G) (CVp S (pP S k j) G)
  | 0, _, f, hf, G, j, h => by
    obtain ⟨f', rfl⟩ : ∃ f', f = f' + 1 := ⟨f - 1, by omega⟩
    exact x_part0 w (by omega) h (Or.inr ⟨rfl, rfl⟩)
  | k + 1, hk, f, hf, G, j, h => by
    obtain ⟨f', rfl⟩ : ∃ f', f = f' + 6 := ⟨f - 6, by omega⟩
    by_cases c : bpt S j
    · rw [pP_s c]
      have ed : (((5 - (k + 1) : Nat) : Int)) + 1 = ((5 - k : Nat) : Int) := by omega
      refine x_partS (R1 := (tie_cls (f' + 5)).1) (R2 := (tie_cls (f' + 5)).2) w (by omega) (by omega) (fun G j h => ?_) (fun G j h => ?_) h c
      · rw [ed]
        exact x_lev w (fun G j h => x_prt w k (by omega) f' (by omega) G j h) 4 (by omega) G j h
      · rw [ed]
        exact x_prt w k (by omega) (f' + 5) (by omega) G j h
    · exact x_part0 w (by omega) h (Or.inl c)
noncomputable def lawR (S : TS) (j : Nat) : LR := pL S (pP S 5) 4 j
theorem x_law (w : WTp S) {j : Nat} (h : XJ S j 0 G) : WP (fX4_valueOf 11 0 0 G) (CVp S (lawR S j) G) := by
  unfold fX4_valueOf lawR
  exact x_lev (f := 55) w (fun G j h => x_prt w 5 (by omega) 55 (by omega) G j h) 4 (by omega) G j h
end LAWX
