/-! THE TAPE: tokens; the class's step -/
section TOKS
variable {S : TS} {G : Hp}
noncomputable def spE (p : Int → Prop) (S : TS) (i : Nat) : Nat := Classical.choose (Spn.ex p S S.1.toNat i (by omega))
theorem spE_is {p : Int → Prop} {i : Nat} : Spn p S i (spE p S i) := Classical.choose_spec (Spn.ex p S S.1.toNat i (by omega))
theorem spE_eq {p : Int → Prop} {i j : Nat} (h : Spn p S i j) : spE p S i = j := spE_is.un h
theorem Spn.le {p : Int → Prop} {i j : Nat} (h : Spn p S i j) (hi : (i : Int) ≤ S.1) : (j : Int) ≤ S.1 := by
  rcases Nat.lt_or_ge i j with c | c
  · have := (h.2.1 (j - 1) (by omega) (by omega)).1
    omega
  · have := h.1; omega
noncomputable def tEnd (S : TS) (b : Nat) : Nat := if S.1 ≤ (b : Int) then b else if 97 ≤ S.2 b ∧ S.2 b ≤ 122 then spE isL S b else if 48 ≤ S.2 b ∧ S.2 b ≤ 57 then spE isD S b else b + 1
noncomputable def tkd (S : TS) (b : Nat) : Int := if S.1 ≤ (b : Int) then 0 else if 97 ≤ S.2 b ∧ S.2 b ≤ 122 then (if 8 < (spE isL S b : Int) - b then 1 else 2) else if 48 ≤ S.2 b ∧ S.2 b ≤ 57 then (if 4 < (spE isD S b : Int) - b then 1 else 3) else if isS (S.2 b) then 4 else 1
noncomputable def rvl (S : TS) (b : Nat) : Int := if 97 ≤ S.2 b ∧ S.2 b ≤ 122 then val 37 lev S b (tEnd S b - b) else if 48 ≤ S.2 b ∧ S.2 b ≤ 57 then val 10 dgv S b (tEnd S b - b) else S.2 b
noncomputable def clt (S : TS) (b : Nat) : Int := val 32 lev S b (tEnd S b - b)
noncomputable def cwd (S : TS) (b : Nat) : Int := lastW W32 (clt S b) 25
def XB (S : TS) (b : Nat) (G : Hp) : Prop := G 1 5 = b ∧ G 1 2 = tEnd S b ∧ G 1 4 = tkd S b ∧ (tkd S b = 2 → G 1 6 = cwd S b ∧ G 1 7 = clt S b) ∧ (tkd S b = 3 ∨ tkd S b = 4 → G 1 6 = rvl S b)
theorem tEnd_up {b : Nat} (h : (b : Int) < S.1) : b < tEnd S b ∧ (tEnd S b : Int) ≤ S.1 := by
  unfold tEnd
  rw [if_neg (by omega)]
  split
  · rename_i c
    have q := spE_is (p := isL) (S := S) (i := b)
    have l := q.le (by omega)
    refine ⟨?_, l⟩
    rcases Nat.lt_or_ge b (spE isL S b) with d | d
    · exact d
    · have e : spE isL S b = b := by have := q.1; omega
      have z := q.2.2
      rw [e] at z
      exact absurd ⟨h, c⟩ z
  · split
    · rename_i c
      have q := spE_is (p := isD) (S := S) (i := b)
      have l := q.le (by omega)
      refine ⟨?_, l⟩
      rcases Nat.lt_or_ge b (spE isD S b) with d | d
      · exact d
      · have e : spE isD S b = b := by have := q.1; omega
        have z := q.2.2
        rw [e] at z
        exact absurd ⟨h, c⟩ z
    · omega
theorem tEnd_le {b : Nat} (h : (b : Int) ≤ S.1) : b ≤ tEnd S b ∧ (tEnd S b : Int) ≤ S.1 := by
  by_cases c : (b : Int) < S.1
  · have := tEnd_up c; omega
  · unfold tEnd; rw [if_pos (by omega)]; omega
theorem txt_all : ∀ v : Fin 127, (isS (v.val : Int) ↔ ∃ k : Fin 8, ((sByt.getD 1 []).getD k.val 0).toInt = (v.val : Int)) := by decide +kernel
theorem i2b_all : ∀ v : Fin 127, i2b (v.val : Int) = v.val := by decide +kernel
theorem x_idx {v : Int} (h1 : 0 ≤ v) (h2 : v ≤ 126) : WP (fJ0_indexOf_0f7a4 1 v G) (fun r _ => r < 0 ↔ ¬ isS v) := by
  have sl : ((sLen.getD 1 0 : Nat) : Int) = 8 := rfl
  have tx := txt_all ⟨v.toNat, by omega⟩
  have i2 := i2b_all ⟨v.toNat, by omega⟩
  simp only at tx i2
  rw [Int.toNat_of_nonneg h1] at tx i2
  have l0 : fJ0_length_8abf5 1 G = some (8, G) := by
    have c1 : fJ0_coder_7d493 1 G = some (0, G) := by unfold fJ0_coder_7d493; rw [if_neg (by decide)]; rfl
    unfold fJ0_length_8abf5
    rw [c1, bp_s, show ishr (((sLen.getD 1 0 : Nat) : Int)) 0 = 8 from by decide]; rfl
  have c0 : fJ0_isLatin1_aae02 1 G = some (1, G) := rfl
  have ch : WP (fJ1_indexOfChar_4cfef 1 v 0 8 G) (fun r _ => r < 0 ↔ ¬ isS v) := by
    unfold fJ1_indexOfChar_4cfef
    rw [i2]
    refine w_bd (fun v1 e1 => ?_)
    refine w_bd (fun v2 e2 => ?_)
    refine w_lpI (fun u => ∃ n : Nat, n ≤ 8 ∧ u = n ∧ ∀ k : Nat, k < n → ((sByt.getD 1 []).getD k 0).toInt ≠ v) (fun u => (8 - u).toNat) (fun rc u hI hr => ?_) v2 ⟨0, by omega, by omega, fun k hk => by omega⟩ (by omega)
    obtain ⟨n, hn, hu, hk⟩ := hI
    refine w_ite (fun c => ?_) (fun c => ?_)
    · refine w_rdS (by omega) (by rw [sl]; omega) (fun v5 e5 => ?_)
      have en : u.toNat = n := by omega
      rw [en] at e5
      refine w_ite (fun d => ?_) (fun d => ?_)
      · refine w_rt ⟨fun z => by omega, fun z => absurd (tx.mpr ⟨⟨n, by omega⟩, ?_⟩) z⟩
        rw [← e5, d, e1]
      · refine w_bd (fun v6 e6 => ?_)
        rw [iadd_id (by omega) (by omega)] at e6
        refine hr v6 ⟨n + 1, by omega, by omega, fun k kl => ?_⟩ (by omega)
        by_cases e : k = n
        · rw [e, ← e5, ← e1]; exact d
        · exact hk k (by omega)
    · obtain rfl : n = 8 := by omega
      refine w_rt ⟨fun _ z => ?_, fun _ => by omega⟩
      obtain ⟨k, ek⟩ := tx.mp z
      exact hk k.val k.isLt ek
  have en : fJ1_canEncode_9a6ad v G = some (1, G) := by
    unfold fJ1_canEncode_9a6ad
    rw [if_neg (by omega), if_neg (by omega)]; rfl
  have ix : WP (fJ1_indexOf_4cfef 1 v 0 8 G) (fun r _ => r < 0 ↔ ¬ isS v) := by
    unfold fJ1_indexOf_4cfef
    refine w_bp en (fun v1 e1 => ?_)
    refine w_ite (fun z => by omega) (fun _ => ?_)
    refine w_bd (fun v2 e2 => ?_)
    rw [if_neg (by decide)] at e2
    refine w_bd (fun v3 e3 => ?_)
    rw [sl, if_neg (by decide)] at e3
    refine w_ite (fun _ => ?_) (fun z => by omega)
    rw [e2, e3]
    refine w_bpq ch (fun u g q => ?_)
    exact w_rt q
  unfold fJ0_indexOf_0f7a4 fJ0_indexOf_7cf53
  refine w_bpq (Q' := fun r _ => r < 0 ↔ ¬ isS v) ?_ (fun u g q => w_rt q)
  refine w_bp c0 (fun v1 e1 => ?_)
  refine w_ite (fun z => by omega) (fun _ => ?_)
  refine w_bp l0 (fun v3 e3 => ?_)
  rw [e3]
  exact w_bpq ix (fun u g q => w_rt q)
theorem x_step {i : Nat} (w : WTp S) (x : XTp S G) (tb : XTb G) (h2 : G 1 2 = i) (hi : (i : Int) ≤ S.1) : WP (fX7_step 1 G) (fun _ G' => FX1 G G' ∧ XB S (spE isB S i) G') := by
  unfold fX7_step
  rw [rf_1_0]
  have w1 := w.1
  have w2 := w.2.1
  refine w_lpH (fun g => FX1 G g ∧ ∃ j : Nat, i ≤ j ∧ (j : Int) ≤ S.1 ∧ g 1 2 = j ∧ (∀ k : Nat, i ≤ k → k < j → (k : Int) < S.1 ∧ isB (S.2 k))) (fun g => (S.1 - g 1 2).toNat) (fun rc g hI hr => ?_) G ⟨FX1.rf G, i, Nat.le_refl i, hi, h2, fun k a c => by omega⟩ (by omega)
  obtain ⟨f, j, hj, hl, g2, al⟩ := hI
  have xg := f.t x
  have sj : (j : Int) < S.1 → g 2 (g 1 2).toNat = S.2 j := fun c => by rw [g2, Int.toNat_natCast]; exact xg.2 j c
  refine w_jn ?_
  refine w_ite (fun c1 => ?_) (fun c1 => ?_)
  · rw [g2, xg.1] at c1
    refine w_rd (by omega) (by omega) (fun v25 e25 => ?_)
    rw [sj c1] at e25
    refine w_jn ?_
    have go : isB (S.2 j) → WP (bh (up g 1 2 (iadd (g 1 2) 1)) fun G27 => rc G27) (fun _ G' => FX1 G G' ∧ XB S (spE isB S i) G') := by
      intro hB
      refine w_bh (fun u q => ?_)
      rw [g2, iadd_id (by omega) (by omega)] at q
      have y2 : u 1 2 = ((j + 1 : Nat) : Int) := by rw [q, up_at, if_pos ⟨rfl, rfl⟩]; omega
      refine hr u ⟨by rw [q]; exact f.up (by omega), j + 1, by omega, by omega, y2, fun k a c => ?_⟩ (by omega)
      by_cases e : k = j
      · rw [e]; exact ⟨c1, hB⟩
      · exact al k a (by omega)
    refine w_ite (fun c => go (Or.inl (by omega))) (fun c => ?_)
    refine w_rd (by omega) (by omega) (fun v28 e28 => ?_)
    rw [sj c1] at e28
    refine w_ite (fun c => go (Or.inr (by omega))) (fun c' => ?_)
    have nB : ¬ ((j : Int) < S.1 ∧ isB (S.2 j)) := fun q => by have := q.2; unfold isB at this; omega
    have eB : spE isB S i = j := spE_eq ⟨hj, al, nB⟩
    rw [eB]
    have ch := w.2.2 j c1
    refine w_bh (fun u1 q1 => ?_)
    refine w_bh (fun u2 q2 => ?_)
    have fu : FX1 G u2 := by rw [q2, q1]; exact (f.up (by omega)).up (by omega)
    have b2 : u2 1 2 = j := by rw [q2, q1, up_at, if_neg (by omega), up_at, if_neg (by omega)]; exact g2
    have b5 : u2 1 5 = j := by rw [q2, q1, up_at, if_neg (by omega), up_at, if_pos ⟨rfl, rfl⟩]; exact g2
    have b6 : u2 1 6 = 0 := by rw [q2, up_at, if_pos ⟨rfl, rfl⟩]
    have xu := fu.t x
    have su : u2 2 (u2 1 2).toNat = S.2 j := by rw [b2, Int.toNat_natCast]; exact xu.2 j c1
    refine w_ite (fun _ => ?_) (fun z => absurd c1 (by rw [b2, xu.1] at z; exact z))
    refine w_rd (by omega) (by omega) (fun v6 e6 => ?_)
    rw [su] at e6
    refine w_jn ?_
    have oth : ¬ (97 ≤ S.2 j ∧ S.2 j ≤ 122) → WP (br (rd u2 2 1000 (u2 1 2)) fun v8 => jn (br (rd u2 2 1000 (u2 1 2)) fun v10 => bh (up u2 1 6 v10) fun G11 => br (rd G11 2 1000 (G11 1 2)) fun v12 => bp (fJ0_indexOf_0f7a4 1 v12 G11) fun v13 => jn (fun (v14 : Int) => bh (up G11 1 4 v14) fun G16 => bh (up G16 1 2 (iadd (G16 1 2) 1)) fun G17 => rt 0 G17) fun (K15 : Int → RT) => if v13 < 0 then K15 1 else K15 4) fun (K9 : RT) => if v8 < 48 then K9 else (br (rd u2 2 1000 (u2 1 2)) fun v18 => if 57 < v18 then K9 else (bn (fX7_readNumber 1 u2) fun _ G19 => rt 0 G19))) (fun _ G' => FX1 G G' ∧ XB S j G') := by
      intro nL
      refine w_rd (by omega) (by omega) (fun v8 e8 => ?_)
      rw [su] at e8
      refine w_jn ?_
      have sg : ¬ (48 ≤ S.2 j ∧ S.2 j ≤ 57) → WP (br (rd u2 2 1000 (u2 1 2)) fun v10 => bh (up u2 1 6 v10) fun G11 => br (rd G11 2 1000 (G11 1 2)) fun v12 => bp (fJ0_indexOf_0f7a4 1 v12 G11) fun v13 => jn (fun (v14 : Int) => bh (up G11 1 4 v14) fun G16 => bh (up G16 1 2 (iadd (G16 1 2) 1)) fun G17 => rt 0 G17) fun (K15 : Int → RT) => if v13 < 0 then K15 1 else K15 4) (fun _ G' => FX1 G G' ∧ XB S j G') := by
        intro nD
        refine w_rd (by omega) (by omega) (fun v10 e10 => ?_)
        rw [su] at e10
        refine w_bh (fun u3 q3 => ?_)
        have c2 : u3 1 2 = j := by rw [q3, up_at, if_neg (by omega)]; exact b2
        have f3 : FX1 G u3 := by rw [q3]; exact fu.up (by omega)
        have s3 : u3 2 (u3 1 2).toNat = S.2 j := by rw [c2, Int.toNat_natCast]; exact (f3.t x).2 j c1
        refine w_rd (by omega) (by omega) (fun v12 e12 => ?_)
        rw [s3] at e12
        rw [e12]
        refine w_bpq (x_idx (by omega) (by omega)) (fun v13 g13 q13 => ?_)
        refine w_jn ?_
        have tE : tEnd S j = j + 1 := by unfold tEnd; rw [if_neg (by omega), if_neg nL, if_neg nD]
        have fin : ∀ kk : Int, kk = (if isS (S.2 j) then 4 else 1) → WP (bh (up u3 1 4 kk) fun G16 => bh (up G16 1 2 (iadd (G16 1 2) 1)) fun G17 => rt 0 G17) (fun _ G' => FX1 G G' ∧ XB S j G') := by
          intro kk hk
          have tk : tkd S j = kk := by unfold tkd; rw [if_neg (by omega), if_neg nL, if_neg nD, hk]
          refine w_bh (fun u4 q4 => ?_)
          refine w_bh (fun u5 q5 => w_rt ?_)
          have d2 : u4 1 2 = j := by rw [q4, up_at, if_neg (by omega)]; exact c2
          rw [d2, iadd_id (by omega) (by omega)] at q5
          refine ⟨by rw [q5, q4]; exact (f3.up (by omega)).up (by omega), ?_, ?_, ?_, fun z => ?_, fun z => ?_⟩
          · rw [q5, q4, q3, up_at, if_neg (by omega), up_at, if_neg (by omega), up_at, if_neg (by omega)]; exact b5
          · rw [q5, up_at, if_pos ⟨rfl, rfl⟩, tE]; omega
          · rw [q5, q4, up_at, if_neg (by omega), up_at, if_pos ⟨rfl, rfl⟩, tk]
          · rw [tk, hk] at z; split at z <;> omega
          · rw [q5, q4, q3, up_at, if_neg (by omega), up_at, if_neg (by omega), up_at, if_pos ⟨rfl, rfl⟩, e10]
            unfold rvl; rw [if_neg nL, if_neg nD]
        refine w_ite (fun c => fin 1 (by rw [if_neg (q13.mp c)])) (fun c => fin 4 ?_)
        by_cases z : isS (S.2 j)
        · rw [if_pos z]
        · exact absurd (q13.mpr z) c
      refine w_ite (fun c => sg (by omega)) (fun c => ?_)
      refine w_rd (by omega) (by omega) (fun v18 e18 => ?_)
      rw [su] at e18
      refine w_ite (fun c' => sg (by omega)) (fun c' => ?_)
      have hD : 48 ≤ S.2 j ∧ S.2 j ≤ 57 := ⟨by omega, by omega⟩
      refine w_bn (x_num w xu c1 b2 b5 b6) (fun _ g q => w_rt ?_)
      obtain ⟨fn, n5, e, sp, n2, n4, n6⟩ := q
      have ee := spE_eq sp
      have tE : tEnd S j = e := by unfold tEnd; rw [if_neg (by omega), if_neg nL, if_pos hD, ee]
      have tk : tkd S j = (if 4 < (e : Int) - j then 1 else 3) := by unfold tkd; rw [if_neg (by omega), if_neg nL, if_pos hD, ee]
      refine ⟨⟨fun c hc => (fn.1 c hc).trans (fu.1 c hc), fun k a b c d e => (fn.2 k a b c d e).trans (fu.2 k a b c d e)⟩, n5, by rw [n2, tE], by rw [n4, tk], fun z => ?_, fun z => ?_⟩
      · rw [tk] at z; split at z <;> omega
      · have l4 : (e : Int) - j ≤ 4 := by
          rw [tk] at z; split at z <;> omega
        rw [n6 l4]; unfold rvl; rw [if_neg nL, if_pos hD, tE]
    refine w_ite (fun c => oth (by omega)) (fun c => ?_)
    refine w_rd (by omega) (by omega) (fun v21 e21 => ?_)
    rw [su] at e21
    refine w_ite (fun c' => oth (by omega)) (fun c' => ?_)
    have hL : 97 ≤ S.2 j ∧ S.2 j ≤ 122 := ⟨by omega, by omega⟩
    have tbu : XTb u2 := fun k hk => by rw [fu.1 3 (by decide)]; exact tb k hk
    refine w_bn (x_word w xu tbu c1 b2 b5) (fun _ g q => w_rt ?_)
    obtain ⟨fn, n5, e, sp, n2, n4, n6⟩ := q
    have ee := spE_eq sp
    have tE : tEnd S j = e := by unfold tEnd; rw [if_neg (by omega), if_pos hL, ee]
    have tk : tkd S j = (if 8 < (e : Int) - j then 1 else 2) := by unfold tkd; rw [if_neg (by omega), if_pos hL, ee]
    refine ⟨⟨fun c hc => (fn.1 c hc).trans (fu.1 c hc), fun k a b c d e => (fn.2 k a b c d e).trans (fu.2 k a b c d e)⟩, n5, by rw [n2, tE], by rw [n4, tk], fun z => ?_, fun z => ?_⟩
    · have l4 : (e : Int) - j ≤ 8 := by
        rw [tk] at z; split at z <;> omega
      have r := n6 l4
      unfold cwd clt; rw [tE]; exact ⟨r.2, r.1⟩
    · rw [tk] at z; split at z <;> omega
  · rw [g2, xg.1] at c1
    have eB : spE isB S i = j := spE_eq ⟨hj, al, fun q => c1 q.1⟩
    rw [eB]
    refine w_bh (fun u1 q1 => ?_)
    refine w_bh (fun u2 q2 => ?_)
    have fu : FX1 G u2 := by rw [q2, q1]; exact (f.up (by omega)).up (by omega)
    have b2 : u2 1 2 = j := by rw [q2, q1, up_at, if_neg (by omega), up_at, if_neg (by omega)]; exact g2
    have b5 : u2 1 5 = j := by rw [q2, q1, up_at, if_neg (by omega), up_at, if_pos ⟨rfl, rfl⟩]; exact g2
    have xu := fu.t x
    refine w_ite (fun z => absurd z (by rw [b2, xu.1]; exact c1)) (fun _ => ?_)
    have tk : tkd S j = 0 := by unfold tkd; rw [if_pos (by omega)]
    refine w_bh (fun u3 q3 => w_rt ?_)
    refine ⟨by rw [q3]; exact fu.up (by omega), ?_, ?_, ?_, fun z => by omega, fun z => by omega⟩
    · rw [q3, up_at, if_neg (by omega)]; exact b5
    · rw [q3, up_at, if_neg (by omega), b2]; unfold tEnd; rw [if_pos (by omega)]
    · rw [q3, up_at, if_pos ⟨rfl, rfl⟩, tk]
end TOKS
