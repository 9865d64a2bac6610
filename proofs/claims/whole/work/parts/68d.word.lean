/-! THE TAPE: the class's words, and its step -/
section TOKV
variable {S : TS} {G : Hp}
def w32t : List Int := [110693765, 403060, 474245, 11449, 52, 402611, 2268462, 343342, 12748485, 197932, 664729, 6706792, 6456, 17076, 263620, 17171758, 20201044, 19737, 2500036, 14836, 1476, 498, 671108, 24388712, 15175859]
def w37t : List Int := [225815630, 620880, 729830, 15269, 57, 620361, 4011517, 527412, 22745385, 305632, 1025554, 11882262, 8571, 22701, 407115, 30596128, 36035504, 26332, 4369001, 19741, 1891, 573, 1034043, 43523367, 225815630, 27003729]
def W32 (i : Nat) : Int := w32t.getD i 0
def W37 (i : Nat) : Int := w37t.getD i 0
def XTb (G : Hp) : Prop := ∀ i : Nat, i < 25 → G 3 i = W32 i
def MTb (G : Hp) : Prop := ∀ i : Nat, i < 26 → G 116 i = W37 i
abbrev isS (v : Int) : Prop := v = 40 ∨ v = 41 ∨ v = 60 ∨ v = 61 ∨ v = 43 ∨ v = 45 ∨ v = 42 ∨ v = 59
theorem x_word {b : Nat} (w : WTp S) (x : XTp S G) (tb : XTb G) (hb : (b : Int) < S.1) (h2 : G 1 2 = b) (h5 : G 1 5 = b) : WP (fX7_readWord 1 G) (fun _ G' => FX1 G G' ∧ G' 1 5 = b ∧ ∃ e, Spn isL S b e ∧ G' 1 2 = e ∧ G' 1 4 = (if 8 < (e : Int) - b then 1 else 2) ∧ ((e : Int) - b ≤ 8 → G' 1 7 = val 32 lev S b (e - b) ∧ G' 1 6 = lastW W32 (val 32 lev S b (e - b)) 25)) := by
  unfold fX7_readWord
  rw [rf_1_0, rf_1_1]
  have w1 := w.1
  have w2 := w.2.1
  refine w_bh (fun G1 e1 => ?_)
  have f1 : FX1 G G1 := by rw [e1]; exact (FX1.rf G).up (by omega)
  have a2 : G1 1 2 = b := by rw [e1, up_at, if_neg (by omega)]; exact h2
  have a5 : G1 1 5 = b := by rw [e1, up_at, if_neg (by omega)]; exact h5
  have a7 : G1 1 7 = 0 := by rw [e1, up_at, if_pos ⟨rfl, rfl⟩]
  refine w_lpH (fun g => FX1 G g ∧ g 1 5 = b ∧ ∃ j : Nat, b ≤ j ∧ (j : Int) ≤ S.1 ∧ g 1 2 = j ∧ (∀ k : Nat, b ≤ k → k < j → (k : Int) < S.1 ∧ isL (S.2 k)) ∧ ((j : Int) - b ≤ 8 → g 1 7 = val 32 lev S b (j - b))) (fun g => (S.1 - g 1 2).toNat) (fun rc g hI hr => ?_) G1 ⟨f1, a5, b, Nat.le_refl b, by omega, a2, fun k a c => by omega, fun _ => by rw [Nat.sub_self]; exact a7⟩ (by omega)
  obtain ⟨f, g5, j, hj, hl, g2, al, g7⟩ := hI
  have xg := f.t x
  refine w_jn ?_
  have fin : ∀ kk : Int, kk = (if 8 < (j : Int) - b then 1 else 2) → ¬ ((j : Int) < S.1 ∧ isL (S.2 j)) → WP (bh (up g 1 4 kk) fun G7 => bh (up G7 1 6 ((-1))) fun G8 => bd 0 fun v9 => (lp (fun (_ : Int) (_ : Hp) => (none : RT)) 5000 (fun (rc12 : Int → Hp → RT) (v10 : Int) (G11 : Hp) => if v10 < 25 then (br (rd G11 3 25 v10) fun v13 => jn (fun (G14 : Hp) => bd (iadd v10 1) fun v16 => rc12 v16 G14) fun (K15 : Hp → RT) => if (lcmp' v13 (G11 1 7)) = 0 then (bh (up G11 1 6 v10) fun G17 => K15 G17) else K15 G11) else rt 0 G11)) v9 G8) (fun _ G' => FX1 G G' ∧ G' 1 5 = b ∧ ∃ e, Spn isL S b e ∧ G' 1 2 = e ∧ G' 1 4 = (if 8 < (e : Int) - b then 1 else 2) ∧ ((e : Int) - b ≤ 8 → G' 1 7 = val 32 lev S b (e - b) ∧ G' 1 6 = lastW W32 (val 32 lev S b (e - b)) 25)) := by
    intro kk hk hn
    refine w_bh (fun u1 q1 => ?_)
    refine w_bh (fun u2 q2 => ?_)
    refine w_bd (fun v9 e9 => ?_)
    subst e9
    have fu : FX1 G u2 := by rw [q2, q1]; exact (f.up (by omega)).up (by omega)
    have b2 : u2 1 2 = j := by rw [q2, q1, up_at, if_neg (by omega), up_at, if_neg (by omega)]; exact g2
    have b4 : u2 1 4 = kk := by rw [q2, q1, up_at, if_neg (by omega), up_at, if_pos ⟨rfl, rfl⟩]
    have b5 : u2 1 5 = b := by rw [q2, q1, up_at, if_neg (by omega), up_at, if_neg (by omega)]; exact g5
    have b6 : u2 1 6 = -1 := by rw [q2, up_at, if_pos ⟨rfl, rfl⟩]
    have b7 : u2 1 7 = g 1 7 := by rw [q2, q1, up_at, if_neg (by omega), up_at, if_neg (by omega)]
    refine w_lpIH (fun v h => ∃ n : Nat, n ≤ 25 ∧ v = n ∧ FX1 G h ∧ h 1 2 = j ∧ h 1 4 = kk ∧ h 1 5 = b ∧ h 1 7 = g 1 7 ∧ h 1 6 = lastW W32 (g 1 7) n) (fun v _ => (25 - v).toNat) (fun rc2 v h hI hr2 => ?_) 0 u2 ⟨0, by omega, rfl, fu, b2, b4, b5, b7, b6⟩ (by decide)
    obtain ⟨n, hn25, hv, fh, c2, c4, c5, c7, c6⟩ := hI
    refine w_ite (fun c => ?_) (fun c => ?_)
    · refine w_rd (by omega) (by omega) (fun v13 e13 => ?_)
      have t3 : v13 = W32 n := by rw [e13, fh.1 3 (by decide), hv, Int.toNat_natCast]; exact tb n (by omega)
      refine w_jn ?_
      refine w_ite (fun d => ?_) (fun d => ?_)
      · rw [lcmp_z, c7, t3] at d
        refine w_bh (fun u q => ?_)
        refine w_bd (fun v16 e16 => ?_)
        rw [iadd_id (by omega) (by omega)] at e16
        refine hr2 v16 u ⟨n + 1, by omega, by omega, by rw [q]; exact fh.up (by omega), ?_, ?_, ?_, ?_, ?_⟩ (by omega)
        · rw [q, up_at, if_neg (by omega)]; exact c2
        · rw [q, up_at, if_neg (by omega)]; exact c4
        · rw [q, up_at, if_neg (by omega)]; exact c5
        · rw [q, up_at, if_neg (by omega)]; exact c7
        · rw [q, up_at, if_pos ⟨rfl, rfl⟩]; unfold lastW; rw [if_pos d]; exact hv
      · rw [lcmp_z, c7, t3] at d
        refine w_bd (fun v16 e16 => ?_)
        rw [iadd_id (by omega) (by omega)] at e16
        refine hr2 v16 h ⟨n + 1, by omega, by omega, fh, c2, c4, c5, c7, ?_⟩ (by omega)
        unfold lastW; rw [if_neg d]; exact c6
    · obtain rfl : n = 25 := by omega
      refine w_rt ⟨fh, c5, j, ⟨hj, al, hn⟩, c2, by rw [c4]; exact hk, fun z => ?_⟩
      rw [c7, c6, g7 z]; exact ⟨rfl, rfl⟩
  have nd : ¬ ((j : Int) < S.1 ∧ isL (S.2 j)) → WP (jn (fun (v5 : Int) => bh (up g 1 4 v5) fun G7 => bh (up G7 1 6 ((-1))) fun G8 => bd 0 fun v9 => (lp (fun (_ : Int) (_ : Hp) => (none : RT)) 5000 (fun (rc12 : Int → Hp → RT) (v10 : Int) (G11 : Hp) => if v10 < 25 then (br (rd G11 3 25 v10) fun v13 => jn (fun (G14 : Hp) => bd (iadd v10 1) fun v16 => rc12 v16 G14) fun (K15 : Hp → RT) => if (lcmp' v13 (G11 1 7)) = 0 then (bh (up G11 1 6 v10) fun G17 => K15 G17) else K15 G11) else rt 0 G11)) v9 G8) fun (K6 : Int → RT) => if 8 < (isub (g 1 2) (g 1 5)) then K6 1 else K6 2) (fun _ G' => FX1 G G' ∧ G' 1 5 = b ∧ ∃ e, Spn isL S b e ∧ G' 1 2 = e ∧ G' 1 4 = (if 8 < (e : Int) - b then 1 else 2) ∧ ((e : Int) - b ≤ 8 → G' 1 7 = val 32 lev S b (e - b) ∧ G' 1 6 = lastW W32 (val 32 lev S b (e - b)) 25)) := by
    intro hn
    refine w_jn ?_
    rw [g2, g5, isub_id (by omega) (by omega)]
    refine w_ite (fun c => fin 1 (by rw [if_pos c]) hn) (fun c => fin 2 (by rw [if_neg c]) hn)
  refine w_ite (fun c1 => ?_) (fun c1 => nd (by rw [g2, xg.1] at c1; omega))
  rw [g2, xg.1] at c1
  have sj : g 2 (g 1 2).toNat = S.2 j := by rw [g2, Int.toNat_natCast]; exact xg.2 j c1
  refine w_rd (by omega) (by omega) (fun v6 e6 => ?_)
  rw [sj] at e6
  refine w_ite (fun c2 => nd (fun q => by have := q.2.1; omega)) (fun c2 => ?_)
  refine w_rd (by omega) (by omega) (fun v7 e7 => ?_)
  rw [sj] at e7
  refine w_ite (fun c3 => nd (fun q => by have := q.2.2; omega)) (fun c3 => ?_)
  refine w_rd (by omega) (by omega) (fun v8 e8 => ?_)
  rw [sj] at e8
  have dj : isL (S.2 j) := ⟨by omega, by omega⟩
  refine w_bh (fun u1 q1 => ?_)
  refine w_bh (fun u2 q2 => ?_)
  have z2 : u1 1 2 = j := by rw [q1, up_at, if_neg (by omega)]; exact g2
  rw [z2, iadd_id (by omega) (by omega)] at q2
  have y2 : u2 1 2 = ((j + 1 : Nat) : Int) := by rw [q2, up_at, if_pos ⟨rfl, rfl⟩]; omega
  refine hr u2 ⟨?_, ?_, j + 1, by omega, by omega, y2, fun k a c => ?_, fun c => ?_⟩ (by omega)
  · rw [q2, q1]; exact (f.up (by omega)).up (by omega)
  · rw [q2, q1, up_at, if_neg (by omega), up_at, if_neg (by omega)]; exact g5
  · by_cases e : k = j
    · rw [e]; exact ⟨c1, dj⟩
    · exact al k a (by omega)
  · have vb := val32 (S := S) (i := b) (j - b) (fun k a c => (al k a (by omega)).2)
    have pw : (32 : Int) ^ (j - b) ≤ 34359738368 := by
      have : j - b ≤ 7 := by omega
      have h : (32 : Nat) ^ (j - b) ≤ 32 ^ 7 := Nat.pow_le_pow_right (by decide) this
      have h2 : (((32 : Nat) ^ (j - b) : Nat) : Int) ≤ ((32 ^ 7 : Nat) : Int) := Int.ofNat_le.mpr h
      rw [Int.natCast_pow] at h2
      exact h2
    have d1 := dj.1
    have d2 := dj.2
    rw [q2, q1, up_at, if_neg (by omega), up_at, if_pos ⟨rfl, rfl⟩, g7 (by omega), e8]
    rw [isub_id (by omega) (by omega), iadd_id (by omega) (by omega), lmul_id (by omega) (by omega), ladd_id (by omega) (by omega)]
    rw [show j + 1 - b = (j - b) + 1 by omega, val_st, show b + (j - b) = j by omega]
    unfold lev; omega
end TOKV
