/-! THE TAPE: the class's numbers -/
section TOKX
variable {S : TS} {G : Hp}
def FX1 (G G' : Hp) : Prop := (∀ c, c ≠ 1 → G' c = G c) ∧ ∀ k, k ≠ 2 → k ≠ 4 → k ≠ 5 → k ≠ 6 → k ≠ 7 → G' 1 k = G 1 k
theorem FX1.rf (G : Hp) : FX1 G G := ⟨fun _ _ => rfl, fun _ _ _ _ _ _ => rfl⟩
theorem FX1.up {g : Hp} (h : FX1 G g) {k : Nat} {v : Int} (hk : k = 2 ∨ k = 4 ∨ k = 5 ∨ k = 6 ∨ k = 7) : FX1 G (up g 1 k v) := by
  refine ⟨fun c hc => ?_, fun j a b c d e => ?_⟩
  · rw [← h.1 c hc]; funext j; rw [up_at, if_neg (by omega)]
  · rw [← h.2 j a b c d e, up_at, if_neg (by omega)]
theorem FX1.t {g : Hp} (h : FX1 G g) (x : XTp S G) : XTp S g := x.fr (h.2 3 (by decide) (by decide) (by decide) (by decide) (by decide)) (h.1 2 (by decide))
abbrev dgv (v : Int) : Int := v - 48
theorem val_st {b : Int} {d : Int → Int} {i n : Nat} : val b d S i (n + 1) = b * val b d S i n + d (S.2 (i + n)) := rfl
theorem val10 {i : Nat} : ∀ n : Nat, (∀ k : Nat, i ≤ k → k < i + n → isD (S.2 k)) → n ≤ 4 → 0 ≤ val 10 dgv S i n ∧ val 10 dgv S i n < 10 ^ n
  | 0, _, _ => ⟨Int.le_refl 0, by show (0 : Int) < 10 ^ 0; decide⟩
  | n + 1, h, hn => by
    have q := val10 n (fun k a b => h k a (by omega)) (by omega)
    have d := h (i + n) (by omega) (by omega)
    unfold isD at d
    rw [val_st, Int.pow_succ, show dgv (S.2 (i + n)) = S.2 (i + n) - 48 from rfl]
    generalize (10 : Int) ^ n = z at *
    omega
theorem x_num {b : Nat} (w : WTp S) (x : XTp S G) (hb : (b : Int) < S.1) (h2 : G 1 2 = b) (h5 : G 1 5 = b) (h6 : G 1 6 = 0) : WP (fX7_readNumber 1 G) (fun _ G' => FX1 G G' ∧ G' 1 5 = b ∧ ∃ e, Spn isD S b e ∧ G' 1 2 = e ∧ G' 1 4 = (if 4 < (e : Int) - b then 1 else 3) ∧ ((e : Int) - b ≤ 4 → G' 1 6 = val 10 dgv S b (e - b))) := by
  unfold fX7_readNumber
  rw [rf_1_0]
  have w1 := w.1
  have w2 := w.2.1
  refine w_lpH (fun g => FX1 G g ∧ g 1 5 = b ∧ ∃ j : Nat, b ≤ j ∧ (j : Int) ≤ S.1 ∧ g 1 2 = j ∧ (∀ k : Nat, b ≤ k → k < j → (k : Int) < S.1 ∧ isD (S.2 k)) ∧ ((j : Int) - b ≤ 4 → g 1 6 = val 10 dgv S b (j - b))) (fun g => (S.1 - g 1 2).toNat) (fun rc g hI hr => ?_) G ⟨FX1.rf G, h5, b, Nat.le_refl b, by omega, h2, fun k a c => by omega, fun _ => by rw [Nat.sub_self]; exact h6⟩ (by omega)
  obtain ⟨f, g5, j, hj, hl, g2, al, g6⟩ := hI
  have xg := f.t x
  have nd : ¬ ((j : Int) < S.1 ∧ isD (S.2 j)) → WP (if 4 < (isub (g 1 2) (g 1 5)) then (bh (up g 1 4 1) fun G4 => rt 0 G4) else (bh (up g 1 4 3) fun G5 => rt 0 G5)) (fun _ G' => FX1 G G' ∧ G' 1 5 = b ∧ ∃ e, Spn isD S b e ∧ G' 1 2 = e ∧ G' 1 4 = (if 4 < (e : Int) - b then 1 else 3) ∧ ((e : Int) - b ≤ 4 → G' 1 6 = val 10 dgv S b (e - b))) := by
    intro hn
    rw [g2, g5, isub_id (by omega) (by omega)]
    refine w_ite (fun c => ?_) (fun c => ?_)
    · refine w_bh (fun u e => w_rt ?_)
      subst e
      exact ⟨f.up (by omega), by rw [up_at, if_neg (by omega)]; exact g5, j, ⟨hj, al, hn⟩, by rw [up_at, if_neg (by omega)]; exact g2, by rw [up_at, if_pos ⟨rfl, rfl⟩, if_pos c], fun c' => by omega⟩
    · refine w_bh (fun u e => w_rt ?_)
      subst e
      exact ⟨f.up (by omega), by rw [up_at, if_neg (by omega)]; exact g5, j, ⟨hj, al, hn⟩, by rw [up_at, if_neg (by omega)]; exact g2, by rw [up_at, if_pos ⟨rfl, rfl⟩, if_neg c], fun c' => by rw [up_at, if_neg (by omega)]; exact g6 c'⟩
  refine w_jn ?_
  refine w_ite (fun c1 => ?_) (fun c1 => nd (by rw [g2, xg.1] at c1; omega))
  rw [g2, xg.1] at c1
  have sj : g 2 (g 1 2).toNat = S.2 j := by rw [g2, Int.toNat_natCast]; exact xg.2 j c1
  refine w_rd (by omega) (by omega) (fun v6 e6 => ?_)
  rw [sj] at e6
  refine w_ite (fun c2 => nd (fun q => by have := q.2.1; omega)) (fun c2 => ?_)
  refine w_rd (by omega) (by omega) (fun v7 e7 => ?_)
  rw [sj] at e7
  refine w_ite (fun c3 => nd (fun q => by have := q.2.2; omega)) (fun c3 => ?_)
  refine w_rd (by omega) (by omega) (fun v8 e8 => ?_)
  rw [sj] at e8
  have dj : isD (S.2 j) := ⟨by omega, by omega⟩
  refine w_bh (fun u1 q1 => ?_)
  refine w_bh (fun u2 q2 => ?_)
  have z2 : u1 1 2 = j := by rw [q1, up_at, if_neg (by omega)]; exact g2
  rw [z2, iadd_id (by omega) (by omega)] at q2
  have y2 : u2 1 2 = ((j + 1 : Nat) : Int) := by rw [q2, up_at, if_pos ⟨rfl, rfl⟩]; omega
  refine hr u2 ⟨?_, ?_, j + 1, by omega, by omega, y2, fun k a c => ?_, fun c => ?_⟩ (by omega)
  · rw [q2, q1]; exact (f.up (by omega)).up (by omega)
  · rw [q2, q1, up_at, if_neg (by omega), up_at, if_neg (by omega)]; exact g5
  · by_cases e : k = j
    · rw [e]; exact ⟨c1, dj⟩
    · exact al k a (by omega)
  · have vb := val10 (S := S) (i := b) (j - b) (fun k a c => (al k a (by omega)).2) (by omega)
    have pw : (10 : Int) ^ (j - b) ≤ 10 ^ 3 := by
      have : j - b = 0 ∨ j - b = 1 ∨ j - b = 2 ∨ j - b = 3 := by omega
      rcases this with h | h | h | h <;> rw [h] <;> decide
    have p3 : (10 : Int) ^ 3 = 1000 := by decide
    have d1 := dj.1
    have d2 := dj.2
    rw [q2, q1, up_at, if_neg (by omega), up_at, if_pos ⟨rfl, rfl⟩, g6 (by omega), e8]
    rw [isub_id (by omega) (by omega), imul_id (by omega) (by omega), iadd_id (by omega) (by omega)]
    rw [show j + 1 - b = (j - b) + 1 by omega, val_st, show b + (j - b) = j by omega]
    unfold dgv; omega
end TOKX
