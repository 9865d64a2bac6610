/-! THE TAPE: the reference's cutting -/
section TOKC
variable {S : TS} {G : Hp}
noncomputable def tB (S : TS) : Nat → Nat
  | 0 => spE isB S 0
  | j + 1 => spE isB S (tEnd S (tB S j))
def rso (k : Int) : Int := if k = 0 then 0 else if k = 1 then 4 else k - 1
def MC (S : TS) (n : Nat) (G : Hp) : Prop := ∀ j, j < n → (tB S j : Int) < S.1 ∧ G 113 j = rso (tkd S (tB S j)) ∧ G 114 j = tB S j ∧ (tkd S (tB S j) ≠ 1 → G 115 j = rvl S (tB S j))
def MCE (S : TS) (n : Nat) (G : Hp) : Prop := MC S n G ∧ (tB S n : Int) = S.1 ∧ G 113 n = 0 ∧ G 114 n = S.1
def FCt (G G' : Hp) : Prop := (∀ c, c ≠ 111 → c ≠ 113 → c ≠ 114 → c ≠ 115 → G' c = G c) ∧ ∀ k, k ≠ 2 → k ≠ 3 → k ≠ 7 → k ≠ 8 → G' 111 k = G 111 k
theorem FCt.up {g : Hp} (h : FCt G g) {c k : Nat} {v : Int} (hc : c = 113 ∨ c = 114 ∨ c = 115 ∨ (c = 111 ∧ (k = 2 ∨ k = 3 ∨ k = 7 ∨ k = 8))) : FCt G (up g c k v) := by
  refine ⟨fun d h1 h2 h3 h4 => ?_, fun j a b c d => ?_⟩
  · rw [← h.1 d h1 h2 h3 h4]; funext j; rw [up_at, if_neg (by omega)]
  · rw [← h.2 j a b c d, up_at, if_neg (by omega)]
theorem FCt.rf (G : Hp) : FCt G G := ⟨fun _ _ _ _ _ => rfl, fun _ _ _ _ _ => rfl⟩
theorem lsub_id {a b : Int} (h1 : -9223372036854775808 ≤ a - b) (h2 : a - b ≤ 9223372036854775807) : lsub a b = a - b := w64_id ⟨h1, h2⟩
theorem val37 {i : Nat} : ∀ n : Nat, (∀ k : Nat, i ≤ k → k < i + n → isL (S.2 k)) → 0 ≤ val 37 lev S i n ∧ val 37 lev S i n < 37 ^ n
  | 0, _ => ⟨Int.le_refl 0, by show (0 : Int) < 37 ^ 0; decide⟩
  | n + 1, h => by
    have q := val37 n (fun k a b => h k a (by omega))
    have d := h (i + n) (by omega) (by omega)
    unfold isL at d
    rw [val_st, Int.pow_succ, show lev (S.2 (i + n)) = S.2 (i + n) - 96 from rfl]
    generalize (37 : Int) ^ n = z at *
    omega
theorem m_isLetter {v : Int} : fX12_isLetter v G = some (if 97 ≤ v ∧ v ≤ 122 then 1 else 0, G) := by
  unfold fX12_isLetter
  by_cases h1 : v < 97
  · rw [if_pos h1, if_neg (by omega)]; rfl
  · rw [if_neg h1]
    by_cases h2 : 122 < v
    · rw [if_pos h2, if_neg (by omega)]; rfl
    · rw [if_neg h2, if_pos (by omega)]; rfl
theorem m_isDigit {v : Int} : fX12_isDigit v G = some (if 48 ≤ v ∧ v ≤ 57 then 1 else 0, G) := by
  unfold fX12_isDigit
  by_cases h1 : v < 48
  · rw [if_pos h1, if_neg (by omega)]; rfl
  · rw [if_neg h1]
    by_cases h2 : 57 < v
    · rw [if_pos h2, if_neg (by omega)]; rfl
    · rw [if_neg h2, if_pos (by omega)]; rfl
theorem m_isSignOf {v : Int} : fX12_isSignOf v G = some (if isS v then 1 else 0, G) := by
  unfold fX12_isSignOf
  rw [jn_s]
  by_cases h : isS v
  · rw [if_pos h]
    rcases h with h | h | h | h | h | h | h | h <;> rw [h] <;> rfl
  · rw [if_neg h, if_neg (by omega), if_neg (by omega), if_neg (by omega), if_neg (by omega), if_neg (by omega), if_neg (by omega), if_neg (by omega), if_neg (by omega)]; rfl
theorem m_rank {v : Int} (h : 97 ≤ v ∧ v ≤ 122) : fX12_rank v G = some (v - 96, G) := by
  unfold fX12_rank
  rw [m_isLetter, if_pos h, bp_s, if_neg (by decide), isub_id (by omega) (by omega)]; rfl
theorem MC.fr {n : Nat} {G' : Hp} (h : MC S n G) (h1 : ∀ j, j < n → G' 113 j = G 113 j ∧ G' 114 j = G 114 j ∧ G' 115 j = G 115 j) : MC S n G' := by
  intro j hj
  obtain ⟨a, b, c⟩ := h1 j hj
  rw [a, b, c]; exact h j hj
theorem MC.st {n : Nat} {g : Hp} {kv vv : Int} (h : MC S n G) (hb : (tB S n : Int) < S.1) (e1 : g 113 n = rso (tkd S (tB S n))) (e2 : g 114 n = tB S n) (e3 : tkd S (tB S n) ≠ 1 → g 115 n = rvl S (tB S n)) (h1 : ∀ j, j < n → g 113 j = G 113 j ∧ g 114 j = G 114 j ∧ g 115 j = G 115 j) : MC S (n + 1) g := by
  intro j hj
  by_cases e : j = n
  · rw [e]; exact ⟨hb, e1, e2, e3⟩
  · exact (h.fr h1) j (by omega)
theorem m_cut (w : WTp S) (m : MTp S G) : WP (fX12_cutAll 111 G) (fun _ G' => FCt G G' ∧ G' 111 2 = 0 ∧ G' 111 7 = 0 ∧ G' 111 8 = 0 ∧ ∃ n : Nat, (n : Int) ≤ S.1 ∧ MCE S n G') := by
  unfold fX12_cutAll
  rw [rf_111_1, rf_111_4, rf_111_5, rf_111_6]
  have w1 := w.1
  have w2 := w.2.1
  refine w_bh (fun G1 e1 => ?_)
  refine w_bh (fun G2 e2 => ?_)
  refine w_bd (fun v3 e3 => ?_)
  refine w_bd (fun v4 e4 => ?_)
  have f2 : FCt G G2 := by rw [e2, e1]; exact ((FCt.rf G).up (by omega)).up (by omega)
  have a2 : G2 111 2 = 0 := by rw [e2, up_at, if_pos ⟨rfl, rfl⟩]
  have a3 : G2 111 3 = S.1 := by rw [e2, e1, up_at, if_neg (by omega), up_at, if_pos ⟨rfl, rfl⟩]; exact m.1
  refine w_lpIIH (fun v5 v6 g => ∃ n k : Nat, v5 = n ∧ v6 = k ∧ n ≤ k ∧ (k : Int) ≤ S.1 ∧ spE isB S k = tB S n ∧ FCt G g ∧ g 111 2 = 0 ∧ g 111 3 = S.1 ∧ MC S n g) (fun _ v6 _ => (S.1 - v6).toNat) (fun rc v5 v6 g hI hr => ?_) v3 v4 G2 ⟨0, 0, e3, e4, Nat.le_refl 0, by omega, rfl, f2, a2, a3, fun j hj => by omega⟩ (by omega)
  obtain ⟨n, k, hn, hk, nk, kl, sk, f, g2, g3, mc⟩ := hI
  have g12 : g 112 = G 112 := f.1 112 (by decide) (by decide) (by decide) (by decide)
  refine w_ite (fun c1 => ?_) (fun c1 => ?_)
  · rw [g3] at c1
    have kS : (k : Int) < S.1 := by omega
    refine w_rd (by omega) (by omega) (fun v13 e13 => ?_)
    rw [g12, hk, Int.toNat_natCast, m.2 k kS] at e13
    refine w_bd (fun v14 e14 => ?_)
    rw [e13] at e14
    refine w_jn ?_
    have bl : isB (S.2 k) → WP (bd (iadd v6 1) fun v16 => rc v5 v16 g) (fun _ G' => FCt G G' ∧ G' 111 2 = 0 ∧ G' 111 7 = 0 ∧ G' 111 8 = 0 ∧ ∃ n : Nat, (n : Int) ≤ S.1 ∧ MCE S n G') := by
      intro hB
      refine w_bd (fun v16 e16 => ?_)
      rw [iadd_id (by omega) (by omega)] at e16
      refine hr v5 v16 g ⟨n, k + 1, hn, by omega, by omega, by omega, ?_, f, g2, g3, mc⟩ (by omega)
      rw [← sk]
      exact (spE_eq (spE_is.st kS hB)).symm
    refine w_ite (fun c => bl (Or.inr (by omega))) (fun c => ?_)
    refine w_ite (fun c' => bl (Or.inl (by omega))) (fun c' => ?_)
    have eB : tB S n = k := by rw [← sk]; exact spE_eq (Spn.no (fun q => by have := q.2; unfold isB at this; omega))
    refine w_bd (fun v17 e17 => ?_)
    refine w_bd (fun v18 e18 => ?_)
    refine w_wr (by omega) (by omega) (fun G19 e19 => ?_)
    rw [hn, Int.toNat_natCast] at e19
    have f19 : FCt G G19 := by rw [e19]; exact f.up (by omega)
    have b3 : G19 111 3 = S.1 := by rw [e19, up_at, if_neg (by omega)]; exact g3
    have b12 : G19 112 = G 112 := f19.1 112 (by decide) (by decide) (by decide) (by decide)
    have te := tEnd_up (S := S) (b := k) kS
    rw [m_isLetter, bp_s]
    refine w_jn ?_
    have kk : ∀ (v21 vv kd : Int) (G23 : Hp), v21 = tEnd S k → (tkd S k ≠ 1 → vv = rvl S k) → kd = rso (tkd S k) → G23 = up G19 113 n kd → WP (bs (wr G23 115 1002 v5 vv) fun G25 => bd (iadd v5 1) fun v26 => rc v26 v21 G25) (fun _ G' => FCt G G' ∧ G' 111 2 = 0 ∧ G' 111 7 = 0 ∧ G' 111 8 = 0 ∧ ∃ n : Nat, (n : Int) ≤ S.1 ∧ MCE S n G') := by
      intro v21 vv kd G23 h21 hv hkd e23
      refine w_wr (by omega) (by omega) (fun G25 e25 => ?_)
      rw [hn, Int.toNat_natCast] at e25
      refine w_bd (fun v26 e26 => ?_)
      rw [iadd_id (by omega) (by omega)] at e26
      refine hr v26 v21 G25 ⟨n + 1, tEnd S k, by omega, h21, by omega, te.2, by rw [← eB]; rfl, ?_, ?_, ?_, ?_⟩ (by omega)
      · rw [e25, e23]; exact (f19.up (by omega)).up (by omega)
      · rw [e25, e23, e19, up_at, if_neg (by omega), up_at, if_neg (by omega), up_at, if_neg (by omega)]; exact g2
      · rw [e25, e23, up_at, if_neg (by omega), up_at, if_neg (by omega)]; exact b3
      · refine MC.st (kv := 0) (vv := 0) mc (by rw [eB]; exact kS) ?_ ?_ (fun z => ?_) (fun j hj => ?_)
        · rw [e25, e23, up_at, if_neg (by omega), up_at, if_pos ⟨rfl, rfl⟩, eB]; exact hkd
        · rw [e25, e23, e19, up_at, if_neg (by omega), up_at, if_neg (by omega), up_at, if_pos ⟨rfl, rfl⟩, eB]; exact hk
        · rw [e25, up_at, if_pos ⟨rfl, rfl⟩, eB]; rw [eB] at z; exact hv z
        · rw [e25, e23, e19]
          refine ⟨?_, ?_, ?_⟩
          · rw [up_at, if_neg (by omega), up_at, if_neg (by omega), up_at, if_neg (by omega)]
          · rw [up_at, if_neg (by omega), up_at, if_neg (by omega), up_at, if_neg (by omega)]
          · rw [up_at, if_neg (by omega), up_at, if_neg (by omega), up_at, if_neg (by omega)]
    by_cases hL : 97 ≤ v14 ∧ v14 ≤ 122
    · rw [if_pos hL, if_neg (by decide)]
      have hL' : 97 ≤ S.2 k ∧ S.2 k ≤ 122 := by rw [← e14]; exact hL
      refine w_lpII (fun v34 v35 => ∃ e : Nat, k ≤ e ∧ (e : Int) ≤ S.1 ∧ v34 = e ∧ (∀ i : Nat, k ≤ i → i < e → (i : Int) < S.1 ∧ isL (S.2 i)) ∧ ((e : Int) - k ≤ 8 → v35 = val 37 lev S k (e - k))) (fun v34 _ => (S.1 - v34).toNat) (fun rc2 v34 v35 hI hr2 => ?_) v6 v18 ⟨k, Nat.le_refl k, kl, hk, fun i a b => by omega, fun _ => by rw [Nat.sub_self]; exact e18⟩ (by omega)
      obtain ⟨e, ke, el, h34, al, h35⟩ := hI
      refine w_jn ?_
      have nd : ¬ ((e : Int) < S.1 ∧ isL (S.2 e)) → WP (jn (fun (v52 : Int) => bs (wr G19 113 1002 v5 v52) fun G54 => bs (wr G54 115 1002 v5 v35) fun G25 => bd (iadd v5 1) fun v26 => rc v26 v34 G25) fun (K53 : Int → RT) => if 8 < (isub v34 v17) then K53 4 else K53 1) (fun _ G' => FCt G G' ∧ G' 111 2 = 0 ∧ G' 111 7 = 0 ∧ G' 111 8 = 0 ∧ ∃ n : Nat, (n : Int) ≤ S.1 ∧ MCE S n G') := by
        intro hn'
        have ee := spE_eq (⟨ke, al, hn'⟩ : Spn isL S k e)
        have tE : tEnd S k = e := by unfold tEnd; rw [if_neg (by omega), if_pos hL', ee]
        have tk : tkd S k = (if 8 < (e : Int) - k then 1 else 2) := by unfold tkd; rw [if_neg (by omega), if_pos hL', ee]
        refine w_jn ?_
        rw [h34, e17, hk, isub_id (by omega) (by omega)]
        refine w_ite (fun c => ?_) (fun c => ?_)
        · rw [if_pos c] at tk
          refine w_wr (by omega) (by omega) (fun u q => ?_)
          rw [hn, Int.toNat_natCast] at q
          exact kk _ _ 4 _ (by rw [tE]) (fun z => absurd tk z) (by rw [tk]; rfl) q
        · rw [if_neg c] at tk
          refine w_wr (by omega) (by omega) (fun u q => ?_)
          rw [hn, Int.toNat_natCast] at q
          exact kk _ _ 1 _ (by rw [tE]) (fun z => by rw [h35 (by omega)]; unfold rvl; rw [if_pos hL', tE]) (by rw [tk]; rfl) q
      refine w_ite (fun d1 => ?_) (fun d1 => nd (by rw [b3] at d1; omega))
      rw [b3] at d1
      refine w_rd (by omega) (by omega) (fun v55 e55 => ?_)
      rw [b12, h34, Int.toNat_natCast, m.2 e (by omega)] at e55
      rw [m_isLetter, bp_s]
      by_cases hE : 97 ≤ v55 ∧ v55 ≤ 122
      · rw [if_pos hE, if_neg (by decide)]
        have hE' : isL (S.2 e) := by rw [← e55]; exact hE
        refine w_jn ?_
        have go : ∀ v57 : Int, ((e : Int) + 1 - k ≤ 8 → v57 = val 37 lev S k (e + 1 - k)) → WP (bd v57 fun v59 => bd (iadd v34 1) fun v60 => rc2 v60 v59) (fun _ G' => FCt G G' ∧ G' 111 2 = 0 ∧ G' 111 7 = 0 ∧ G' 111 8 = 0 ∧ ∃ n : Nat, (n : Int) ≤ S.1 ∧ MCE S n G') := by
          intro v57 h57
          refine w_bd (fun v59 e59 => ?_)
          refine w_bd (fun v60 e60 => ?_)
          rw [iadd_id (by omega) (by omega)] at e60
          refine hr2 v60 v59 ⟨e + 1, by omega, by omega, by omega, fun i a b => ?_, fun z => by rw [e59]; exact h57 (by omega)⟩ (by omega)
          by_cases q : i = e
          · rw [q]; exact ⟨by omega, hE'⟩
          · exact al i a (by omega)
        refine w_ite (fun c => ?_) (fun c => ?_)
        · rw [h34, e17, hk, isub_id (by omega) (by omega)] at c
          refine w_rd (by omega) (by omega) (fun v61 e61 => ?_)
          rw [b12, h34, Int.toNat_natCast, m.2 e (by omega), ← e55] at e61
          rw [e61, m_rank hE, bp_s]
          refine go _ (fun z => ?_)
          have vb := val37 (S := S) (i := k) (e - k) (fun i a c => (al i a (by omega)).2)
          have pw : (37 : Int) ^ (e - k) ≤ 94931877133 := by
            have : e - k ≤ 7 := by omega
            have h : (37 : Nat) ^ (e - k) ≤ 37 ^ 7 := Nat.pow_le_pow_right (by decide) this
            have h2 : (((37 : Nat) ^ (e - k) : Nat) : Int) ≤ ((37 ^ 7 : Nat) : Int) := Int.ofNat_le.mpr h
            rw [Int.natCast_pow] at h2
            exact h2
          rw [h35 (by omega), lmul_id (by omega) (by omega), ladd_id (by omega) (by omega)]
          rw [show e + 1 - k = (e - k) + 1 by omega, val_st, show k + (e - k) = e by omega]
          unfold lev; omega
        · rw [h34, e17, hk, isub_id (by omega) (by omega)] at c
          exact go _ (fun z => by omega)
      · rw [if_neg hE, if_pos rfl]
        exact nd (fun q => hE (by rw [e55]; exact q.2))
    · rw [if_neg hL, if_pos rfl, m_isDigit, bp_s]
      have hL' : ¬ (97 ≤ S.2 k ∧ S.2 k ≤ 122) := by rw [← e14]; exact hL
      by_cases hD : 48 ≤ v14 ∧ v14 ≤ 57
      · rw [if_pos hD, if_neg (by decide)]
        have hD' : 48 ≤ S.2 k ∧ S.2 k ≤ 57 := by rw [← e14]; exact hD
        refine w_lpII (fun v34 v35 => ∃ e : Nat, k ≤ e ∧ (e : Int) ≤ S.1 ∧ v34 = e ∧ (∀ i : Nat, k ≤ i → i < e → (i : Int) < S.1 ∧ isD (S.2 i)) ∧ ((e : Int) - k ≤ 4 → v35 = val 10 dgv S k (e - k))) (fun v34 _ => (S.1 - v34).toNat) (fun rc2 v34 v35 hI hr2 => ?_) v6 v18 ⟨k, Nat.le_refl k, kl, hk, fun i a b => by omega, fun _ => by rw [Nat.sub_self]; exact e18⟩ (by omega)
        obtain ⟨e, ke, el, h34, al, h35⟩ := hI
        refine w_jn ?_
        have nd : ¬ ((e : Int) < S.1 ∧ isD (S.2 e)) → WP (jn (fun (v52 : Int) => bs (wr G19 113 1002 v5 v52) fun G54 => bs (wr G54 115 1002 v5 v35) fun G25 => bd (iadd v5 1) fun v26 => rc v26 v34 G25) fun (K53 : Int → RT) => if 4 < (isub v34 v17) then K53 4 else K53 2) (fun _ G' => FCt G G' ∧ G' 111 2 = 0 ∧ G' 111 7 = 0 ∧ G' 111 8 = 0 ∧ ∃ n : Nat, (n : Int) ≤ S.1 ∧ MCE S n G') := by
          intro hn'
          have ee := spE_eq (⟨ke, al, hn'⟩ : Spn isD S k e)
          have tE : tEnd S k = e := by unfold tEnd; rw [if_neg (by omega), if_neg hL', if_pos hD', ee]
          have tk : tkd S k = (if 4 < (e : Int) - k then 1 else 3) := by unfold tkd; rw [if_neg (by omega), if_neg hL', if_pos hD', ee]
          refine w_jn ?_
          rw [h34, e17, hk, isub_id (by omega) (by omega)]
          refine w_ite (fun c => ?_) (fun c => ?_)
          · rw [if_pos c] at tk
            refine w_wr (by omega) (by omega) (fun u q => ?_)
            rw [hn, Int.toNat_natCast] at q
            exact kk _ _ 4 _ (by rw [tE]) (fun z => absurd tk z) (by rw [tk]; rfl) q
          · rw [if_neg c] at tk
            refine w_wr (by omega) (by omega) (fun u q => ?_)
            rw [hn, Int.toNat_natCast] at q
            exact kk _ _ 2 _ (by rw [tE]) (fun z => by rw [h35 (by omega)]; unfold rvl; rw [if_neg hL', if_pos hD', tE]) (by rw [tk]; rfl) q
        refine w_ite (fun d1 => ?_) (fun d1 => nd (by rw [b3] at d1; omega))
        rw [b3] at d1
        refine w_rd (by omega) (by omega) (fun v55 e55 => ?_)
        rw [b12, h34, Int.toNat_natCast, m.2 e (by omega)] at e55
        rw [m_isDigit, bp_s]
        by_cases hE : 48 ≤ v55 ∧ v55 ≤ 57
        · rw [if_pos hE, if_neg (by decide)]
          have hE' : isD (S.2 e) := by rw [← e55]; exact hE
          refine w_jn ?_
          have go : ∀ v57 : Int, ((e : Int) + 1 - k ≤ 4 → v57 = val 10 dgv S k (e + 1 - k)) → WP (bd v57 fun v59 => bd (iadd v34 1) fun v60 => rc2 v60 v59) (fun _ G' => FCt G G' ∧ G' 111 2 = 0 ∧ G' 111 7 = 0 ∧ G' 111 8 = 0 ∧ ∃ n : Nat, (n : Int) ≤ S.1 ∧ MCE S n G') := by
            intro v57 h57
            refine w_bd (fun v59 e59 => ?_)
            refine w_bd (fun v60 e60 => ?_)
            rw [iadd_id (by omega) (by omega)] at e60
            refine hr2 v60 v59 ⟨e + 1, by omega, by omega, by omega, fun i a b => ?_, fun z => by rw [e59]; exact h57 (by omega)⟩ (by omega)
            by_cases q : i = e
            · rw [q]; exact ⟨by omega, hE'⟩
            · exact al i a (by omega)
          refine w_ite (fun c => ?_) (fun c => ?_)
          · rw [h34, e17, hk, isub_id (by omega) (by omega)] at c
            refine w_rd (by omega) (by omega) (fun v61 e61 => ?_)
            rw [b12, h34, Int.toNat_natCast, m.2 e (by omega), ← e55] at e61
            rw [e61]
            refine go _ (fun z => ?_)
            have vb := val10 (S := S) (i := k) (e - k) (fun i a c => (al i a (by omega)).2) (by omega)
            have pw : (10 : Int) ^ (e - k) ≤ 10 ^ 3 := by
              have : e - k = 0 ∨ e - k = 1 ∨ e - k = 2 ∨ e - k = 3 := by omega
              rcases this with h | h | h | h <;> rw [h] <;> decide
            have p3 : (10 : Int) ^ 3 = 1000 := by decide
            rw [h35 (by omega), lmul_id (by omega) (by omega), ladd_id (by omega) (by omega), lsub_id (by omega) (by omega)]
            rw [show e + 1 - k = (e - k) + 1 by omega, val_st, show k + (e - k) = e by omega]
            unfold dgv; omega
          · rw [h34, e17, hk, isub_id (by omega) (by omega)] at c
            exact go _ (fun z => by omega)
        · rw [if_neg hE, if_pos rfl]
          exact nd (fun q => hE (by rw [e55]; exact q.2))
      · rw [if_neg hD, if_pos rfl]
        have hD' : ¬ (48 ≤ S.2 k ∧ S.2 k ≤ 57) := by rw [← e14]; exact hD
        refine w_bd (fun v28 e28 => ?_)
        rw [m_isSignOf, bp_s]
        refine w_jn ?_
        have tE : tEnd S k = k + 1 := by unfold tEnd; rw [if_neg (by omega), if_neg hL', if_neg hD']
        have tk : tkd S k = (if isS (S.2 k) then 4 else 1) := by unfold tkd; rw [if_neg (by omega), if_neg hL', if_neg hD']
        have rv : v28 = rvl S k := by unfold rvl; rw [if_neg hL', if_neg hD', e28, e14]
        by_cases hS : isS v14
        · rw [if_pos hS, if_neg (by decide)]
          rw [← e14, if_pos hS] at tk
          refine w_wr (by omega) (by omega) (fun u q => ?_)
          rw [hn, Int.toNat_natCast] at q
          refine w_bd (fun v33 e33 => ?_)
          rw [iadd_id (by omega) (by omega)] at e33
          exact kk _ _ 3 _ (by rw [tE]; omega) (fun _ => rv) (by rw [tk]; rfl) q
        · rw [if_neg hS, if_pos rfl]
          rw [← e14, if_neg hS] at tk
          refine w_wr (by omega) (by omega) (fun u q => ?_)
          rw [hn, Int.toNat_natCast] at q
          refine w_bd (fun v33 e33 => ?_)
          rw [iadd_id (by omega) (by omega)] at e33
          exact kk _ _ 4 _ (by rw [tE]; omega) (fun _ => rv) (by rw [tk]; rfl) q
  · rw [g3] at c1
    have eB : tB S n = k := by rw [← sk]; exact spE_eq (Spn.no (fun q => by omega))
    refine w_wr (by omega) (by omega) (fun u1 q1 => ?_)
    rw [hn, Int.toNat_natCast] at q1
    have z3 : u1 111 3 = S.1 := by rw [q1, up_at, if_neg (by omega)]; exact g3
    refine w_wr (by omega) (by omega) (fun u2 q2 => ?_)
    rw [hn, Int.toNat_natCast, z3] at q2
    refine w_bh (fun u3 q3 => ?_)
    refine w_bh (fun u4 q4 => w_rt ?_)
    refine ⟨?_, ?_, ?_, ?_, n, by omega, ?_, ?_, ?_, ?_⟩
    · rw [q4, q3, q2, q1]; exact (((f.up (by omega)).up (by omega)).up (by omega)).up (by omega)
    · rw [q4, q3, q2, q1, up_at, if_neg (by omega), up_at, if_neg (by omega), up_at, if_neg (by omega), up_at, if_neg (by omega)]; exact g2
    · rw [q4, q3, up_at, if_neg (by omega), up_at, if_pos ⟨rfl, rfl⟩]
    · rw [q4, up_at, if_pos ⟨rfl, rfl⟩]
    · refine mc.fr (fun j hj => ?_)
      rw [q4, q3, q2, q1]
      refine ⟨?_, ?_, ?_⟩ <;> rw [up_at, if_neg (by omega), up_at, if_neg (by omega), up_at, if_neg (by omega), up_at, if_neg (by omega)]
    · rw [eB]; omega
    · rw [q4, q3, q2, q1, up_at, if_neg (by omega), up_at, if_neg (by omega), up_at, if_neg (by omega), up_at, if_pos ⟨rfl, rfl⟩]
    · rw [q4, q3, q2, up_at, if_neg (by omega), up_at, if_neg (by omega), up_at, if_pos ⟨rfl, rfl⟩]
end TOKC
