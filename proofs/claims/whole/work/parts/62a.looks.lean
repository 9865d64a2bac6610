/-! LOOKS: the least of some -/
section LOO
variable {b : Nat} {a : AS} {G : Hp} {T : TT}
def amS (v : Int) (f : Int → Int) : Nat → Int × Int
  | 0 => (-1, 0)
  | i + 1 => if bt v i = 1 ∧ ((amS v f i).1 = -1 ∨ f i < (amS v f i).2) then ((i : Int), f i) else amS v f i
def AM (v : Int) (f : Int → Int) (m o : Int) : Prop := (o = -1 ∧ ∀ n : Int, 0 ≤ n → n < m → bt v n.toNat ≠ 1) ∨ (0 ≤ o ∧ o < m ∧ bt v o.toNat = 1 ∧ ∀ n : Int, 0 ≤ n → n < m → bt v n.toNat = 1 → f o ≤ f n)
theorem amS_J (v : Int) (f : Int → Int) : ∀ i : Nat, ((amS v f i).1 = -1 ∧ ∀ n : Int, 0 ≤ n → n < i → bt v n.toNat ≠ 1) ∨ (0 ≤ (amS v f i).1 ∧ (amS v f i).1 < i ∧ bt v (amS v f i).1.toNat = 1 ∧ (amS v f i).2 = f (amS v f i).1 ∧ ∀ n : Int, 0 ≤ n → n < i → bt v n.toNat = 1 → f (amS v f i).1 ≤ f n)
  | 0 => Or.inl ⟨rfl, fun n h1 h2 => by omega⟩
  | i + 1 => by
    have ih := amS_J v f i
    rw [amS]
    split
    · rename_i c
      right
      refine ⟨by show (0 : Int) ≤ (i : Int); omega, by show (i : Int) < ((i + 1 : Nat) : Int); omega, by show bt v ((i : Int)).toNat = 1; rw [Int.toNat_natCast]; exact c.1, rfl, fun n h1 h2 h3 => ?_⟩
      show f i ≤ f n
      by_cases e : n = i
      · rw [e]; exact Int.le_refl _
      · rcases ih with q | q
        · exact absurd h3 (q.2 n h1 (by omega))
        · rcases c.2 with d | d
          · omega
          · have := q.2.2.2.2 n h1 (by omega) h3
            have := q.2.2.2.1
            omega
    · rename_i c
      rcases ih with q | q
      · left
        refine ⟨q.1, fun n h1 h2 h3 => ?_⟩
        by_cases e : n = i
        · rw [e, Int.toNat_natCast] at h3; exact c ⟨h3, Or.inl q.1⟩
        · exact q.2 n h1 (by omega) h3
      · right
        refine ⟨q.1, by omega, q.2.2.1, q.2.2.2.1, fun n h1 h2 h3 => ?_⟩
        by_cases e : n = i
        · rw [e, Int.toNat_natCast] at h3
          have : ¬ f i < (amS v f i).2 := fun z => c ⟨h3, Or.inr z⟩
          have := q.2.2.2.1
          rw [e]; omega
        · exact q.2.2.2.2 n h1 (by omega) h3
theorem amS_AM (v : Int) (f : Int → Int) (i : Nat) : AM v f i (amS v f i).1 := by
  rcases amS_J v f i with q | q
  · exact Or.inl q
  · exact Or.inr ⟨q.1, q.2.1, q.2.2.1, q.2.2.2.2⟩
theorem AM_uniq {v m o o' : Int} {f : Int → Int} (h : AM v f m o) (h' : AM v f m o') (inj : ∀ n n' : Int, 0 ≤ n → n < m → 0 ≤ n' → n' < m → bt v n.toNat = 1 → bt v n'.toNat = 1 → f n = f n' → n = n') : o = o' := by
  rcases h with h | h
  · rcases h' with k | k
    · rw [h.1, k.1]
    · exact absurd k.2.2.1 (h.2 o' k.1 k.2.1)
  · rcases h' with k | k
    · exact absurd h.2.2.1 (k.2 o h.1 h.2.1)
    · have := h.2.2.2 o' k.1 k.2.1 k.2.2.1
      have := k.2.2.2 o h.1 h.2.1 h.2.2.1
      exact inj o o' h.1 h.2.1 k.1 k.2.1 h.2.2.1 k.2.2.1 (by omega)
/-- how far on, from a place -/
def onw (T : TT) (p n : Int) : Int := if p ≤ tp T n then tp T n - p else tp T n - p + tC T
def own (T : TT) (v p : Int) : Int := (amS v (onw T p) 8).1
def inN (T : TT) (v : Int) : Prop := 0 ≤ v ∧ v < 256 ∧ ∀ n : Int, 0 ≤ n → n < 8 → bt v n.toNat = 1 → n < tN T
theorem WA.iN (hw : WA T a) : inN T a.1 := ⟨hw.1.1, hw.1.2, fun n h1 h2 h => hw.2.1 n (by rw [isi_bt h1 h2]; exact h)⟩
theorem onw_inj (w : WT T) {p n m : Int} (h1 : 0 ≤ n) (h2 : n < tN T) (h3 : 0 ≤ m) (h4 : m < tN T) (hp : 0 ≤ p) (hp2 : p ≤ tC T) (h : onw T p n = onw T p m) : n = m := by
  have := w.pl h1 h2
  have := w.pl h3 h4
  refine w.2.2.2.2.2.1 n m h1 h2 h3 h4 ?_
  unfold onw at h
  split at h <;> split at h <;> omega
theorem own_is (w : WT T) {v p o : Int} (hv : inN T v) (hp : 0 ≤ p) (hp2 : p ≤ tC T) (h : AM v (onw T p) 8 o) : o = own T v p :=
  AM_uniq h (amS_AM v (onw T p) 8) (fun n n' h1 h2 h3 h4 b1 b2 e => onw_inj w h1 (hv.2.2 n h1 h2 b1) h3 (hv.2.2 n' h3 h4 b2) hp hp2 e)
theorem own_r (T : TT) (v p : Int) : own T v p = -1 ∨ (0 ≤ own T v p ∧ own T v p < 8 ∧ bt v (own T v p).toNat = 1) := by
  rcases amS_AM v (onw T p) 8 with h | h
  · exact Or.inl h.1
  · exact Or.inr ⟨h.1, h.2.1, h.2.2.1⟩
theorem own_s {v p i : Int} (h : 0 ≤ i) : amS v (onw T p) (i + 1).toNat = if bt v i.toNat = 1 ∧ ((amS v (onw T p) i.toNat).1 = -1 ∨ onw T p i < (amS v (onw T p) i.toNat).2) then (i, onw T p i) else amS v (onw T p) i.toNat := by
  rw [toN1 h, amS]; simp only [Int.toNat_of_nonneg h]
theorem x_has {v i : Int} (h1 : 0 ≤ v) (h2 : v < 1024) (h3 : 0 ≤ i) (h4 : i < 10) : fX2_has v i G = some (bt v i.toNat, G) := by
  unfold fX2_has; rw [bit_is h1 h2 h3 h4]
  rcases bt_01 v i.toNat with q | q <;> rw [q] <;> rfl
theorem x_ownerOf (w : WT T) (hT_G : XT T G) {p v : Int} (hv : inN T v) (hp : 0 ≤ p ∧ p ≤ 1000) : fX2_ownerOf 33 p v G = some (own T v p, G) := by
  have wr := w.rg
  obtain ⟨hv0, hv1, hn⟩ := hv
  unfold fX2_ownerOf
  simp only [rf_4_5, rf_33_0]
  refine WP_eq ?_
  refine w_bd (fun v1 hv1 => ?_)
  refine w_bd (fun v2 hv2 => ?_)
  refine w_bd (fun v3 hv3 => ?_)
  refine w_lpIII (fun (v4 : Int) (v5 : Int) (v6 : Int) => (0 ≤ v6) ∧ (v6 ≤ 8) ∧ (v4 = (amS v (onw T p) v6.toNat).1) ∧ (v5 = (amS v (onw T p) v6.toNat).2)) (fun (v4 : Int) (v5 : Int) (v6 : Int) => (8 - v6).toNat) (fun rc7 v4 v5 v6 hI hrc7 => ?_) _ _ _ ?_ ?_
  · skip
    obtain ⟨i0, i1, e1, e2⟩ := hI
    refine w_ite (fun c_1 => ?_) (fun c_1 => ?_)
    · skip
      refine w_bp (x_has (by omega) (by omega) (by omega) (by omega)) (fun v8 hv8 => ?_)
      have q8 := bt_01 v v6.toNat
      have q8n := hn v6 (by omega) (by omega)
      refine w_jn ?_
      refine w_ite (fun c_2 => ?_) (fun c_2 => ?_)
      · skip
        refine w_bd (fun v12 hv12 => ?_)
        simp (disch := omega) only [iadd_id, isub_id, imul_id] at hv12
        refine hrc7 _ _ _ ?_ ?_
        · try dsimp only
          refine ⟨?_, ?_, ?_, ?_⟩
          · first | omega | grind
          · first | omega | grind
          · rw [hv12, own_s i0]; first | (rw [if_pos (by omega)]; omega) | (rw [if_neg (by omega)]; exact e1)
          · rw [hv12, own_s i0]; first | (rw [if_pos (by omega)]; omega) | (rw [if_neg (by omega)]; exact e2)
        · try dsimp only
          omega
      · skip
        refine w_rdv (x_place hT_G w (by omega) (by omega)) (fun v13 hv13 => ?_)
        have qv13 := w.pl (i := v6) (by omega) (by omega)
        refine w_bp (x_onward hT_G w ⟨by omega, by omega⟩ ⟨by omega, by omega⟩) (fun v14 hv14 => ?_)
        have e14 : v14 = onw T p v6 := by rw [hv14, hv13]; rfl
        refine w_bd (fun v15 hv15 => ?_)
        refine w_jn ?_
        refine w_ite (fun c_3 => ?_) (fun c_3 => ?_)
        · skip
          refine w_bd (fun v17 hv17 => ?_)
          refine w_bd (fun v18 hv18 => ?_)
          refine w_bd (fun v12 hv12 => ?_)
          simp (disch := omega) only [iadd_id, isub_id, imul_id] at hv12
          refine hrc7 _ _ _ ?_ ?_
          · try dsimp only
            refine ⟨?_, ?_, ?_, ?_⟩
            · first | omega | grind
            · first | omega | grind
            · rw [hv12, own_s i0]; first | (rw [if_pos (by omega)]; omega) | (rw [if_neg (by omega)]; exact e1)
            · rw [hv12, own_s i0]; first | (rw [if_pos (by omega)]; omega) | (rw [if_neg (by omega)]; exact e2)
          · try dsimp only
            omega
        · skip
          refine w_ite (fun c_4 => ?_) (fun c_4 => ?_)
          · skip
            refine w_bd (fun v17 hv17 => ?_)
            refine w_bd (fun v18 hv18 => ?_)
            refine w_bd (fun v12 hv12 => ?_)
            simp (disch := omega) only [iadd_id, isub_id, imul_id] at hv12
            refine hrc7 _ _ _ ?_ ?_
            · try dsimp only
              refine ⟨?_, ?_, ?_, ?_⟩
              · first | omega | grind
              · first | omega | grind
              · rw [hv12, own_s i0]; first | (rw [if_pos (by omega)]; omega) | (rw [if_neg (by omega)]; exact e1)
              · rw [hv12, own_s i0]; first | (rw [if_pos (by omega)]; omega) | (rw [if_neg (by omega)]; exact e2)
            · try dsimp only
              omega
          · skip
            refine w_bd (fun v12 hv12 => ?_)
            simp (disch := omega) only [iadd_id, isub_id, imul_id] at hv12
            refine hrc7 _ _ _ ?_ ?_
            · try dsimp only
              refine ⟨?_, ?_, ?_, ?_⟩
              · first | omega | grind
              · first | omega | grind
              · rw [hv12, own_s i0]; first | (rw [if_pos (by omega)]; omega) | (rw [if_neg (by omega)]; exact e1)
              · rw [hv12, own_s i0]; first | (rw [if_pos (by omega)]; omega) | (rw [if_neg (by omega)]; exact e2)
            · try dsimp only
              omega
    · skip
      refine w_rt ?_
      refine ⟨?_, rfl⟩
      rw [e1, show v6.toNat = 8 by omega]; rfl
  · try dsimp only
    refine ⟨?_, ?_, ?_, ?_⟩
    · first | omega | (subst_vars; first | rfl | assumption) | assumption
    · first | omega | (subst_vars; first | rfl | assumption) | assumption
    · first | omega | (subst_vars; first | rfl | assumption) | assumption
    · first | omega | (subst_vars; first | rfl | assumption) | assumption
  · try dsimp only
    omega

theorem m_inAt (w : WT T) (hb : b ≤ 3410) (hR_G : MR b a G) (hM_G : MT T G) {p : Int} (hp : 0 ≤ p ∧ p ≤ 2000) (hC : 0 < tC T) : WP (fX12_inAt 111 b p G) (fun r G' => G' = G ∧ ((r = -1 ∧ ∀ n : Int, 0 ≤ n → n < tN T → isi a n = 1 → tp T n ≠ p % tC T) ∨ (0 ≤ r ∧ r < tN T ∧ isi a r = 1 ∧ tp T r = p % tC T))) := by
  have wr := w.rg
  have er : irem p (tC T) = p % tC T := irem_is hp.1 hp.2 hC (by omega)
  have em1 := Int.emod_nonneg p (show tC T ≠ 0 by omega)
  have em2 := Int.emod_lt_of_pos p hC
  unfold fX12_inAt
  refine w_bd (fun v1 hv1 => ?_)
  refine w_bd (fun v2 hv2 => ?_)
  refine w_lpII (fun (v3 : Int) (v4 : Int) => (0 ≤ v4) ∧ (v4 ≤ tN T) ∧ ((v3 = -1 ∧ ∀ n : Int, 0 ≤ n → n < v4 → isi a n = 1 → tp T n ≠ p % tC T) ∨ (0 ≤ v3 ∧ v3 < tN T ∧ isi a v3 = 1 ∧ tp T v3 = p % tC T))) (fun (v3 : Int) (v4 : Int) => (8 - v4).toNat) (fun rc5 v3 v4 hI hrc5 => ?_) _ _ ?_ ?_
  · skip
    obtain ⟨i0, i1, e⟩ := hI
    refine w_bp (m_nodes hM_G) (fun v6 hv6 => ?_)
    refine w_ite (fun c_1 => ?_) (fun c_1 => ?_)
    · skip
      refine w_bp (m_isIn (b := b) hR_G (by omega) (by omega)) (fun v7 hv7 => ?_)
      have q7 := isi_01 a v4
      refine w_jn ?_
      refine w_jn ?_
      refine w_ite (fun c_2 => ?_) (fun c_2 => ?_)
      · skip
        refine w_bd (fun v10 hv10 => ?_)
        refine w_bd (fun v11 hv11 => ?_)
        simp (disch := omega) only [iadd_id, isub_id, imul_id] at hv11
        refine hrc5 _ _ ?_ ?_
        · try dsimp only
          refine ⟨?_, ?_, ?_⟩
          · first | omega | grind
          · first | omega | grind
          · first
            | (right; rw [hv10]; refine ⟨by omega, by omega, by omega, ?_⟩; rw [← er, ← hv13, ← hv14]; assumption)
            | (rw [hv10]; rcases e with ⟨e1, e2⟩ | e1
               · left; refine ⟨e1, fun n n1 n2 n3 => ?_⟩
                 by_cases z : n = v4
                 · rw [z]; first | (rw [z] at n3; exfalso; omega) | (rw [← er, ← hv13, ← hv14]; assumption)
                 · exact e2 n n1 (by omega) n3
               · right; exact e1)
        · try dsimp only
          omega
      · skip
        refine w_bp (m_placeOf hM_G w (by omega) (by omega)) (fun v13 hv13 => ?_)
        have qv13 := w.pl (i := v4) (by omega) (by omega)
        refine w_bp (m_circle hM_G) (fun v14 hv14 => ?_)
        refine w_nz (by omega) ?_
        refine w_ite (fun c_3 => ?_) (fun c_3 => ?_)
        · skip
          refine w_bd (fun v10 hv10 => ?_)
          refine w_bd (fun v11 hv11 => ?_)
          simp (disch := omega) only [iadd_id, isub_id, imul_id] at hv11
          refine hrc5 _ _ ?_ ?_
          · try dsimp only
            refine ⟨?_, ?_, ?_⟩
            · first | omega | grind
            · first | omega | grind
            · first
              | (right; rw [hv10]; refine ⟨by omega, by omega, by omega, ?_⟩; rw [← er, ← hv13, ← hv14]; assumption)
              | (rw [hv10]; rcases e with ⟨e1, e2⟩ | e1
                 · left; refine ⟨e1, fun n n1 n2 n3 => ?_⟩
                   by_cases z : n = v4
                   · rw [z]; first | (rw [z] at n3; exfalso; omega) | (rw [← er, ← hv13, ← hv14]; assumption)
                   · exact e2 n n1 (by omega) n3
                 · right; exact e1)
          · try dsimp only
            omega
        · skip
          refine w_bd (fun v10 hv10 => ?_)
          refine w_bd (fun v11 hv11 => ?_)
          simp (disch := omega) only [iadd_id, isub_id, imul_id] at hv11
          refine hrc5 _ _ ?_ ?_
          · try dsimp only
            refine ⟨?_, ?_, ?_⟩
            · first | omega | grind
            · first | omega | grind
            · first
              | (right; rw [hv10]; refine ⟨by omega, by omega, by omega, ?_⟩; rw [← er, ← hv13, ← hv14]; assumption)
              | (rw [hv10]; rcases e with ⟨e1, e2⟩ | e1
                 · left; refine ⟨e1, fun n n1 n2 n3 => ?_⟩
                   by_cases z : n = v4
                   · rw [z]; first | (rw [z] at n3; exfalso; omega) | (rw [← er, ← hv13, ← hv14]; assumption)
                   · exact e2 n n1 (by omega) n3
                 · right; exact e1)
          · try dsimp only
            omega
    · skip
      refine w_rt ?_
      refine ⟨rfl, ?_⟩
      rcases e with ⟨e1, e2⟩ | e1
      · exact Or.inl ⟨e1, fun n n1 n2 => e2 n n1 (by omega)⟩
      · exact Or.inr e1
  · try dsimp only
    refine ⟨?_, ?_, ?_⟩
    · first | omega | (subst_vars; first | rfl | assumption) | assumption
    · first | omega | (subst_vars; first | rfl | assumption) | assumption
    · left; exact ⟨hv1, fun n n1 n2 => by omega⟩
  · try dsimp only
    omega

theorem at_onw (w : WT T) {p d n : Int} (h1 : 0 ≤ n) (h2 : n < tN T) (hp : 0 ≤ p) (hp2 : p ≤ tC T) (hd : 0 ≤ d) (hd2 : d < tC T) : tp T n = (p + d) % tC T ↔ onw T p n = d := by
  have := w.pl h1 h2
  have e : (p + d) % tC T = if p + d < tC T then p + d else p + d - tC T := by
    split
    · exact Int.emod_eq_of_lt (by omega) (by omega)
    · rw [← Int.sub_emod_right, Int.emod_eq_of_lt (by omega) (by omega)]
  rw [e]; unfold onw
  split <;> split <;> omega
theorem onw_r (w : WT T) {p n : Int} (h1 : 0 ≤ n) (h2 : n < tN T) (hp : 0 ≤ p) (hp2 : p ≤ tC T) : 0 ≤ onw T p n ∧ onw T p n < tC T := by
  have := w.pl h1 h2
  unfold onw; split <;> omega
theorem at_back (w : WT T) {d n m : Int} (h1 : 0 ≤ n) (h2 : n < tN T) (h3 : 0 ≤ m) (h4 : m < tN T) (hd : 1 ≤ d) (hd2 : d ≤ tC T) : tp T m = (tp T n + tC T - d) % tC T ↔ wT T m n = d := by
  have := w.pl h1 h2
  have := w.pl h3 h4
  have e : (tp T n + tC T - d) % tC T = if tp T n + tC T - d < tC T then tp T n + tC T - d else tp T n + tC T - d - tC T := by
    split
    · exact Int.emod_eq_of_lt (by omega) (by omega)
    · rw [← Int.sub_emod_right, Int.emod_eq_of_lt (by omega) (by omega)]
  rw [e]; unfold wT wy
  split <;> split <;> omega
def prv (T : TT) (a : AS) (n : Int) : Int := (amS a.1 (fun o => wT T o n) 8).1
theorem wT_inj (w : WT T) {n o m : Int} (h1 : 0 ≤ n) (h2 : n < tN T) (h3 : 0 ≤ m) (h4 : m < tN T) (h5 : 0 ≤ o) (h6 : o < tN T) (h : wT T o n = wT T m n) : o = m := by
  have := w.pl h1 h2
  have := w.pl h3 h4
  have := w.pl h5 h6
  refine w.2.2.2.2.2.1 o m h5 h6 h3 h4 ?_
  unfold wT wy at h
  split at h <;> split at h <;> omega
theorem prv_is (w : WT T) (hw : WA T a) {n o : Int} (h1 : 0 ≤ n) (h2 : n < tN T) (h : AM a.1 (fun o => wT T o n) 8 o) : o = prv T a n :=
  AM_uniq h (amS_AM a.1 _ 8) (fun m m' x1 x2 x3 x4 b1 b2 e => wT_inj w h1 h2 x3 (hw.iN.2.2 m' x3 x4 b2) x1 (hw.iN.2.2 m x1 x2 b1) e)
theorem prv_r (w : WT T) (hw : WA T a) {n : Int} (hn : isi a n = 1) : 0 ≤ prv T a n ∧ prv T a n < tN T ∧ isi a (prv T a n) = 1 := by
  have i := hw.inr (n := n)
  have wr := w.rg
  rcases amS_AM a.1 (fun o => wT T o n) 8 with h | h
  · exact absurd (by rw [← isi_bt (by omega) (by omega)]; exact hn) (h.2 n (by omega) (by omega))
  · refine ⟨h.1, hw.iN.2.2 _ h.1 h.2.1 h.2.2.1, ?_⟩
    unfold prv; rw [isi_bt h.1 h.2.1]; exact h.2.2.1
theorem m_metFrom (w : WT T) (hN : inN T a.1) (hb : b ≤ 3410) (hR_G : MR b a G) (hM_G : MT T G) {p : Int} (hp : 0 ≤ p ∧ p ≤ tC T) : fX12_metFrom 111 b p G = some (own T a.1 p, G) := by
  have wr := w.rg
  have ib : ∀ n : Int, 0 ≤ n → n < 8 → (bt a.1 n.toNat = 1 ↔ isi a n = 1) := fun n h1 h2 => by rw [isi_bt h1 h2]
  unfold fX12_metFrom
  refine WP_eq ?_
  refine w_bd (fun v1 hv1 => ?_)
  refine w_bd (fun v2 hv2 => ?_)
  refine w_lpII (fun (v3 : Int) (v4 : Int) => (0 ≤ v4) ∧ (v4 ≤ tC T) ∧ ((v3 = -1 ∧ ∀ n : Int, 0 ≤ n → n < tN T → isi a n = 1 → v4 ≤ onw T p n) ∨ (0 ≤ v3 ∧ v3 < tN T ∧ isi a v3 = 1 ∧ onw T p v3 = v4 - 1 ∧ ∀ n : Int, 0 ≤ n → n < tN T → isi a n = 1 → v4 - 1 ≤ onw T p n))) (fun (v3 : Int) (v4 : Int) => (256 - v4).toNat) (fun rc5 v3 v4 hI hrc5 => ?_) _ _ ?_ ?_
  · skip
    obtain ⟨i0, i1, e⟩ := hI
    refine w_bp (m_circle hM_G) (fun v6 hv6 => ?_)
    refine w_ite (fun c_1 => ?_) (fun c_1 => ?_)
    · skip
      refine w_ite (fun c_2 => ?_) (fun c_2 => ?_)
      · skip
        try rw [show iadd p v4 = (p + v4) by simp (disch := omega) only [iadd_id, isub_id, imul_id]]
        refine w_bpq (m_inAt w hb hR_G hM_G (p := p + v4) (by omega) (by omega)) (fun v7 gv7 qv7 => ?_)
        replace qv7 := qv7.2
        refine w_bd (fun v8 hv8 => ?_)
        refine w_bd (fun v9 hv9 => ?_)
        simp (disch := omega) only [iadd_id, isub_id, imul_id] at hv9
        refine hrc5 _ _ ?_ ?_
        · try dsimp only
          refine ⟨?_, ?_, ?_⟩
          · first | omega | grind
          · first | omega | grind
          · have e2 : ∀ n : Int, 0 ≤ n → n < tN T → isi a n = 1 → v4 ≤ onw T p n := by
              rcases e with e | e
              · exact e.2
              · exfalso; omega
            rcases qv7 with ⟨z1, z2⟩ | ⟨z1, z2, z3, z4⟩
            · left; refine ⟨by omega, fun n n1 n2 n3 => ?_⟩
              have := e2 n n1 n2 n3
              have := z2 n n1 n2 n3
              rw [ne_eq, at_onw w n1 n2 hp.1 hp.2 i0 (by omega)] at this
              omega
            · right
              rw [at_onw w z1 z2 hp.1 hp.2 i0 (by omega)] at z4
              rw [hv8]
              refine ⟨z1, z2, z3, by omega, fun n n1 n2 n3 => ?_⟩
              have := e2 n n1 n2 n3
              omega
        · try dsimp only
          omega
      · skip
        refine w_rt ?_
        refine ⟨?_, rfl⟩
        refine own_is w hN hp.1 hp.2 ?_
        rcases e with e | e
        · left; refine ⟨e.1, fun n n1 n2 n3 => ?_⟩
          have nn := hN.2.2 n n1 n2 n3
          have := e.2 n n1 nn ((ib n n1 n2).mp n3)
          have := onw_r w n1 nn hp.1 hp.2
          omega
        · right; refine ⟨e.1, by omega, (ib v3 e.1 (by omega)).mpr e.2.2.1, fun n n1 n2 n3 => ?_⟩
          have := e.2.2.2.2 n n1 (hN.2.2 n n1 n2 n3) ((ib n n1 n2).mp n3)
          have := e.2.2.2.1
          omega
    · skip
      refine w_rt ?_
      refine ⟨?_, rfl⟩
      refine own_is w hN hp.1 hp.2 ?_
      rcases e with e | e
      · left; refine ⟨e.1, fun n n1 n2 n3 => ?_⟩
        have nn := hN.2.2 n n1 n2 n3
        have := e.2 n n1 nn ((ib n n1 n2).mp n3)
        have := onw_r w n1 nn hp.1 hp.2
        omega
      · right; refine ⟨e.1, by omega, (ib v3 e.1 (by omega)).mpr e.2.2.1, fun n n1 n2 n3 => ?_⟩
        have := e.2.2.2.2 n n1 (hN.2.2 n n1 n2 n3) ((ib n n1 n2).mp n3)
        have := e.2.2.2.1
        omega
  · try dsimp only
    refine ⟨?_, ?_, ?_⟩
    · first | omega | (subst_vars; first | rfl | assumption) | assumption
    · first | omega | (subst_vars; first | rfl | assumption) | assumption
    · left; exact ⟨hv1, fun n n1 n2 n3 => by have := onw_r w n1 n2 hp.1 hp.2; omega⟩
  · try dsimp only
    omega

theorem m_metBack (w : WT T) (hw : WA T a) (hb : b ≤ 3410) (hR_G : MR b a G) (hM_G : MT T G) {n : Int} (hn : isi a n = 1) : fX12_metBack 111 b n G = some (prv T a n, G) := by
  have wr := w.rg
  have ni := hw.inr (n := n)
  have npl := hw.tpC w hn
  have ib : ∀ n : Int, 0 ≤ n → n < 8 → (bt a.1 n.toNat = 1 ↔ isi a n = 1) := fun n h1 h2 => by rw [isi_bt h1 h2]
  unfold fX12_metBack
  refine WP_eq ?_
  refine w_bd (fun v1 hv1 => ?_)
  refine w_bd (fun v2 hv2 => ?_)
  refine w_lpII (fun (v3 : Int) (v4 : Int) => (1 ≤ v4) ∧ (v4 ≤ tC T + 1) ∧ ((v3 = -1 ∧ ∀ m : Int, 0 ≤ m → m < tN T → isi a m = 1 → v4 ≤ wT T m n) ∨ (0 ≤ v3 ∧ v3 < tN T ∧ isi a v3 = 1 ∧ wT T v3 n = v4 - 1 ∧ ∀ m : Int, 0 ≤ m → m < tN T → isi a m = 1 → v4 - 1 ≤ wT T m n))) (fun (v3 : Int) (v4 : Int) => (258 - v4).toNat) (fun rc5 v3 v4 hI hrc5 => ?_) _ _ ?_ ?_
  · skip
    obtain ⟨i0, i1, e⟩ := hI
    refine w_bp (m_circle hM_G) (fun v6 hv6 => ?_)
    refine w_ite (fun c_1 => ?_) (fun c_1 => ?_)
    · skip
      refine w_rt ?_
      refine ⟨?_, rfl⟩
      refine prv_is w hw (by omega) (by omega) ?_
      have nC : wT T n n = tC T := by unfold wT wy; rw [if_neg (by omega)]; omega
      rcases e with e | e
      · exfalso
        have := e.2 n (by omega) (by omega) hn
        omega
      · right; refine ⟨e.1, by omega, (ib v3 e.1 (by omega)).mpr e.2.2.1, fun m n1 n2 n3 => ?_⟩
        have := e.2.2.2.2 m n1 (hw.iN.2.2 m n1 n2 n3) ((ib m n1 n2).mp n3)
        have := e.2.2.2.1
        show wT T v3 n ≤ wT T m n
        omega
    · skip
      refine w_ite (fun c_2 => ?_) (fun c_2 => ?_)
      · skip
        refine w_bp (m_placeOf hM_G w (by omega) (by omega)) (fun v7 hv7 => ?_)
        have qv7 := w.pl (i := n) (by omega) (by omega)
        refine w_bp (m_circle hM_G) (fun v8 hv8 => ?_)
        try rw [show isub (iadd v7 v8) v4 = ((v7 + v8) - v4) by simp (disch := omega) only [iadd_id, isub_id, imul_id]]
        refine w_bpq (m_inAt w hb hR_G hM_G (p := v7 + v8 - v4) (by omega) (by omega)) (fun v9 gv9 qv9 => ?_)
        replace qv9 := qv9.2
        refine w_bd (fun v10 hv10 => ?_)
        refine w_bd (fun v11 hv11 => ?_)
        simp (disch := omega) only [iadd_id, isub_id, imul_id] at hv11
        refine hrc5 _ _ ?_ ?_
        · try dsimp only
          refine ⟨?_, ?_, ?_⟩
          · first | omega | grind
          · first | omega | grind
          · have e2 : ∀ m : Int, 0 ≤ m → m < tN T → isi a m = 1 → v4 ≤ wT T m n := by
              rcases e with e | e
              · exact e.2
              · exfalso; omega
            rcases qv9 with ⟨z1, z2⟩ | ⟨z1, z2, z3, z4⟩
            · left; refine ⟨by omega, fun m n1 n2 n3 => ?_⟩
              have := e2 m n1 n2 n3
              have := z2 m n1 n2 n3
              rw [ne_eq, hv7, hv8, at_back w (by omega) (by omega) n1 n2 i0 (by omega)] at this
              omega
            · right
              rw [hv7, hv8, at_back w (by omega) (by omega) z1 z2 i0 (by omega)] at z4
              rw [hv10]
              refine ⟨z1, z2, z3, by omega, fun m n1 n2 n3 => ?_⟩
              have := e2 m n1 n2 n3
              omega
        · try dsimp only
          omega
      · skip
        refine w_rt ?_
        refine ⟨?_, rfl⟩
        refine prv_is w hw (by omega) (by omega) ?_
        have nC : wT T n n = tC T := by unfold wT wy; rw [if_neg (by omega)]; omega
        rcases e with e | e
        · exfalso
          have := e.2 n (by omega) (by omega) hn
          omega
        · right; refine ⟨e.1, by omega, (ib v3 e.1 (by omega)).mpr e.2.2.1, fun m n1 n2 n3 => ?_⟩
          have := e.2.2.2.2 m n1 (hw.iN.2.2 m n1 n2 n3) ((ib m n1 n2).mp n3)
          have := e.2.2.2.1
          show wT T v3 n ≤ wT T m n
          omega
  · try dsimp only
    refine ⟨?_, ?_, ?_⟩
    · first | omega | (subst_vars; first | rfl | assumption) | assumption
    · first | omega | (subst_vars; first | rfl | assumption) | assumption
    · left; exact ⟨hv1, fun m n1 n2 n3 => by have := wT_rng w n1 n2 (o := n) (by omega) (by omega); omega⟩
  · try dsimp only
    omega

end LOO
