/-! THE LAW of where keys lie: what reading it comes to -/
section LAWA
variable {S : TS} {n : Nat} {F : Int → Int}
abbrev LR : Type := Int × Nat × List Int
noncomputable def opc (S : TS) (l : Nat) (j : Nat) : Int := if l = 0 then (if yk S j = 2 ∧ yw S j = 20 then 9 else if yk S j = 2 ∧ yw S j = 21 then 10 else 0) else if l = 1 then (if yk S j = 4 ∧ yv S j = 60 then 7 else if yk S j = 4 ∧ yv S j = 61 then 8 else 0) else if l = 2 then (if yk S j = 4 ∧ yv S j = 43 then 4 else if yk S j = 4 ∧ yv S j = 45 then 5 else 0) else (if yk S j = 4 ∧ yv S j = 42 then 6 else 0)
def jnR (r q : LR) (c : Int) : LR := (q.1, q.2.1, r.2.2 ++ q.2.2 ++ [c])
def lpR (P : Nat → LR) (op : Nat → Int) : Nat → LR → LR
  | 0, r => r
  | f + 1, r => if r.1 ≠ 0 ∨ op r.2.1 = 0 then r else lpR P op f (jnR r (P (r.2.1 + 1)) (op r.2.1))
def fuL (l : Nat) : Nat := if l = 1 then 1 else 1000
noncomputable def pL (S : TS) (P : Nat → LR) : Nat → Nat → LR
  | 0, j => P j
  | m + 1, j => lpR (pL S P m) (opc S (3 - m)) (fuL (3 - m)) (pL S P m j)
def bpt (S : TS) (j : Nat) : Prop := yk S j = 3 ∨ (yk S j = 4 ∧ yv S j = 40) ∨ (yk S j = 2 ∧ (yw S j = 19 ∨ yw S j = 0 ∨ (22 ≤ yw S j ∧ yw S j ≤ 24)))
noncomputable def fix (S : TS) (j : Nat) : Int := if yw S j = 22 then 0 else if yw S j = 23 then 1 else if yw S j = 0 then 2 else 3
noncomputable def clR (S : TS) (r : LR) : LR := if r.1 ≠ 0 then r else if yk S r.2.1 = 4 ∧ yv S r.2.1 = 41 then (0, r.2.1 + 1, r.2.2) else (1 + 16 * yp S r.2.1, r.2.1, r.2.2)
noncomputable def pPs (S : TS) (P : Nat → LR) (j : Nat) : LR := if yk S j = 3 then (0, j + 1, [1 + 16 * yv S j]) else if yk S j = 4 then clR S (pL S P 4 (j + 1)) else if yw S j = 19 then ((P (j + 1)).1, (P (j + 1)).2.1, (P (j + 1)).2.2 ++ [3]) else (0, j + 1, [2 + 16 * fix S j])
noncomputable def pP (S : TS) : Nat → Nat → LR
  | 0, j => @ite LR (bpt S j) (Classical.propDecidable _) (5 + 16 * yp S j, j, []) (1 + 16 * yp S j, j, [])
  | k + 1, j => @ite LR (bpt S j) (Classical.propDecidable _) (pPs S (pP S k) j) (1 + 16 * yp S j, j, [])
theorem pP_0 {j : Nat} (h : bpt S j) : pP S 0 j = (5 + 16 * yp S j, j, []) := by unfold pP; exact if_pos h
theorem pP_n {k j : Nat} (h : ¬ bpt S j) : pP S k j = (1 + 16 * yp S j, j, []) := by
  cases k with
  | zero => unfold pP; exact if_neg h
  | succ k => unfold pP; exact if_neg h
theorem pP_s {k j : Nat} (h : bpt S j) : pP S (k + 1) j = pPs S (pP S k) j := by
  show @ite LR (bpt S j) (Classical.propDecidable _) (pPs S (pP S k) j) (1 + 16 * yp S j, j, []) = _
  exact if_pos h
theorem pL_s {P : Nat → LR} {m j : Nat} : pL S P (m + 1) j = lpR (pL S P m) (opc S (3 - m)) (fuL (3 - m)) (pL S P m j) := rfl
theorem lpR_s {P : Nat → LR} {op : Nat → Int} {f : Nat} {r : LR} : lpR P op (f + 1) r = if r.1 ≠ 0 ∨ op r.2.1 = 0 then r else lpR P op f (jnR r (P (r.2.1 + 1)) (op r.2.1)) := rfl
theorem lpR_e {P : Nat → LR} {op : Nat → Int} {f : Nat} {r : LR} (h : r.1 ≠ 0 ∨ op r.2.1 = 0) : lpR P op f r = r := by
  cases f with
  | zero => rfl
  | succ f => rw [lpR_s, if_pos h]
theorem opc_k {l j : Nat} (h : opc S l j ≠ 0) : yk S j ≠ 0 ∧ 4 ≤ opc S l j ∧ opc S l j ≤ 10 := by
  unfold opc at h ⊢
  split at h <;> rename_i c
  · rw [if_pos c]
    split at h <;> rename_i d
    · rw [if_pos d]; omega
    · rw [if_neg d]; split at h <;> rename_i e
      · rw [if_pos e]; omega
      · exact absurd rfl h
  · rw [if_neg c]
    split at h <;> rename_i c'
    · rw [if_pos c']
      split at h <;> rename_i d
      · rw [if_pos d]; omega
      · rw [if_neg d]; split at h <;> rename_i e
        · rw [if_pos e]; omega
        · exact absurd rfl h
    · rw [if_neg c']
      split at h <;> rename_i c''
      · rw [if_pos c'']
        split at h <;> rename_i d
        · rw [if_pos d]; omega
        · rw [if_neg d]; split at h <;> rename_i e
          · rw [if_pos e]; omega
          · exact absurd rfl h
      · rw [if_neg c'']
        split at h <;> rename_i d
        · rw [if_pos d]; omega
        · exact absurd rfl h
/-- how far it goes -/
def HN (S : TS) (n : Nat) : Prop := ∀ j, j ≤ n → yk S j ≠ 0 → j < n
def PGr (n j : Nat) (r : LR) : Prop := r.2.1 ≤ n ∧ j + r.2.2.length ≤ r.2.1 ∧ 0 ≤ r.1 ∧ (r.1 = 0 → j < r.2.1)
def PG (n : Nat) (P : Nat → LR) : Prop := ∀ j, j ≤ n → PGr n j (P j)
theorem PG_jn {P : Nat → LR} (hP : PG n P) {j : Nat} {r : LR} {c : Int} (h : PGr n j r) (l : r.2.1 < n) : PGr n j (jnR r (P (r.2.1 + 1)) c) := by
  have q := hP (r.2.1 + 1) (by omega)
  obtain ⟨q1, q2, q3, q4⟩ := q
  obtain ⟨h1, h2, h3, h4⟩ := h
  refine ⟨q1, ?_, q3, fun _ => ?_⟩
  · show j + (r.2.2 ++ (P (r.2.1 + 1)).2.2 ++ [c]).length ≤ (P (r.2.1 + 1)).2.1
    rw [List.length_append, List.length_append, List.length_singleton]; omega
  · show j < (P (r.2.1 + 1)).2.1
    omega
theorem PG_lp {P : Nat → LR} (hP : PG n P) (hn : HN S n) {l j : Nat} : ∀ (f : Nat) (r : LR), PGr n j r → PGr n j (lpR P (opc S l) f r)
  | 0, r, h => h
  | f + 1, r, h => by
    rw [lpR_s]
    by_cases c : r.1 ≠ 0 ∨ opc S l r.2.1 = 0
    · rw [if_pos c]; exact h
    · rw [if_neg c]
      have k := (opc_k (S := S) (l := l) (j := r.2.1) (fun z => c (Or.inr z))).1
      exact PG_lp hP hn f _ (PG_jn hP h (hn _ h.1 k))
theorem PG_pL {P : Nat → LR} (hP : PG n P) (hn : HN S n) : ∀ m, PG n (pL S P m)
  | 0 => hP
  | m + 1 => fun j hj => PG_lp (PG_pL hP hn m) hn _ _ (PG_pL hP hn m j hj)
theorem bpt_k {j : Nat} (h : bpt S j) : yk S j ≠ 0 := by unfold bpt at h; omega
theorem PG_pP (w : WTp S) (hn : HN S n) : ∀ k, PG n (pP S k)
  | 0 => fun j hj => by
    have y := yp_r w (j := j)
    by_cases c : bpt S j
    · rw [pP_0 c]; exact ⟨hj, by simp, by simp only; omega, fun z => by simp only at z; omega⟩
    · rw [pP_n c]; exact ⟨hj, by simp, by simp only; omega, fun z => by simp only at z; omega⟩
  | k + 1 => fun j hj => by
    have y := yp_r w (j := j)
    by_cases c : bpt S j
    · rw [pP_s c]
      have l := hn j hj (bpt_k c)
      have ih := PG_pP w hn k
      unfold pPs
      by_cases c1 : yk S j = 3
      · rw [if_pos c1]; exact ⟨by simp only; omega, by simp, by simp, fun _ => by simp⟩
      rw [if_neg c1]
      by_cases c2 : yk S j = 4
      · rw [if_pos c2]
        have q := PG_pL ih hn 4 (j + 1) (by omega)
        generalize pL S (pP S k) 4 (j + 1) = r at q
        obtain ⟨q1, q2, q3, q4⟩ := q
        have y2 := yp_r w (j := r.2.1)
        unfold clR
        by_cases d : r.1 ≠ 0
        · rw [if_pos d]; exact ⟨q1, by omega, q3, fun z => absurd z d⟩
        rw [if_neg d]
        by_cases e : yk S r.2.1 = 4 ∧ yv S r.2.1 = 41
        · rw [if_pos e]
          have := hn _ q1 (by omega)
          exact ⟨by simp only; omega, by simp only; omega, by simp, fun _ => by simp only; omega⟩
        · rw [if_neg e]; exact ⟨q1, by simp only; omega, by simp only; omega, fun z => by simp only at z; omega⟩
      rw [if_neg c2]
      by_cases c3 : yw S j = 19
      · rw [if_pos c3]
        obtain ⟨q1, q2, q3, q4⟩ := ih (j + 1) (by omega)
        refine ⟨q1, ?_, q3, fun z => by have := q4 z; simp only; omega⟩
        simp only [List.length_append, List.length_singleton]; omega
      · rw [if_neg c3]; exact ⟨by simp only; omega, by simp, by simp, fun _ => by simp⟩
    · rw [pP_n c]; exact ⟨hj, by simp, by simp only; omega, fun z => by simp only at z; omega⟩
/-! what a code comes to -/
def wkd (c a b : Int) : Int := if c = 4 then iadd a b else if c = 5 then isub a b else if c = 6 then imul a b else if c = 7 then (if a < b then 1 else 0) else if c = 8 then (if a = b then 1 else 0) else if c = 9 then (if a ≠ 0 ∧ b ≠ 0 then 1 else 0) else (if a ≠ 0 ∨ b ≠ 0 then 1 else 0)
def nt1 (st : List Int) : List Int := match st with
  | x :: t => (if x = 0 then 1 else 0) :: t
  | [] => []
def bn2 (c : Int) (st : List Int) : List Int := match st with
  | y :: x :: t => wkd c x y :: t
  | t => t
def op1 (F : Int → Int) (c : Int) (st : List Int) : List Int := if c % 16 = 1 then (c / 16) :: st else if c % 16 = 2 then F (c / 16) :: st else if c % 16 = 3 then nt1 st else bn2 (c % 16) st
def run (F : Int → Int) : List Int → List Int → List Int
  | [], st => st
  | c :: cs, st => run F cs (op1 F c st)
theorem run_app {st : List Int} : ∀ a b : List Int, run F (a ++ b) st = run F b (run F a st) := by
  intro a
  induction a generalizing st with
  | nil => intro b; rfl
  | cons c cs ih => intro b; exact ih b
def sfc (c : Int) (st : List Int) : Prop := 0 ≤ c ∧ c ≤ 160000 ∧ ((c % 16 = 1 ∧ st.length < 64) ∨ (c % 16 = 2 ∧ c / 16 < 4 ∧ st.length < 64) ∨ (c % 16 = 3 ∧ 1 ≤ st.length) ∨ (4 ≤ c % 16 ∧ c % 16 ≤ 10 ∧ 2 ≤ st.length))
def sf (F : Int → Int) : List Int → List Int → Prop
  | [], _ => True
  | c :: cs, st => sfc c st ∧ sf F cs (op1 F c st)
theorem sf_app {st : List Int} : ∀ a b : List Int, sf F a st → sf F b (run F a st) → sf F (a ++ b) st := by
  intro a
  induction a generalizing st with
  | nil => intro b _ h; exact h
  | cons c cs ih => intro b h1 h2; exact ⟨h1.1, ih b h1.2 h2⟩
def VL (F : Int → Int) (code : List Int) (v : Int) : Prop := ∀ st : List Int, run F code st = v :: st
def GD (F : Int → Int) (D : Nat) (code : List Int) : Prop := ∃ v, VL F code v ∧ ∀ st : List Int, st.length + D ≤ 64 → sf F code st
theorem GD.mono {D D' : Nat} {code : List Int} (h : GD F D code) (l : D ≤ D') : GD F D' code := by
  obtain ⟨v, h1, h2⟩ := h
  exact ⟨v, h1, fun st hs => h2 st (by omega)⟩
theorem op1_b {c v u : Int} {st : List Int} (h1 : 4 ≤ c) (h2 : c ≤ 10) : op1 F c (u :: v :: st) = wkd c v u :: st := by
  unfold op1
  have e : c % 16 = c := by omega
  rw [e, if_neg (by omega), if_neg (by omega), if_neg (by omega)]; rfl
theorem VL_jn {a b : List Int} {v u c : Int} (h1 : VL F a v) (h2 : VL F b u) (h3 : 4 ≤ c) (h4 : c ≤ 10) : VL F (a ++ b ++ [c]) (wkd c v u) := by
  intro st
  rw [run_app, run_app, h1, h2]
  show op1 F c (u :: v :: st) = _
  exact op1_b h3 h4
theorem GD_jn {a b : List Int} {D : Nat} {c : Int} (h1 : GD F (D + 1) a) (h2 : GD F D b) (h3 : 4 ≤ c) (h4 : c ≤ 10) : GD F (D + 1) (a ++ b ++ [c]) := by
  obtain ⟨v, v1, s1⟩ := h1
  obtain ⟨u, v2, s2⟩ := h2
  refine ⟨_, VL_jn v1 v2 h3 h4, fun st hs => ?_⟩
  refine sf_app _ _ (sf_app _ _ (s1 st hs) ?_) ?_
  · rw [v1]; exact s2 _ (by rw [List.length_cons]; omega)
  · rw [run_app, v1, v2]
    refine ⟨⟨by omega, by omega, Or.inr (Or.inr (Or.inr ⟨by omega, by omega, ?_⟩))⟩, trivial⟩
    rw [List.length_cons, List.length_cons]; omega
theorem GD_lp {P : Nat → LR} {D l : Nat} (hP : ∀ j, (P j).1 = 0 → GD F D (P j).2.2) : ∀ (f : Nat) (r : LR), (r.1 = 0 → GD F (D + 1) r.2.2) → (lpR P (opc S l) f r).1 = 0 → GD F (D + 1) (lpR P (opc S l) f r).2.2
  | 0, r, h, z => h z
  | f + 1, r, h, z => by
    rw [lpR_s] at z ⊢
    by_cases c : r.1 ≠ 0 ∨ opc S l r.2.1 = 0
    · rw [if_pos c] at z ⊢; exact h z
    · rw [if_neg c] at z ⊢
      have k := (opc_k (S := S) (l := l) (j := r.2.1) (fun z => c (Or.inr z))).2
      refine GD_lp hP f _ (fun q => ?_) z
      exact GD_jn (h (Decidable.not_not.mp (fun z => c (Or.inl z)))) (hP _ q) k.1 k.2
theorem GD_pL {P : Nat → LR} {D : Nat} (hP : ∀ j, (P j).1 = 0 → GD F D (P j).2.2) : ∀ m j, (pL S P m j).1 = 0 → GD F (D + m) (pL S P m j).2.2
  | 0, j, z => hP j z
  | m + 1, j, z => GD_lp (GD_pL hP m) _ _ (fun q => (GD_pL hP m j q).mono (by omega)) z
theorem VL_num {v : Int} (h : 0 ≤ v) : VL F [1 + 16 * v] v := by
  intro st
  show op1 F (1 + 16 * v) st = _
  unfold op1; rw [if_pos (by omega), show (1 + 16 * v) / 16 = v by omega]
theorem VL_fact {v : Int} (h : 0 ≤ v) : VL F [2 + 16 * v] (F v) := by
  intro st
  show op1 F (2 + 16 * v) st = _
  unfold op1; rw [if_neg (by omega), if_pos (by omega), show (2 + 16 * v) / 16 = v by omega]
theorem VL_not {a : List Int} {v : Int} (h : VL F a v) : VL F (a ++ [3]) (if v = 0 then 1 else 0) := by
  intro st
  rw [run_app, h]; rfl
theorem fix_r {j : Nat} : 0 ≤ fix S j ∧ fix S j < 4 := by unfold fix; split <;> (try split) <;> (try split) <;> omega
theorem GD_pP (w : WTp S) : ∀ k j, (pP S k j).1 = 0 → GD F (4 * k + 1) (pP S k j).2.2
  | 0, j, z => by
    have y := yp_r w (j := j)
    by_cases c : bpt S j
    · rw [pP_0 c] at z; simp only at z; omega
    · rw [pP_n c] at z; simp only at z; omega
  | k + 1, j, z => by
    have y := yp_r w (j := j)
    by_cases c : bpt S j
    · rw [pP_s c] at z ⊢
      have ih := GD_pP w k
      unfold pPs at z ⊢
      by_cases c1 : yk S j = 3
      · rw [if_pos c1] at z ⊢
        have v := yv_n c1
        refine ⟨_, VL_num v.1, fun st hs => ⟨⟨by omega, by omega, Or.inl ⟨by omega, by omega⟩⟩, trivial⟩⟩
      rw [if_neg c1] at z ⊢
      by_cases c2 : yk S j = 4
      · rw [if_pos c2] at z ⊢
        have q := GD_pL (S := S) ih 4 (j + 1)
        generalize pL S (pP S k) 4 (j + 1) = r at q z ⊢
        have y2 := yp_r w (j := r.2.1)
        unfold clR at z ⊢
        by_cases d : r.1 ≠ 0
        · rw [if_pos d] at z; exact absurd z d
        rw [if_neg d] at z ⊢
        by_cases e : yk S r.2.1 = 4 ∧ yv S r.2.1 = 41
        · rw [if_pos e]
          exact (q (Decidable.not_not.mp d)).mono (by omega)
        · rw [if_neg e] at z; simp only at z; omega
      rw [if_neg c2] at z ⊢
      by_cases c3 : yw S j = 19
      · rw [if_pos c3] at z ⊢
        obtain ⟨v, v1, s1⟩ := ih (j + 1) z
        refine ⟨_, VL_not v1, fun st hs => sf_app _ _ (s1 st (by omega)) ?_⟩
        rw [v1]
        refine ⟨⟨by omega, by omega, Or.inr (Or.inr (Or.inl ⟨by omega, ?_⟩))⟩, trivial⟩
        rw [List.length_cons]; omega
      · rw [if_neg c3] at z ⊢
        have v := fix_r (S := S) (j := j)
        refine ⟨_, VL_fact v.1, fun st hs => ⟨⟨by omega, by omega, Or.inr (Or.inl ⟨by omega, by omega, by omega⟩)⟩, trivial⟩⟩
    · rw [pP_n c] at z; simp only at z; omega
end LAWA
