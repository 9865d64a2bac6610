/-! NAMES: words in both numberings -/
section NMS
variable {S : TS} {G : Hp}
theorem vinj32 {S S' : TS} {i i' : Nat} : ∀ n m : Nat, (∀ k : Nat, i ≤ k → k < i + n → isL (S.2 k)) → (∀ k : Nat, i' ≤ k → k < i' + m → isL (S'.2 k)) → val 32 lev S i n = val 32 lev S' i' m → n = m ∧ ∀ k : Nat, k < n → S.2 (i + k) = S'.2 (i' + k)
  | 0, 0, _, _, _ => ⟨rfl, fun k hk => by omega⟩
  | 0, m + 1, _, h2, e => by
    have q := val32 (S := S') (i := i') m (fun k a b => h2 k a (by omega))
    have d := h2 (i' + m) (by omega) (by omega)
    unfold isL at d
    rw [val_st, show lev (S'.2 (i' + m)) = S'.2 (i' + m) - 96 from rfl] at e
    rw [show val 32 lev S i 0 = 0 from rfl] at e
    omega
  | n + 1, 0, h1, _, e => by
    have q := val32 (S := S) (i := i) n (fun k a b => h1 k a (by omega))
    have d := h1 (i + n) (by omega) (by omega)
    unfold isL at d
    rw [val_st, show lev (S.2 (i + n)) = S.2 (i + n) - 96 from rfl] at e
    rw [show val 32 lev S' i' 0 = 0 from rfl] at e
    omega
  | n + 1, m + 1, h1, h2, e => by
    have d := h1 (i + n) (by omega) (by omega)
    have d' := h2 (i' + m) (by omega) (by omega)
    unfold isL at d d'
    rw [val_st, val_st, show lev (S.2 (i + n)) = S.2 (i + n) - 96 from rfl, show lev (S'.2 (i' + m)) = S'.2 (i' + m) - 96 from rfl] at e
    have ih := vinj32 (S := S) (S' := S') (i := i) (i' := i') n m (fun k a b => h1 k a (by omega)) (fun k a b => h2 k a (by omega)) (by omega)
    refine ⟨by omega, fun k hk => ?_⟩
    by_cases c : k = n
    · have : n = m := ih.1
      subst c; subst this; omega
    · exact ih.2 k (by omega)
theorem vinj37 {S S' : TS} {i i' : Nat} : ∀ n m : Nat, (∀ k : Nat, i ≤ k → k < i + n → isL (S.2 k)) → (∀ k : Nat, i' ≤ k → k < i' + m → isL (S'.2 k)) → val 37 lev S i n = val 37 lev S' i' m → n = m ∧ ∀ k : Nat, k < n → S.2 (i + k) = S'.2 (i' + k)
  | 0, 0, _, _, _ => ⟨rfl, fun k hk => by omega⟩
  | 0, m + 1, _, h2, e => by
    have q := val37 (S := S') (i := i') m (fun k a b => h2 k a (by omega))
    have d := h2 (i' + m) (by omega) (by omega)
    unfold isL at d
    rw [val_st, show lev (S'.2 (i' + m)) = S'.2 (i' + m) - 96 from rfl] at e
    rw [show val 37 lev S i 0 = 0 from rfl] at e
    omega
  | n + 1, 0, h1, _, e => by
    have q := val37 (S := S) (i := i) n (fun k a b => h1 k a (by omega))
    have d := h1 (i + n) (by omega) (by omega)
    unfold isL at d
    rw [val_st, show lev (S.2 (i + n)) = S.2 (i + n) - 96 from rfl] at e
    rw [show val 37 lev S' i' 0 = 0 from rfl] at e
    omega
  | n + 1, m + 1, h1, h2, e => by
    have d := h1 (i + n) (by omega) (by omega)
    have d' := h2 (i' + m) (by omega) (by omega)
    unfold isL at d d'
    rw [val_st, val_st, show lev (S.2 (i + n)) = S.2 (i + n) - 96 from rfl, show lev (S'.2 (i' + m)) = S'.2 (i' + m) - 96 from rfl] at e
    have ih := vinj37 (S := S) (S' := S') (i := i) (i' := i') n m (fun k a b => h1 k a (by omega)) (fun k a b => h2 k a (by omega)) (by omega)
    refine ⟨by omega, fun k hk => ?_⟩
    by_cases c : k = n
    · have : n = m := ih.1
      subst c; subst this; omega
    · exact ih.2 k (by omega)
theorem vcg {b : Int} {d : Int → Int} {S S' : TS} {i i' : Nat} : ∀ n : Nat, (∀ k : Nat, k < n → S.2 (i + k) = S'.2 (i' + k)) → val b d S i n = val b d S' i' n
  | 0, _ => rfl
  | n + 1, h => by rw [val_st, val_st, vcg n (fun k hk => h k (by omega)), h n (by omega)]
def NmR (c r : Int) : Prop := ∃ (f : TS) (i n : Nat), (∀ k : Nat, i ≤ k → k < i + n → isL (f.2 k)) ∧ c = val 32 lev f i n ∧ r = val 37 lev f i n
theorem nm_eq {c r c' r' : Int} (h : NmR c r) (h' : NmR c' r') : c = c' ↔ r = r' := by
  obtain ⟨f, i, n, l, hc, hr⟩ := h
  obtain ⟨f', i', n', l', hc', hr'⟩ := h'
  constructor
  · intro e
    have q := vinj32 n n' l l' (by rw [← hc, ← hc', e])
    obtain ⟨rfl, q2⟩ := q
    rw [hr, hr', vcg n q2]
  · intro e
    have q := vinj37 n n' l l' (by rw [← hr, ← hr', e])
    obtain ⟨rfl, q2⟩ := q
    rw [hc, hc', vcg n q2]
def wrd : List (List Int) := [[99, 105, 114, 99, 108, 101], [108, 105, 115, 116], [110, 111, 100, 101], [107, 101, 121], [97, 116], [108, 105, 101, 115], [98, 101, 103, 105, 110], [106, 111, 105, 110], [108, 101, 97, 118, 101], [102, 97, 105, 108], [116, 105, 100, 121], [102, 108, 117, 115, 104], [102, 105, 120], [112, 117, 116], [104, 97, 110, 100], [112, 108, 97, 105, 110], [115, 104, 111, 114, 116], [115, 104, 121], [98, 108, 105, 110, 100], [110, 111, 116], [97, 110, 100], [111, 114], [116, 111, 108, 100], [119, 104, 105, 99, 104], [99, 105, 114, 99, 108, 101], [110, 111, 100, 101, 115]]
def wTS (w : Nat) : TS := (0, fun k => (wrd.getD w []).getD k 0)
def wLn (w : Nat) : Nat := (wrd.getD w []).length
def cixw (w : Nat) : Nat := if w < 24 then w else if w = 24 then 0 else 24
theorem wrd_ok : ∀ w : Fin 26, (∀ k : Fin (wLn w.val), 97 ≤ (wTS w.val).2 k.val ∧ (wTS w.val).2 k.val ≤ 122) ∧ W32 (cixw w.val) = val 32 lev (wTS w.val) 0 (wLn w.val) ∧ W37 w.val = val 37 lev (wTS w.val) 0 (wLn w.val) := by decide +kernel
theorem wrd_nm {w : Nat} (h : w < 26) : NmR (W32 (cixw w)) (W37 w) := by
  have q := wrd_ok ⟨w, h⟩
  exact ⟨wTS w, 0, wLn w, fun k _ hk => q.1 ⟨k, by simpa using hk⟩, q.2.1, q.2.2⟩
theorem W32_inj : ∀ i j : Fin 25, W32 i.val = W32 j.val → i = j := by decide +kernel
theorem lastW_r {t : Nat → Int} {x : Int} : ∀ n : Nat, (lastW t x n = -1 ∧ ∀ k : Nat, k < n → t k ≠ x) ∨ ∃ k : Nat, k < n ∧ lastW t x n = k ∧ t k = x
  | 0 => Or.inl ⟨rfl, fun k hk => by omega⟩
  | n + 1 => by
    unfold lastW
    by_cases c : t n = x
    · rw [if_pos c]; exact Or.inr ⟨n, by omega, rfl, c⟩
    · rw [if_neg c]
      rcases lastW_r (t := t) (x := x) n with ⟨h1, h2⟩ | ⟨k, h1, h2, h3⟩
      · refine Or.inl ⟨h1, fun k hk => ?_⟩
        by_cases e : k = n
        · rw [e]; exact c
        · exact h2 k (by omega)
      · exact Or.inr ⟨k, by omega, h2, h3⟩
theorem lastW_is {x : Int} {i : Nat} (hi : i < 25) : lastW W32 x 25 = i ↔ W32 i = x := by
  rcases lastW_r (t := W32) (x := x) 25 with ⟨h1, h2⟩ | ⟨k, h1, h2, h3⟩
  · rw [h1]; exact ⟨fun z => by omega, fun z => absurd z (h2 i hi)⟩
  · rw [h2]
    constructor
    · intro z; rw [← h3]; congr 1; omega
    · intro z
      have := W32_inj ⟨i, hi⟩ ⟨k, h1⟩ (by rw [z, h3])
      have e : i = k := congrArg Fin.val this
      rw [e]
theorem cwd_r {b : Nat} : -1 ≤ cwd S b ∧ cwd S b ≤ 24 := by
  unfold cwd
  rcases lastW_r (t := W32) (x := clt S b) 25 with ⟨h1, h2⟩ | ⟨k, h1, h2, h3⟩ <;> omega
theorem tok_nm {b : Nat} (h : tkd S b = 2) : NmR (clt S b) (rvl S b) := by
  unfold tkd at h
  by_cases h1 : S.1 ≤ (b : Int)
  · rw [if_pos h1] at h; omega
  rw [if_neg h1] at h
  by_cases h2 : 97 ≤ S.2 b ∧ S.2 b ≤ 122
  · have tE : tEnd S b = spE isL S b := by unfold tEnd; rw [if_neg h1, if_pos h2]
    have q := spE_is (p := isL) (S := S) (i := b)
    refine ⟨S, b, tEnd S b - b, fun k a c => (q.2.1 k a (by have := q.1; omega)).2, rfl, ?_⟩
    unfold rvl; rw [if_pos h2]
  · rw [if_neg h2] at h
    by_cases h3 : 48 ≤ S.2 b ∧ S.2 b ≤ 57
    · rw [if_pos h3] at h; split at h <;> omega
    · rw [if_neg h3] at h; split at h <;> omega
theorem cixw_lt {w : Nat} : cixw w < 25 := by unfold cixw; split <;> (try split) <;> omega
theorem tok_wd {b w : Nat} (h : tkd S b = 2) (hw : w < 26) : rvl S b = W37 w ↔ cwd S b = cixw w := by
  unfold cwd
  rw [lastW_is cixw_lt]
  have := nm_eq (tok_nm h) (wrd_nm hw)
  constructor
  · intro e; exact (this.mpr e).symm
  · intro e; exact this.mp e.symm
theorem tkd_num {b : Nat} (h : tkd S b = 3) : 0 ≤ rvl S b ∧ rvl S b ≤ 9999 := by
  unfold tkd at h
  by_cases h1 : S.1 ≤ (b : Int)
  · rw [if_pos h1] at h; omega
  rw [if_neg h1] at h
  by_cases h2 : 97 ≤ S.2 b ∧ S.2 b ≤ 122
  · rw [if_pos h2] at h; split at h <;> omega
  rw [if_neg h2] at h
  by_cases h3 : 48 ≤ S.2 b ∧ S.2 b ≤ 57
  · rw [if_pos h3] at h
    have q := spE_is (p := isD) (S := S) (i := b)
    have tE : tEnd S b = spE isD S b := by unfold tEnd; rw [if_neg h1, if_neg h2, if_pos h3]
    have l : spE isD S b - b ≤ 4 := by split at h <;> omega
    have v := val10 (S := S) (i := b) (spE isD S b - b) (fun k a c => (q.2.1 k a (by have := q.1; omega)).2) l
    unfold rvl; rw [if_neg h2, if_pos h3, tE]
    have pw : (10 : Int) ^ (spE isD S b - b) ≤ 10 ^ 4 := by
      have : spE isD S b - b = 0 ∨ spE isD S b - b = 1 ∨ spE isD S b - b = 2 ∨ spE isD S b - b = 3 ∨ spE isD S b - b = 4 := by omega
      rcases this with h | h | h | h | h <;> rw [h] <;> decide
    have p4 : (10 : Int) ^ 4 = 10000 := by decide
    omega
  · rw [if_neg h3] at h; split at h <;> omega
end NMS
