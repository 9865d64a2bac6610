/-! THE TAPE: tokens, in plain numbers -/
section TOK
variable {S : TS}
def isB (v : Int) : Prop := v = 32 ∨ v = 10
def isL (v : Int) : Prop := 97 ≤ v ∧ v ≤ 122
def isD (v : Int) : Prop := 48 ≤ v ∧ v ≤ 57
/-- from i, all signs before j are p; and j is the end, or not p -/
def Spn (p : Int → Prop) (S : TS) (i j : Nat) : Prop := i ≤ j ∧ (∀ k : Nat, i ≤ k → k < j → (k : Int) < S.1 ∧ p (S.2 k)) ∧ ¬ ((j : Int) < S.1 ∧ p (S.2 j))
theorem Spn.un {p : Int → Prop} {i j j' : Nat} (h : Spn p S i j) (h' : Spn p S i j') : j = j' := by
  rcases Nat.lt_trichotomy j j' with c | c | c
  · exact absurd (h'.2.1 j h.1 c) h.2.2
  · exact c
  · exact absurd (h.2.1 j' h'.1 c) h'.2.2
theorem Spn.st {p : Int → Prop} {i j : Nat} (h1 : (i : Int) < S.1) (h2 : p (S.2 i)) (h : Spn p S (i + 1) j) : Spn p S i j := by
  refine ⟨by have := h.1; omega, fun k k1 k2 => ?_, h.2.2⟩
  by_cases e : k = i
  · rw [e]; exact ⟨h1, h2⟩
  · exact h.2.1 k (by omega) k2
theorem Spn.no {p : Int → Prop} {i : Nat} (h : ¬ ((i : Int) < S.1 ∧ p (S.2 i))) : Spn p S i i := ⟨Nat.le_refl i, fun k k1 k2 => by omega, h⟩
theorem Spn.ex (p : Int → Prop) (S : TS) (n i : Nat) (h : S.1 ≤ (i : Int) + n) : ∃ j, Spn p S i j := by
  induction n generalizing i with
  | zero => exact ⟨i, Spn.no (by omega)⟩
  | succ n ih =>
    by_cases c : (i : Int) < S.1 ∧ p (S.2 i)
    · obtain ⟨j, hj⟩ := ih (i + 1) (by omega)
      exact ⟨j, hj.st c.1 c.2⟩
    · exact ⟨i, Spn.no c⟩
/-- the value of the signs from i to j, base b, digit d -/
def val (b : Int) (d : Int → Int) (S : TS) (i : Nat) : Nat → Int
  | 0 => 0
  | n + 1 => b * val b d S i n + d (S.2 (i + n))
end TOK
