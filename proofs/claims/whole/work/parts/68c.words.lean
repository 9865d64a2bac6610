/-! THE TAPE: the class's words -/
section TOKW
variable {S : TS} {G : Hp}
abbrev lev (v : Int) : Int := v - 96
def lastW (t : Nat → Int) (x : Int) : Nat → Int
  | 0 => -1
  | n + 1 => if t n = x then n else lastW t x n
theorem ladd_id {a b : Int} (h1 : -9223372036854775808 ≤ a + b) (h2 : a + b ≤ 9223372036854775807) : ladd a b = a + b := w64_id ⟨h1, h2⟩
theorem lmul_id {a b : Int} (h1 : -9223372036854775808 ≤ a * b) (h2 : a * b ≤ 9223372036854775807) : lmul a b = a * b := w64_id ⟨h1, h2⟩
theorem lcmp_z {a b : Int} : lcmp' a b = 0 ↔ a = b := by
  unfold lcmp'
  by_cases h : a < b
  · rw [if_pos h]; omega
  · rw [if_neg h]
    by_cases e : a = b
    · rw [if_pos e]; omega
    · rw [if_neg e]; omega
theorem val32 {i : Nat} : ∀ n : Nat, (∀ k : Nat, i ≤ k → k < i + n → isL (S.2 k)) → 0 ≤ val 32 lev S i n ∧ val 32 lev S i n < 32 ^ n
  | 0, _ => ⟨Int.le_refl 0, by show (0 : Int) < 32 ^ 0; decide⟩
  | n + 1, h => by
    have q := val32 n (fun k a b => h k a (by omega))
    have d := h (i + n) (by omega) (by omega)
    unfold isL at d
    rw [val_st, Int.pow_succ, show lev (S.2 (i + n)) = S.2 (i + n) - 96 from rfl]
    generalize (32 : Int) ^ n = z at *
    omega
end TOKW
