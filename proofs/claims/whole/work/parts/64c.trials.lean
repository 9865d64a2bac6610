section TRI
variable {b : Nat} {a : AS} {G : Hp} {T : TT}
/-! drives -/
theorem lrem_t {a b : Int} (ha : okJ a) (h3 : 0 < b) (h4 : b ≤ 9223372036854775807) : lrem a b = a.tmod b := by
  unfold lrem
  have ea : (Int64.ofInt a).toInt = a := by rw [toInt_o64, w64_id ha]
  have eb : (Int64.ofInt b).toInt = b := by rw [toInt_o64, w64_id ⟨by omega, h4⟩]
  rw [Int64.toInt_sub, Int64.toInt_mul, Int64.toInt_div, ea, eb]
  have hm := Int.mul_tdiv_add_tmod a b
  have h1 := Int.tmod_lt_of_pos a h3
  have h2 := Int.lt_tmod_of_pos a h3
  have e : a - a.tdiv b * b = a.tmod b := by rw [Int.mul_comm]; omega
  have e2 : (a - ((a.tdiv b).bmod (2 ^ 64) * b).bmod (2 ^ 64)).bmod (2 ^ 64) = (a - a.tdiv b * b).bmod (2 ^ 64) := by simp
  rw [e2, e]
  exact w64_id ⟨by omega, by omega⟩
theorem ldiv_t {a b : Int} (h1 : 0 ≤ a) (h2 : a ≤ 9223372036854775807) (h3 : 0 < b) (h4 : b ≤ 9223372036854775807) : ldiv a b = a / b := by
  unfold ldiv
  have ea : (Int64.ofInt a).toInt = a := by rw [toInt_o64, w64_id ⟨by omega, h2⟩]
  have eb : (Int64.ofInt b).toInt = b := by rw [toInt_o64, w64_id ⟨by omega, h4⟩]
  rw [Int64.toInt_div, ea, eb, Int.tdiv_eq_ediv_of_nonneg h1]
  have l := Int.ediv_le_self b h1
  have n := Int.ediv_nonneg h1 (show 0 ≤ b by omega)
  exact w64_id ⟨by omega, by omega⟩
def gN (g : Int) : Int := lrem (ladd (lmul g 1103515245) 12345) 2147483648
def dr (g m : Int) : Int := l2i (lrem (ldiv g 65536) m)
def gok (g : Int) : Prop := 0 ≤ g ∧ g < 2147483648
theorem gN_ok {g : Int} (h : gok g) : gok (gN g) := by
  unfold gok at h
  unfold gN lmul
  rw [w64_id ⟨by omega, by omega⟩]
  unfold ladd
  rw [w64_id ⟨by omega, by omega⟩, lrem_t ⟨by omega, by omega⟩ (by omega) (by omega), Int.tmod_eq_emod_of_nonneg (by omega)]
  exact ⟨Int.emod_nonneg _ (by omega), Int.emod_lt_of_pos _ (by omega)⟩
theorem dr_r {g m : Int} (h : gok g) (h1 : 0 < m) (h2 : m ≤ 8) : 0 ≤ dr g m ∧ dr g m < m := by
  unfold gok at h
  unfold dr
  rw [ldiv_t h.1 (by omega) (by omega) (by omega), lrem_t ⟨by omega, by omega⟩ h1 (by omega), Int.tmod_eq_emod_of_nonneg (by omega)]
  have n := Int.emod_nonneg (g / 65536) (show m ≠ 0 by omega)
  have l := Int.emod_lt_of_pos (g / 65536) h1
  unfold l2i
  rw [w32_id ⟨by omega, by omega⟩]
  exact ⟨n, l⟩
theorem x_draw {m : Int} (h : 0 < m) : fX9_draw 34 m G = some (dr (gN (G 34 6)) m, up G 34 6 (gN (G 34 6))) := by
  unfold fX9_draw
  rw [nz_in (by decide), bh_s, if_pos h, nz_in (by decide), nz_in (by omega), up_at, if_pos ⟨rfl, rfl⟩]; rfl
theorem m_draw {m : Int} (h : 0 < m) : fX12_draw 111 m G = some (dr (gN (G 111 25)) m, up G 111 25 (gN (G 111 25))) := by
  unfold fX12_draw
  rw [nz_in (by decide), bh_s, nz_in (by decide), nz_in (by omega), up_at, if_pos ⟨rfl, rfl⟩]; rfl

end TRI
