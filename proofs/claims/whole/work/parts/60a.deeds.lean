/-! DEEDS: what comes of them -/
section DEE
variable {b : Nat} {a : AS} {G : Hp} {T : TT}
def dBeg (a : AS) (n : Int) : AS := dLs (dIn a n) n (fun k => if k = 0 then n else -1)
def eBeg (T : TT) (a : AS) (n : Int) : Int × AS := if 0 ≤ n ∧ n < tN T ∧ a.1 = 0 then (1, dBeg a n) else (0, a)
def eJoin (T : TT) (a : AS) (n y : Int) : Int × AS := if 0 ≤ n ∧ n < tN T ∧ isi a n = 0 ∧ isi a y = 1 ∧ skf T a y (tp T n) ≠ -1 then (skf T a y (tp T n), dLs (dIn a n) n (nls T a n (skf T a y (tp T n)))) else (-1, a)
def dPs (a : AS) (f t : Int) : AS := dH a (fun k => if hld a k = f then t else hld a k)
def eLeave (a : AS) (n : Int) : Int × AS := if isi a n = 1 ∧ fst4 a a.1 n ≠ -1 ∧ fst4 a a.1 n ≠ n then (1, dOut (dPs a n (fst4 a a.1 n)) n) else (0, a)
noncomputable def eFail (a : AS) (n : Int) : Int × AS := if isi a n = 1 then (pcn (bits (fun k => hld a k = n) 10), dOut (dPs a n (-1)) n) else (-1, a)
def mnt (T : TT) (a : AS) (n : Int) : Int := if isi a (ahd a (fst4 a a.1 n)) = 1 ∧ wT T n (ahd a (fst4 a a.1 n)) < wT T n (fst4 a a.1 n) then ahd a (fst4 a a.1 n) else fst4 a a.1 n
def rcK (T : TT) (a : AS) (m n : Int) : Int → Int := fun k => if tk T n ≠ 2 ∧ k < tK T ∧ hld a k = m ∧ wT T n m < wy (tC T) (tp T n) (tl T k) then n else hld a k
def dRec (T : TT) (a : AS) (m n : Int) : AS := if m = n ∨ (isi a (ahd a m) = 1 ∧ ¬ wT T (ahd a m) n < wT T (ahd a m) m) then a else dH (dA a m n) (rcK T a m n)
def eTidy (T : TT) (a : AS) (n : Int) : Int × AS := if isi a n = 1 ∧ fst4 a a.1 n ≠ -1 then (mnt T a n, dRec T (dLs a n (nls T a n (mnt T a n))) (mnt T a n) n) else (-1, a)
noncomputable def eFlush (a : AS) (n : Int) : Int × AS := if isi a n = 1 then (gFl a n, dFl a n) else (-1, a)
def fp (T : TT) (n i : Int) : Int := if tp T n + 2 ^ i.toNat < tC T then tp T n + 2 ^ i.toNat else tp T n + 2 ^ i.toNat - tC T
def eFix (T : TT) (a : AS) (n i : Int) : Int × AS := if isi a n = 1 ∧ tk T n ≠ 3 ∧ 0 ≤ i ∧ i < 8 ∧ 2 ^ i.toNat < tC T then (1, dF a n (fun j => if j = i then skf T a n (fp T n i) else fng a n j)) else (0, a)
def mnS (T : TT) (a : AS) (n : Int) : Nat → Int × AS
  | 0 => (0, a)
  | i + 1 => ((mnS T a n i).1 + (if fng (eFix T (mnS T a n i).2 n i).2 n i = fng (mnS T a n i).2 n i then 0 else 1), (eFix T (mnS T a n i).2 n i).2)
def eMend (T : TT) (a : AS) (n : Int) : Int × AS := if isi a n = 1 ∧ tk T n ≠ 3 then mnS T a n 8 else (-1, a)
def ePut (T : TT) (a : AS) (k y : Int) : Int × AS := if 0 ≤ k ∧ k < tK T ∧ isi a y = 1 ∧ skf T a y (tl T k) ≠ -1 then (skf T a y (tl T k), dH a (fun j => if j = k then skf T a y (tl T k) else hld a j)) else (-1, a)
def hnK (T : TT) (a : AS) (n : Int) : Int → Int := fun k => if k < tK T ∧ hld a k = n ∧ skf T a n (tl T k) ≠ -1 then skf T a n (tl T k) else hld a k
noncomputable def eHand (T : TT) (a : AS) (n : Int) : Int × AS := if isi a n = 1 then (cnt (fun k => hld a k = n ∧ skf T a n (tl T k) ≠ -1 ∧ skf T a n (tl T k) ≠ n) (tK T).toNat, dH a (hnK T a n)) else (-1, a)
/-- finding goes by who is in, lists and fingers -/
theorem fst4_cg {a' : AS} {n : Int} (h1 : a.1 = a'.1) (h2 : ∀ n k, lst a n k = lst a' n k) : fst4 a a.1 n = fst4 a' a'.1 n := by unfold fst4; rw [h1]; simp only [h2]
theorem farA_cg {a' : AS} {n bd : Int} (h1 : a.1 = a'.1) (h2 : ∀ n k, lst a n k = lst a' n k) (h3 : ∀ n k, fng a n k = fng a' n k) : ∀ i, farA T a n bd i = farA T a' n bd i
  | 0 => rfl
  | i + 1 => by
    have e : ∀ o, isi a o = isi a' o := fun o => by unfold isi; rw [h1]
    rw [farA, farA, farA_cg h1 h2 h3 i]; unfold fs cnd; simp only [h2, h3, e]
theorem skN_cg {a' : AS} {n p : Int} (h1 : a.1 = a'.1) (h2 : ∀ n k, lst a n k = lst a' n k) (h3 : ∀ n k, fng a n k = fng a' n k) : ∀ i, skN T a p n i = skN T a' p n i
  | 0 => rfl
  | i + 1 => by rw [skN, skN, skN_cg h1 h2 h3 i]; unfold farb; rw [farA_cg h1 h2 h3]
theorem skF_cg {a' : AS} {n p : Int} (h1 : a.1 = a'.1) (h2 : ∀ n k, lst a n k = lst a' n k) (h3 : ∀ n k, fng a n k = fng a' n k) : ∀ f i, skF T a p n f i = skF T a' p n f i
  | 0, i => by rw [skF, skF]; simp only [skN_cg h1 h2 h3, fst4_cg h1 h2]
  | f + 1, i => by rw [skF, skF]; simp only [skN_cg h1 h2 h3, fst4_cg h1 h2, skF_cg h1 h2 h3 f (i + 1)]
theorem skf_cg {a' : AS} {n p : Int} (h1 : a.1 = a'.1) (h2 : ∀ n k, lst a n k = lst a' n k) (h3 : ∀ n k, fng a n k = fng a' n k) : skf T a n p = skf T a' n p := by unfold skf; rw [skF_cg h1 h2 h3]
theorem skf_H {h : Int → Int} {n p : Int} : skf T (dH a h) n p = skf T a n p := skf_cg rfl (fun n k => dH_lst h n k) (fun n k => dH_fng h n k)
theorem WA.tpC (hw : WA T a) (w : WT T) {n : Int} (h : isi a n = 1) : 0 ≤ tp T n ∧ tp T n < tC T := by
  have := hw.inr (n := n)
  exact w.pl (by omega) (by omega)
theorem WA.tlC (hw : WA T a) (w : WT T) {n k : Int} (h : isi a n = 1) (h1 : 0 ≤ k) (h2 : k < tK T) : 0 ≤ tl T k ∧ tl T k < tC T := by
  have := hw.tpC w h
  have := w.li h1 h2
  omega
theorem x_seek2 (w : WT T) (hw : WA T a) (hA_G : XA 27 a G) (hT_G : XT T G) {n p : Int} : WP (fX1_seek 29 n p G) (fun r G' => (∀ c, c ≠ 29 → c ≠ 30 → G' c = G c) ∧ (isi a n = 1 ∧ 0 ≤ p ∧ p < tC T → G' 29 3 = skf T a n p ∧ G' 29 4 = skt T a n p ∧ ((r = 0 ∧ skf T a n p = -1) ∨ (r = 1 ∧ skf T a n p ≠ -1)) ∧ ∀ j : Int, 0 ≤ j → j < skt T a n p → G' 30 j.toNat = skN T a p n (j.toNat + 1)) ∧ (¬ (isi a n = 1 ∧ 0 ≤ p ∧ p < tC T) → r = 0 ∧ G' 29 3 = -1)) := by
  refine (x_seek w hw hA_G hT_G).mono (fun r G' q => ⟨q.1, fun c => ?_, fun c => ?_⟩)
  · rcases q.2 with ⟨-, -, -, e1, e2, e3, e4⟩ | ⟨z, -⟩
    · refine ⟨e2, e3, ?_, e4⟩
      by_cases d : skf T a n p = -1
      · rw [if_pos d] at e1; exact Or.inl ⟨e1, d⟩
      · rw [if_neg d] at e1; exact Or.inr ⟨e1, d⟩
    · exact absurd c z
  · rcases q.2 with ⟨z1, z2, z3, -⟩ | ⟨-, e1, e2⟩
    · exact absurd ⟨z1, z2, z3⟩ c
    · exact ⟨e1, e2⟩
theorem ishl_all : ∀ i : Fin 10, ishl 1 (i.val : Int) = 2 ^ i.val := by decide +kernel
theorem ishl_is {i : Int} (h1 : 0 ≤ i) (h2 : i < 10) : ishl 1 i = 2 ^ i.toNat := by
  have := ishl_all ⟨i.toNat, by omega⟩
  simp only [Int.toNat_of_nonneg h1] at this
  exact this
theorem p2r {i : Int} (h2 : i < 10) : 1 ≤ (2 : Int) ^ i.toNat ∧ (2 : Int) ^ i.toNat ≤ 512 := by
  have hi : i.toNat ≤ 9 := by omega
  generalize i.toNat = j at hi
  match j, hi with
  | 0, _ => decide
  | 1, _ => decide
  | 2, _ => decide
  | 3, _ => decide
  | 4, _ => decide
  | 5, _ => decide
  | 6, _ => decide
  | 7, _ => decide
  | 8, _ => decide
  | 9, _ => decide
theorem fp_r (w : WT T) {n i : Int} (h1 : 0 ≤ n) (h2 : n < tN T) (h3 : i < 8) (h4 : 2 ^ i.toNat < tC T) : 0 ≤ fp T n i ∧ fp T n i < tC T := by
  have := w.pl h1 h2
  have := p2r (i := i) (by omega)
  unfold fp; split <;> omega
theorem x_fingerPlace (h : XT T G) (w : WT T) {n i : Int} (h1 : 0 ≤ n) (h2 : n < tN T) (h3 : 0 ≤ i) (h4 : i < 8) : fX8_fingerPlace 4 n i G = some (if 2 ^ i.toNat < tC T then fp T n i else -1, G) := by
  have := w.pl h1 h2
  have := p2r (i := i) (by omega)
  have wr := w.rg
  unfold fX8_fingerPlace
  rw [ishl_is h3 (by omega), h.1]
  simp only [rf_4_5, bd_s, x_place h w h1 h2, br_s]
  rw [iadd_id (by omega) (by omega), isub_id (by omega) (by omega)]
  unfold fp
  grind [rt_s]
theorem irem_t {a b : Int} (ha : okI a) (h3 : 0 < b) (h4 : b ≤ 2147483647) : irem a b = a.tmod b := by
  unfold irem
  have ea : (Int32.ofInt a).toInt = a := by rw [toInt_o32, w32_id ha]
  have eb : (Int32.ofInt b).toInt = b := by rw [toInt_o32, w32_id ⟨by omega, h4⟩]
  rw [Int32.toInt_sub, Int32.toInt_mul, Int32.toInt_div, ea, eb]
  have hm := Int.mul_tdiv_add_tmod a b
  have h1 := Int.tmod_lt_of_pos a h3
  have h2 := Int.lt_tmod_of_pos a h3
  have e : a - a.tdiv b * b = a.tmod b := by rw [Int.mul_comm]; omega
  have e2 : (a - ((a.tdiv b).bmod (2 ^ 32) * b).bmod (2 ^ 32)).bmod (2 ^ 32) = (a - a.tdiv b * b).bmod (2 ^ 32) := by simp
  rw [e2, e]
  exact w32_id ⟨by omega, by omega⟩
theorem irem_is {v c : Int} (h1 : 0 ≤ v) (h2 : v ≤ 2000) (h3 : 0 < c) (h4 : c ≤ 256) : irem v c = v % c := by
  rw [irem_t ⟨by omega, by omega⟩ h3 (by omega), Int.tmod_eq_emod_of_nonneg h1]
theorem m_hasFinger (h : MT T G) (w : WT T) {i : Int} : fX12_hasFinger 111 i G = some (if 0 ≤ i ∧ i < 8 ∧ 2 ^ i.toNat < tC T then 1 else 0, G) := by
  unfold fX12_hasFinger
  rw [m_circle h, bp_s]
  by_cases c : 0 ≤ i ∧ i < 8
  · rw [if_neg (by omega), if_pos c.2, ishl_is c.1 (by omega)]
    by_cases d : 2 ^ i.toNat < tC T
    · rw [if_pos d, if_pos ⟨c.1, c.2, d⟩]; rfl
    · rw [if_neg d, if_neg (fun z => d z.2.2)]; rfl
  · rw [if_neg (c := 0 ≤ i ∧ i < 8 ∧ _) (fun z => c ⟨z.1, z.2.1⟩)]
    by_cases d : i < 0
    · rw [if_pos d]; rfl
    · rw [if_neg d, if_neg (by omega)]; rfl
theorem m_fingerPlace (h : MT T G) (w : WT T) {n i : Int} (h1 : 0 ≤ n) (h2 : n < tN T) (h3 : 0 ≤ i) (h4 : i < 8) (h5 : 2 ^ i.toNat < tC T) : fX12_fingerPlace 111 n i G = some (fp T n i, G) := by
  have wp := w.pl h1 h2
  have p2 := p2r (i := i) (by omega)
  have wr := w.rg
  unfold fX12_fingerPlace
  rw [m_placeOf h w h1 h2, bp_s, m_circle h, bp_s, nz_in (by omega), ishl_is h3 (by omega), iadd_id (by omega) (by omega), irem_is (by omega) (by omega) (by omega) (by omega), rt_s]
  unfold fp
  split
  · rw [Int.emod_eq_of_lt (by omega) (by omega)]
  · rw [← Int.sub_emod_right, Int.emod_eq_of_lt (by omega) (by omega)]
end DEE
