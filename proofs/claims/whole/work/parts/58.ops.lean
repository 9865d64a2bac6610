/-! states that are alike -/
def AE (a a' : AS) : Prop := a.1 = a'.1 ∧ (∀ n k, lst a n k = lst a' n k) ∧ (∀ n, ahd a n = ahd a' n) ∧ (∀ n k, fng a n k = fng a' n k) ∧ (∀ k, hld a k = hld a' k)
section AEQ
variable {q b : Nat} {a a' : AS} {G : Hp} {T : TT}
theorem AE.rf (a : AS) : AE a a := ⟨rfl, fun _ _ => rfl, fun _ => rfl, fun _ _ => rfl, fun _ => rfl⟩
theorem AE.sy (h : AE a a') : AE a' a := ⟨h.1.symm, fun n k => (h.2.1 n k).symm, fun n => (h.2.2.1 n).symm, fun n k => (h.2.2.2.1 n k).symm, fun k => (h.2.2.2.2 k).symm⟩
theorem AE.tr {a2 : AS} (h : AE a a') (k : AE a' a2) : AE a a2 := ⟨h.1.trans k.1, fun n i => (h.2.1 n i).trans (k.2.1 n i), fun n => (h.2.2.1 n).trans (k.2.2.1 n), fun n i => (h.2.2.2.1 n i).trans (k.2.2.2.1 n i), fun i => (h.2.2.2.2 i).trans (k.2.2.2.2 i)⟩
theorem AE.i (h : AE a a') (n : Int) : isi a n = isi a' n := by unfold isi; rw [h.1]
theorem AE.n (h : AE a a') (n : Int) : llen a n = llen a' n := llen_c (h.2.1 n)
theorem XA.cg (h : XA q a G) (e : AE a a') : XA q a' G := XA_of (by rw [h.1, e.1]) (fun n k h1 h2 h3 h4 => by rw [h.l h1 h2 h3 h4, e.2.1]) (fun n h1 h2 => by rw [h.ah h1 h2, e.2.2.1]) (fun n k h1 h2 h3 h4 => by rw [h.f h1 h2 h3 h4, e.2.2.2.1]) (fun k h1 h2 => by rw [h.h h1 h2, e.2.2.2.2])
theorem MR.cg (h : MR b a G) (e : AE a a') : MR b a' G := MR_of (fun n h1 h2 => by rw [h.i h1 h2, e.i]) (fun n h1 h2 => by rw [h.n h1 h2, e.n]) (fun n k h1 h2 h3 h4 => by rw [h.l h1 h2 h3 h4, e.2.1]) (fun n h1 h2 => by rw [h.ah h1 h2, e.2.2.1]) (fun n k h1 h2 h3 h4 => by rw [h.f h1 h2 h3 h4, e.2.2.2.1]) (fun k h1 h2 => by rw [h.h h1 h2, e.2.2.2.2])
theorem WA.cg (h : WA T a) (e : AE a a') : WA T a' := by
  refine WA_of (by unfold okv; rw [← e.1]; exact h.1) (fun n x => h.2.1 n (by rw [e.i]; exact x)) (fun n k => by rw [← e.2.1]; exact h.lr n k) (fun n k x => by rw [← e.2.1, ← e.2.1]; exact h.pf x) (fun n k j x y => by rw [← e.2.1, ← e.2.1]; exact h.ds x y) (fun n => by rw [← e.2.2.1]; exact h.ar n) (fun n k => by rw [← e.2.2.2.1]; exact h.fr n k) (fun k => by rw [← e.2.2.2.2]; exact h.hr k) (fun k x => by rw [← e.2.2.2.2]; exact h.kz x) (fun n x => ?_)
  have := h.o (n := n) (by rw [e.i]; exact x)
  exact ⟨fun k => by rw [← e.2.1]; exact this.1 k, by rw [← e.2.2.1]; exact this.2.1, fun k => by rw [← e.2.2.2.1]; exact this.2.2 k⟩
theorem XA_ae (h : XA q a G) (h' : XA q a' G) : AE a a' := by
  refine ⟨h.1.symm.trans h'.1, fun n k => ?_, fun n => ?_, fun n k => ?_, fun k => ?_⟩
  · by_cases c : 0 ≤ n ∧ n < 8 ∧ 0 ≤ k ∧ k < 4
    · rw [← h.l c.1 c.2.1 c.2.2.1 c.2.2.2, h'.l c.1 c.2.1 c.2.2.1 c.2.2.2]
    · unfold lst; rw [if_neg c, if_neg c]
  · by_cases c : 0 ≤ n ∧ n < 8
    · rw [← h.ah c.1 c.2, h'.ah c.1 c.2]
    · unfold ahd; rw [if_neg c, if_neg c]
  · by_cases c : 0 ≤ n ∧ n < 8 ∧ 0 ≤ k ∧ k < 8
    · rw [← h.f c.1 c.2.1 c.2.2.1 c.2.2.2, h'.f c.1 c.2.1 c.2.2.1 c.2.2.2]
    · unfold fng; rw [if_neg c, if_neg c]
  · by_cases c : 0 ≤ k ∧ k < 10
    · rw [← h.h c.1 c.2, h'.h c.1 c.2]
    · unfold hld; rw [if_neg c, if_neg c]
/-- one cell is set: the class -/
theorem XA_L (h : XA q a G) {n k v : Int} (h1 : 0 ≤ n) (h2 : n < 8) (h3 : 0 ≤ k) (h4 : k < 4) : XA q (dLs a n (fun j => if j = k then v else lst a n j)) (up G (q + 1) (4 * n + k).toNat v) := by
  refine XA_of (by rw [up_ne (by omega)]; exact h.1) (fun m j x1 x2 x3 x4 => ?_) (fun m x1 x2 => ?_) (fun m j x1 x2 x3 x4 => ?_) (fun j x1 x2 => ?_)
  · rw [up_at, dLs_lst, h.l x1 x2 x3 x4]; grind
  · rw [up_at, dLs_ahd, h.ah x1 x2, if_neg (by omega)]
  · rw [up_at, dLs_fng, h.f x1 x2 x3 x4, if_neg (by omega)]
  · rw [up_at, dLs_hld, h.h x1 x2, if_neg (by omega)]
theorem XA_A (h : XA q a G) {n v : Int} (h1 : 0 ≤ n) (h2 : n < 8) : XA q (dA a n v) (up G (q + 1) (32 + n).toNat v) := by
  refine XA_of (by rw [up_ne (by omega)]; exact h.1) (fun m j x1 x2 x3 x4 => ?_) (fun m x1 x2 => ?_) (fun m j x1 x2 x3 x4 => ?_) (fun j x1 x2 => ?_)
  · rw [up_at, dA_lst, h.l x1 x2 x3 x4, if_neg (by omega)]
  · rw [up_at, dA_ahd, h.ah x1 x2]; grind
  · rw [up_at, dA_fng, h.f x1 x2 x3 x4, if_neg (by omega)]
  · rw [up_at, dA_hld, h.h x1 x2, if_neg (by omega)]
theorem XA_F (h : XA q a G) {n k v : Int} (h1 : 0 ≤ n) (h2 : n < 8) (h3 : 0 ≤ k) (h4 : k < 8) : XA q (dF a n (fun j => if j = k then v else fng a n j)) (up G (q + 1) (40 + 8 * n + k).toNat v) := by
  refine XA_of (by rw [up_ne (by omega)]; exact h.1) (fun m j x1 x2 x3 x4 => ?_) (fun m x1 x2 => ?_) (fun m j x1 x2 x3 x4 => ?_) (fun j x1 x2 => ?_)
  · rw [up_at, dF_lst, h.l x1 x2 x3 x4, if_neg (by omega)]
  · rw [up_at, dF_ahd, h.ah x1 x2, if_neg (by omega)]
  · rw [up_at, dF_fng, h.f x1 x2 x3 x4]; grind
  · rw [up_at, dF_hld, h.h x1 x2, if_neg (by omega)]
theorem XA_H (h : XA q a G) {k v : Int} (h3 : 0 ≤ k) (h4 : k < 10) : XA q (dH a (fun j => if j = k then v else hld a j)) (up G (q + 1) (104 + k).toNat v) := by
  refine XA_of (by rw [up_ne (by omega)]; exact h.1) (fun m j x1 x2 x3 x4 => ?_) (fun m x1 x2 => ?_) (fun m j x1 x2 x3 x4 => ?_) (fun j x1 x2 => ?_)
  · rw [up_at, dH_lst, h.l x1 x2 x3 x4, if_neg (by omega)]
  · rw [up_at, dH_ahd, h.ah x1 x2, if_neg (by omega)]
  · rw [up_at, dH_fng, h.f x1 x2 x3 x4, if_neg (by omega)]
  · rw [up_at, dH_hld, h.h x1 x2]; grind
theorem XA_I (h : XA q a G) {n : Int} : XA q (dIn a n) (up G q 1 (ent a n)) := by
  refine XA_of (by rw [up_at]; simp; rfl) (fun m j x1 x2 x3 x4 => ?_) (fun m x1 x2 => ?_) (fun m j x1 x2 x3 x4 => ?_) (fun j x1 x2 => ?_)
  · rw [up_ne (by omega), dIn_lst, h.l x1 x2 x3 x4]
  · rw [up_ne (by omega), dIn_ahd, h.ah x1 x2]
  · rw [up_ne (by omega), dIn_fng, h.f x1 x2 x3 x4]
  · rw [up_ne (by omega), dIn_hld, h.h x1 x2]
/-- one cell is set: the reference -/
theorem dA_len (n v m : Int) : llen (dA a n v) m = llen a m := llen_c (fun k => dA_lst n v m k)
theorem dF_len (n : Int) (f : Int → Int) (m : Int) : llen (dF a n f) m = llen a m := llen_c (fun k => dF_lst n f m k)
theorem dH_len (f : Int → Int) (m : Int) : llen (dH a f) m = llen a m := llen_c (fun k => dH_lst f m k)
theorem dIn_len (n m : Int) : llen (dIn a n) m = llen a m := llen_c (fun k => dIn_lst n m k)
theorem MR_A (h : MR b a G) {n v : Int} (h1 : 0 ≤ n) (h2 : n < 8) : MR b (dA a n v) (up G 123 ((b : Int) + 15 * n + 6).toNat v) := by
  refine MR_of (fun m x1 x2 => ?_) (fun m x1 x2 => ?_) (fun m j x1 x2 x3 x4 => ?_) (fun m x1 x2 => ?_) (fun m j x1 x2 x3 x4 => ?_) (fun j x1 x2 => ?_)
  · rw [up_at, dA_isi, h.i x1 x2, if_neg (by omega)]
  · rw [up_at, dA_len, h.n x1 x2, if_neg (by omega)]
  · rw [up_at, dA_lst, h.l x1 x2 x3 x4, if_neg (by omega)]
  · rw [up_at, dA_ahd, h.ah x1 x2]; grind
  · rw [up_at, dA_fng, h.f x1 x2 x3 x4, if_neg (by omega)]
  · rw [up_at, dA_hld, h.h x1 x2, if_neg (by omega)]
theorem MR_F (h : MR b a G) {n k v : Int} (h1 : 0 ≤ n) (h2 : n < 8) (h3 : 0 ≤ k) (h4 : k < 8) : MR b (dF a n (fun j => if j = k then v else fng a n j)) (up G 123 ((b : Int) + 15 * n + 7 + k).toNat v) := by
  refine MR_of (fun m x1 x2 => ?_) (fun m x1 x2 => ?_) (fun m j x1 x2 x3 x4 => ?_) (fun m x1 x2 => ?_) (fun m j x1 x2 x3 x4 => ?_) (fun j x1 x2 => ?_)
  · rw [up_at, dF_isi, h.i x1 x2, if_neg (by omega)]
  · rw [up_at, dF_len, h.n x1 x2, if_neg (by omega)]
  · rw [up_at, dF_lst, h.l x1 x2 x3 x4, if_neg (by omega)]
  · rw [up_at, dF_ahd, h.ah x1 x2, if_neg (by omega)]
  · rw [up_at, dF_fng, h.f x1 x2 x3 x4]; grind
  · rw [up_at, dF_hld, h.h x1 x2, if_neg (by omega)]
theorem MR_H (h : MR b a G) {k v : Int} (h3 : 0 ≤ k) (h4 : k < 10) : MR b (dH a (fun j => if j = k then v else hld a j)) (up G 123 ((b : Int) + 120 + k).toNat v) := by
  refine MR_of (fun m x1 x2 => ?_) (fun m x1 x2 => ?_) (fun m j x1 x2 x3 x4 => ?_) (fun m x1 x2 => ?_) (fun m j x1 x2 x3 x4 => ?_) (fun j x1 x2 => ?_)
  · rw [up_at, dH_isi, h.i x1 x2, if_neg (by omega)]
  · rw [up_at, dH_len, h.n x1 x2, if_neg (by omega)]
  · rw [up_at, dH_lst, h.l x1 x2 x3 x4, if_neg (by omega)]
  · rw [up_at, dH_ahd, h.ah x1 x2, if_neg (by omega)]
  · rw [up_at, dH_fng, h.f x1 x2 x3 x4, if_neg (by omega)]
  · rw [up_at, dH_hld, h.h x1 x2]; grind
theorem MR_I (h : MR b a G) (hv : okv a) {n : Int} (h1 : 0 ≤ n) (h2 : n < 8) : MR b (dIn a n) (up G 123 ((b : Int) + 15 * n).toNat 1) := by
  refine MR_of (fun m x1 x2 => ?_) (fun m x1 x2 => ?_) (fun m j x1 x2 x3 x4 => ?_) (fun m x1 x2 => ?_) (fun m j x1 x2 x3 x4 => ?_) (fun j x1 x2 => ?_)
  · rw [up_at, dIn_isi hv h1 h2, h.i x1 x2]; grind
  · rw [up_at, dIn_len, h.n x1 x2, if_neg (by omega)]
  · rw [up_at, dIn_lst, h.l x1 x2 x3 x4, if_neg (by omega)]
  · rw [up_at, dIn_ahd, h.ah x1 x2, if_neg (by omega)]
  · rw [up_at, dIn_fng, h.f x1 x2 x3 x4, if_neg (by omega)]
  · rw [up_at, dIn_hld, h.h x1 x2, if_neg (by omega)]
/-- steps that come to the same -/
theorem AE_H0 {h : Int → Int} (e : ∀ k, 0 ≤ k → k < 10 → h k = hld a k) : AE a (dH a h) := ⟨rfl, fun n k => (dH_lst h n k).symm, fun n => (dH_ahd h n).symm, fun n k => (dH_fng h n k).symm, fun k => by
  rw [dH_hld]; split
  · rename_i c; exact (e k c.1 c.2).symm
  · rfl⟩
theorem AE_HH {h h2 h3 : Int → Int} (e : ∀ k, 0 ≤ k → k < 10 → h2 k = h3 k) : AE (dH (dH a h) h2) (dH a h3) := ⟨rfl, fun n k => by rw [dH_lst, dH_lst, dH_lst], fun n => by rw [dH_ahd, dH_ahd, dH_ahd], fun n k => by rw [dH_fng, dH_fng, dH_fng], fun k => by
  rw [dH_hld, dH_hld, dH_hld]; split
  · rename_i c; exact e k c.1 c.2
  · rfl⟩
theorem AE_F0 {n : Int} {f : Int → Int} (e : ∀ k, 0 ≤ k → k < 8 → f k = fng a n k) : AE a (dF a n f) := ⟨rfl, fun m k => (dF_lst n f m k).symm, fun m => (dF_ahd n f m).symm, fun m k => by
  rw [dF_fng]; split
  · rename_i c; rw [e k c.2.2.2.1 c.2.2.2.2, c.1]
  · rfl, fun k => (dF_hld n f k).symm⟩
theorem AE_FF {n : Int} {f f2 f3 : Int → Int} (e : ∀ k, 0 ≤ k → k < 8 → f2 k = f3 k) : AE (dF (dF a n f) n f2) (dF a n f3) := ⟨rfl, fun m k => by rw [dF_lst, dF_lst, dF_lst], fun m => by rw [dF_ahd, dF_ahd, dF_ahd], fun m k => by
  rw [dF_fng, dF_fng, dF_fng]; split
  · rename_i c; exact e k c.2.2.2.1 c.2.2.2.2
  · rfl, fun k => by rw [dF_hld, dF_hld, dF_hld]⟩
theorem AE_L0 {n : Int} {f : Int → Int} (e : ∀ k, 0 ≤ k → k < 4 → f k = lst a n k) : AE a (dLs a n f) := ⟨rfl, fun m k => by
  rw [dLs_lst]; split
  · rename_i c; rw [e k c.2.2.2.1 c.2.2.2.2, c.1]
  · rfl, fun m => (dLs_ahd n f m).symm, fun m k => (dLs_fng n f m k).symm, fun k => (dLs_hld n f k).symm⟩
theorem AE_LL {n : Int} {f f2 f3 : Int → Int} (e : ∀ k, 0 ≤ k → k < 4 → f2 k = f3 k) : AE (dLs (dLs a n f) n f2) (dLs a n f3) := ⟨rfl, fun m k => by
  rw [dLs_lst, dLs_lst, dLs_lst]; split
  · rename_i c; exact e k c.2.2.2.1 c.2.2.2.2
  · rfl, fun m => by rw [dLs_ahd, dLs_ahd, dLs_ahd], fun m k => by rw [dLs_fng, dLs_fng, dLs_fng], fun k => by rw [dLs_hld, dLs_hld, dLs_hld]⟩
theorem AE_Hc {f f2 : Int → Int} (e : ∀ k, 0 ≤ k → k < 10 → f k = f2 k) : AE (dH a f) (dH a f2) := ⟨rfl, fun m k => by rw [dH_lst, dH_lst], fun m => by rw [dH_ahd, dH_ahd], fun m k => by rw [dH_fng, dH_fng], fun k => by
  rw [dH_hld, dH_hld]; split
  · rename_i c; exact e k c.1 c.2
  · rfl⟩
theorem AE_Lc {n : Int} {f f2 : Int → Int} (e : ∀ k, 0 ≤ k → k < 4 → f k = f2 k) : AE (dLs a n f) (dLs a n f2) := ⟨rfl, fun m k => by
  rw [dLs_lst, dLs_lst]; split
  · rename_i c; exact e k c.2.2.2.1 c.2.2.2.2
  · rfl, fun m => by rw [dLs_ahd, dLs_ahd], fun m k => by rw [dLs_fng, dLs_fng], fun k => by rw [dLs_hld, dLs_hld]⟩
theorem AE_Fc {n : Int} {f f2 : Int → Int} (e : ∀ k, 0 ≤ k → k < 8 → f k = f2 k) : AE (dF a n f) (dF a n f2) := ⟨rfl, fun m k => by rw [dF_lst, dF_lst], fun m => by rw [dF_ahd, dF_ahd], fun m k => by
  rw [dF_fng, dF_fng]; split
  · rename_i c; exact e k c.2.2.2.1 c.2.2.2.2
  · rfl, fun k => by rw [dF_hld, dF_hld]⟩
theorem AE_Hn {h g : Int → Int} {i : Int} (e : h i = g i) : AE (dH a (fun k => if k < i then h k else g k)) (dH a (fun k => if k < i + 1 then h k else g k)) := AE_Hc (fun k _ _ => by
  by_cases c : k = i
  · rw [c, if_neg (by omega), if_pos (by omega), e]
  · by_cases d : k < i
    · rw [if_pos d, if_pos (by omega)]
    · rw [if_neg d, if_neg (by omega)])
theorem AE_Hs {h g : Int → Int} {i v : Int} (e : h i = v) : AE (dH (dH a (fun k => if k < i then h k else g k)) (fun j => if j = i then v else hld (dH a (fun k => if k < i then h k else g k)) j)) (dH a (fun k => if k < i + 1 then h k else g k)) := AE_HH (fun k k1 k2 => by
  by_cases c : k = i
  · rw [if_pos c, if_pos (by omega), c, e]
  · rw [if_neg c, dH_hld, if_pos ⟨k1, k2⟩]
    by_cases d : k < i
    · rw [if_pos d, if_pos (by omega)]
    · rw [if_neg d, if_neg (by omega)])
end AEQ
section OPS
variable {b : Nat} {a : AS} {G : Hp} {T : TT}
theorem x_enter (h : XA 27 a G) (hv : okv a) {n : Int} (h1 : 0 ≤ n) (h2 : n < 8) : fX6_enter 27 n G = some (0, up G 27 1 (ent a n)) := by
  unfold fX6_enter; rw [if_neg (by omega), if_pos h2, bh_s, h.1, ent_is hv.1 hv.2 h1 h2]; rfl
theorem x_goOut (h : XA 27 a G) (hv : okv a) {n : Int} (h1 : 0 ≤ n) (h2 : n < 8) : WP (fX6_goOut 27 n G) (fun _ G' => (∀ c, c ≠ 27 → c ≠ 28 → G' c = G c) ∧ XA 27 (dOut a n) G') := by
  unfold fX6_goOut
  simp only [rf_27_0]
  refine w_ite (fun c_1 => ?_) (fun c_1 => ?_)
  · skip
    refine w_rt ?_
    exfalso; omega
  · skip
    refine w_ite (fun c_2 => ?_) (fun c_2 => ?_)
    · skip
      refine w_bh (fun G1 hG1 => ?_)
      have e1 : G1 27 1 = gou a n := by rw [hG1, up_at]; simp; rw [h.1, gou_is hv.1 hv.2 h1 h2]; rfl
      have e1c : ∀ c, c ≠ 27 → G1 c = G c := fun c x => by rw [hG1, up_ne x]
      try rw [show iadd 32 n = (32 + n) by simp (disch := omega) only [iadd_id, isub_id, imul_id]]
      refine w_wr (by omega) (by omega) (fun G2 hG2 => ?_)
      have e2c : ∀ c, c ≠ 28 → G2 c = G1 c := fun c x => by rw [hG2, up_ne x]
      have e2 : ∀ j : Nat, G2 28 j = if (j : Int) = 32 + n then -1 else G 28 j := fun j => by rw [hG2, up_at, e1c 28 (by decide)]; grind
      refine w_bd (fun v3 hv3 => ?_)
      refine w_lpIH (fun (v4 : Int) (G5 : Hp) => (0 ≤ v4) ∧ (v4 ≤ 4) ∧ (∀ c, c ≠ 28 → G5 c = G2 c) ∧ (∀ j : Nat, G5 28 j = if 4 * n ≤ (j : Int) ∧ (j : Int) < 4 * n + v4 then -1 else G2 28 j)) (fun (v4 : Int) (G5 : Hp) => (4 - v4).toNat) (fun rc6 v4 G5 hI hrc6 => ?_) _ _ ?_ ?_
      · skip
        obtain ⟨i0, i1, f5, g5⟩ := hI
        refine w_ite (fun c_3 => ?_) (fun c_3 => ?_)
        · skip
          try rw [show iadd (iadd 0 (imul n 4)) v4 = ((0 + (n * 4)) + v4) by simp (disch := omega) only [iadd_id, isub_id, imul_id]]
          refine w_wr (by omega) (by omega) (fun G13 hG13 => ?_)
          refine w_bd (fun v14 hv14 => ?_)
          simp (disch := omega) only [iadd_id, isub_id, imul_id] at hv14
          refine hrc6 _ _ ?_ ?_
          · try dsimp only
            refine ⟨?_, ?_, ?_, ?_⟩
            · first | omega | grind
            · first | omega | grind
            · intro c x; rw [hG13, up_ne x]; exact f5 c x
            · intro j; rw [hG13, up_at, g5]; (repeat' split) <;> first | rfl | (exfalso; omega) | omega
          · try dsimp only
            omega
        · skip
          refine w_bd (fun v7 hv7 => ?_)
          refine w_lpIH (fun (v8 : Int) (G9 : Hp) => (0 ≤ v8) ∧ (v8 ≤ 8) ∧ (∀ c, c ≠ 28 → G9 c = G5 c) ∧ (∀ j : Nat, G9 28 j = if 40 + 8 * n ≤ (j : Int) ∧ (j : Int) < 40 + 8 * n + v8 then -1 else G5 28 j)) (fun (v8 : Int) (G9 : Hp) => (8 - v8).toNat) (fun rc10 v8 G9 hI hrc10 => ?_) _ _ ?_ ?_
          · skip
            obtain ⟨j0, j1, f9, g9⟩ := hI
            refine w_ite (fun c_4 => ?_) (fun c_4 => ?_)
            · skip
              try rw [show iadd (iadd 40 (imul n 8)) v8 = ((40 + (n * 8)) + v8) by simp (disch := omega) only [iadd_id, isub_id, imul_id]]
              refine w_wr (by omega) (by omega) (fun G11 hG11 => ?_)
              refine w_bd (fun v12 hv12 => ?_)
              simp (disch := omega) only [iadd_id, isub_id, imul_id] at hv12
              refine hrc10 _ _ ?_ ?_
              · try dsimp only
                refine ⟨?_, ?_, ?_, ?_⟩
                · first | omega | grind
                · first | omega | grind
                · intro c x; rw [hG11, up_ne x]; exact f9 c x
                · intro j; rw [hG11, up_at, g9]; (repeat' split) <;> first | rfl | (exfalso; omega) | omega
              · try dsimp only
                omega
            · skip
              refine w_rt ?_
              refine ⟨fun c x y => by rw [f9 c y, f5 c y, e2c c y, e1c c x], XA_of ?_ (fun m j x1 x2 x3 x4 => ?_) (fun m x1 x2 => ?_) (fun m j x1 x2 x3 x4 => ?_) (fun j x1 x2 => ?_)⟩
              · rw [f9 27 (by decide), f5 27 (by decide), e2c 27 (by decide), e1]; rfl
              · rw [g9, g5, e2, h.l x1 x2 x3 x4, dOut_lst]; grind
              · rw [g9, g5, e2, h.ah x1 x2, dOut_ahd]; grind
              · rw [g9, g5, e2, h.f x1 x2 x3 x4, dOut_fng]; grind
              · rw [g9, g5, e2, h.h x1 x2, dOut_hld]; grind
          · try dsimp only
            refine ⟨?_, ?_, ?_, ?_⟩
            · first | omega | (subst_vars; first | rfl | assumption) | assumption
            · first | omega | (subst_vars; first | rfl | assumption) | assumption
            · intro c x; rfl
            · intro j; rw [if_neg (by omega)]
          · try dsimp only
            omega
      · try dsimp only
        refine ⟨?_, ?_, ?_, ?_⟩
        · first | omega | (subst_vars; first | rfl | assumption) | assumption
        · first | omega | (subst_vars; first | rfl | assumption) | assumption
        · intro c x; rfl
        · intro j; rw [if_neg (by omega)]
      · try dsimp only
        omega
    · skip
      refine w_rt ?_
      exfalso; omega

theorem x_heldBy (h : XA 27 a G) {n : Int} : fX6_heldBy 27 n G = some (bits (fun k => hld a k = n) 10, G) := by
  unfold fX6_heldBy
  simp only [rf_27_0]
  refine WP_eq ?_
  refine w_bd (fun v1 hv1 => ?_)
  refine w_bd (fun v2 hv2 => ?_)
  refine w_lpII (fun (v3 : Int) (v4 : Int) => (0 ≤ v4) ∧ (v4 ≤ 10) ∧ (v3 = bits (fun k => hld a k = n) v4.toNat)) (fun (v3 : Int) (v4 : Int) => (10 - v4).toNat) (fun rc5 v3 v4 hI hrc5 => ?_) _ _ ?_ ?_
  · skip
    obtain ⟨i0, i1, e⟩ := hI
    refine w_ite (fun c_1 => ?_) (fun c_1 => ?_)
    · skip
      try rw [show iadd 104 v4 = (104 + v4) by simp (disch := omega) only [iadd_id, isub_id, imul_id]]
      refine w_rdv (show rd G 28 114 (104 + v4) = some (hld a v4) from (rd_in (by omega) (by omega)).trans (congrArg some (h.h (by omega) (by omega)))) (fun v6 hv6 => ?_)
      refine w_jn ?_
      refine w_ite (fun c_2 => ?_) (fun c_2 => ?_)
      · skip
        refine w_bd (fun v10 hv10 => ?_)
        refine w_bd (fun v9 hv9 => ?_)
        simp (disch := omega) only [iadd_id, isub_id, imul_id] at hv9
        refine hrc5 _ _ ?_ ?_
        · try dsimp only
          refine ⟨?_, ?_, ?_⟩
          · first | omega | grind
          · first | omega | grind
          · first
            | (rw [hv9, bits_f (p := fun k => hld a k = n) i0 (show ¬ (hld a v4 = n) by omega)]; exact e)
            | (rw [hv9, hv10, e]; exact bits_t (p := fun k => hld a k = n) i0 (by omega) (show hld a v4 = n by omega))
            | (rw [hv9, hv10, e]; exact bits_f0 (p := fun k => hld a k = n) i0 (by omega) (show ¬ (hld a v4 = n) by omega))
        · try dsimp only
          omega
      · skip
        refine w_bd (fun v9 hv9 => ?_)
        simp (disch := omega) only [iadd_id, isub_id, imul_id] at hv9
        refine hrc5 _ _ ?_ ?_
        · try dsimp only
          refine ⟨?_, ?_, ?_⟩
          · first | omega | grind
          · first | omega | grind
          · first
            | (rw [hv9, bits_f (p := fun k => hld a k = n) i0 (show ¬ (hld a v4 = n) by omega)]; exact e)
            | (rw [hv9, hv10, e]; exact bits_t (p := fun k => hld a k = n) i0 (by omega) (show hld a v4 = n by omega))
            | (rw [hv9, hv10, e]; exact bits_f0 (p := fun k => hld a k = n) i0 (by omega) (show ¬ (hld a v4 = n) by omega))
        · try dsimp only
          omega
    · skip
      refine w_rt ?_
      refine ⟨?_, rfl⟩
      rw [e, show v4.toNat = 10 by omega]
  · try dsimp only
    refine ⟨?_, ?_, ?_⟩
    · first | omega | (subst_vars; first | rfl | assumption) | assumption
    · first | omega | (subst_vars; first | rfl | assumption) | assumption
    · first | omega | (subst_vars; first | rfl | assumption) | assumption
  · try dsimp only
    omega

theorem x_heldKeys (h : XA 27 a G) : fX6_heldKeys 27 G = some (cnt (fun k => hld a k ≠ -1) 10, G) := by
  unfold fX6_heldKeys
  simp only [rf_27_0]
  refine WP_eq ?_
  refine w_bd (fun v1 hv1 => ?_)
  refine w_bd (fun v2 hv2 => ?_)
  refine w_lpII (fun (v3 : Int) (v4 : Int) => (0 ≤ v4) ∧ (v4 ≤ 10) ∧ (v3 = cnt (fun k => hld a k ≠ -1) v4.toNat)) (fun (v3 : Int) (v4 : Int) => (10 - v4).toNat) (fun rc5 v3 v4 hI hrc5 => ?_) _ _ ?_ ?_
  · skip
    obtain ⟨i0, i1, e⟩ := hI
    have r := cnt_r (fun k => hld a k ≠ -1) v4.toNat
    refine w_ite (fun c_1 => ?_) (fun c_1 => ?_)
    · skip
      try rw [show iadd 104 v4 = (104 + v4) by simp (disch := omega) only [iadd_id, isub_id, imul_id]]
      refine w_rdv (show rd G 28 114 (104 + v4) = some (hld a v4) from (rd_in (by omega) (by omega)).trans (congrArg some (h.h (by omega) (by omega)))) (fun v6 hv6 => ?_)
      refine w_jn ?_
      refine w_ite (fun c_2 => ?_) (fun c_2 => ?_)
      · skip
        refine w_bd (fun v9 hv9 => ?_)
        simp (disch := omega) only [iadd_id, isub_id, imul_id] at hv9
        refine hrc5 _ _ ?_ ?_
        · try dsimp only
          refine ⟨?_, ?_, ?_⟩
          · first | omega | grind
          · first | omega | grind
          · first
            | (rw [hv9, cnt_f (p := fun k => hld a k ≠ -1) i0 (show ¬ (hld a v4 ≠ -1) by omega)]; exact e)
            | (rw [hv9, hv10, e, cnt_t (p := fun k => hld a k ≠ -1) i0 (show hld a v4 ≠ -1 by omega)]; done)
            | (rw [hv9, hv10, e, cnt_f (p := fun k => hld a k ≠ -1) i0 (show ¬ (hld a v4 ≠ -1) by omega)]; omega)
        · try dsimp only
          omega
      · skip
        refine w_bd (fun v10 hv10 => ?_)
        simp (disch := omega) only [iadd_id, isub_id, imul_id] at hv10
        refine w_bd (fun v9 hv9 => ?_)
        simp (disch := omega) only [iadd_id, isub_id, imul_id] at hv9
        refine hrc5 _ _ ?_ ?_
        · try dsimp only
          refine ⟨?_, ?_, ?_⟩
          · first | omega | grind
          · first | omega | grind
          · first
            | (rw [hv9, cnt_f (p := fun k => hld a k ≠ -1) i0 (show ¬ (hld a v4 ≠ -1) by omega)]; exact e)
            | (rw [hv9, hv10, e, cnt_t (p := fun k => hld a k ≠ -1) i0 (show hld a v4 ≠ -1 by omega)]; done)
            | (rw [hv9, hv10, e, cnt_f (p := fun k => hld a k ≠ -1) i0 (show ¬ (hld a v4 ≠ -1) by omega)]; omega)
        · try dsimp only
          omega
    · skip
      refine w_rt ?_
      refine ⟨?_, rfl⟩
      rw [e, show v4.toNat = 10 by omega]
  · try dsimp only
    refine ⟨?_, ?_, ?_⟩
    · first | omega | (subst_vars; first | rfl | assumption) | assumption
    · first | omega | (subst_vars; first | rfl | assumption) | assumption
    · first | omega | (subst_vars; first | rfl | assumption) | assumption
  · try dsimp only
    omega

theorem x_passKeys (h : XA 27 a G) {f t : Int} : WP (fX6_passKeys 27 f t G) (fun _ G' => (∀ c, c ≠ 28 → G' c = G c) ∧ XA 27 (dH a (fun k => if hld a k = f then t else hld a k)) G') := by
  unfold fX6_passKeys
  simp only [rf_27_0]
  refine w_bd (fun v1 hv1 => ?_)
  refine w_lpIH (fun (v2 : Int) (G3 : Hp) => (0 ≤ v2) ∧ (v2 ≤ 10) ∧ (∀ c, c ≠ 28 → G3 c = G c) ∧ (XA 27 (dH a (fun k => if k < v2 ∧ hld a k = f then t else hld a k)) G3)) (fun (v2 : Int) (G3 : Hp) => (10 - v2).toNat) (fun rc4 v2 G3 hI hrc4 => ?_) _ _ ?_ ?_
  · skip
    obtain ⟨i0, i1, f3, x3⟩ := hI
    refine w_ite (fun c_1 => ?_) (fun c_1 => ?_)
    · skip
      try rw [show iadd 104 v2 = (104 + v2) by simp (disch := omega) only [iadd_id, isub_id, imul_id]]
      refine w_rdv (show rd G3 28 114 (104 + v2) = some (hld a v2) from (rd_in (by omega) (by omega)).trans (congrArg some (by rw [x3.h (by omega) (by omega), dH_hld, if_pos (by omega), if_neg (by omega)]))) (fun v5 hv5 => ?_)
      refine w_jn ?_
      refine w_ite (fun c_2 => ?_) (fun c_2 => ?_)
      · skip
        try rw [show iadd 104 v2 = (104 + v2) by simp (disch := omega) only [iadd_id, isub_id, imul_id]]
        refine w_wr (by omega) (by omega) (fun G9 hG9 => ?_)
        refine w_bd (fun v8 hv8 => ?_)
        simp (disch := omega) only [iadd_id, isub_id, imul_id] at hv8
        refine hrc4 _ _ ?_ ?_
        · try dsimp only
          refine ⟨?_, ?_, ?_, ?_⟩
          · first | omega | grind
          · first | omega | grind
          · first | exact f3 | (intro c x; rw [hG9, up_ne x]; exact f3 c x)
          · first
            | (rw [hG9]; refine (XA_H x3 (by omega) (by omega)).cg (AE_HH (fun k k1 k2 => ?_)); rw [dH_hld]; grind)
            | (refine x3.cg (AE_Hc (fun k k1 k2 => ?_)); grind)
        · try dsimp only
          omega
      · skip
        refine w_bd (fun v8 hv8 => ?_)
        simp (disch := omega) only [iadd_id, isub_id, imul_id] at hv8
        refine hrc4 _ _ ?_ ?_
        · try dsimp only
          refine ⟨?_, ?_, ?_, ?_⟩
          · first | omega | grind
          · first | omega | grind
          · first | exact f3 | (intro c x; rw [hG9, up_ne x]; exact f3 c x)
          · first
            | (rw [hG9]; refine (XA_H x3 (by omega) (by omega)).cg (AE_HH (fun k k1 k2 => ?_)); rw [dH_hld]; grind)
            | (refine x3.cg (AE_Hc (fun k k1 k2 => ?_)); grind)
        · try dsimp only
          omega
    · skip
      refine w_rt ?_
      refine ⟨f3, x3.cg ?_⟩
      refine ⟨rfl, fun m k => by rw [dH_lst, dH_lst], fun m => by rw [dH_ahd, dH_ahd], fun m k => by rw [dH_fng, dH_fng], fun k => ?_⟩
      rw [dH_hld, dH_hld]; grind
  · try dsimp only
    refine ⟨?_, ?_, ?_, ?_⟩
    · first | omega | (subst_vars; first | rfl | assumption) | assumption
    · first | omega | (subst_vars; first | rfl | assumption) | assumption
    · intro c x; rfl
    · refine h.cg (AE_H0 (fun k k1 k2 => ?_)); rw [if_neg (by omega)]
  · try dsimp only
    omega

theorem x_clear {q : Nat} (hq : rf q 0 = q + 1) : WP (fX6_clear q G) (fun _ G' => (∀ c, c ≠ q → c ≠ q + 1 → G' c = G c) ∧ (∀ k, k ≠ 1 → G' q k = G q k) ∧ XA q (0, fun _ => -1) G') := by
  unfold fX6_clear
  rw [hq]
  refine w_bh (fun G1 hG1 => ?_)
  refine w_bd (fun v2 hv2 => ?_)
  refine w_lpIH (fun (v3 : Int) (G4 : Hp) => (0 ≤ v3) ∧ (v3 ≤ 114) ∧ (∀ c, c ≠ q → c ≠ q + 1 → G4 c = G c) ∧ (∀ k, G4 q k = G1 q k) ∧ (∀ j : Nat, (j : Int) < v3 → G4 (q + 1) j = -1)) (fun v3 _ => (114 - v3).toNat) (fun rc5 v3 G4 hI hrc5 => ?_) _ _ ?_ ?_
  · obtain ⟨i0, i1, f, g, hx⟩ := hI
    refine w_ite (fun c => ?_) (fun c => ?_)
    · refine w_wr (by omega) (by omega) (fun G6 hG6 => ?_)
      refine w_bd (fun v7 hv7 => ?_)
      rw [iadd_id (by omega) (by omega)] at hv7
      refine hrc5 _ _ ⟨by omega, by omega, fun c x y => by rw [hG6, up_ne y]; exact f c x y, fun k => by rw [hG6, up_ne (by omega)]; exact g k, fun j hj => ?_⟩ (by show (114 - v7).toNat < (114 - v3).toNat; omega)
      rw [hG6, up_at]
      by_cases e : j = v3.toNat
      · rw [if_pos ⟨rfl, e⟩]
      · rw [if_neg (fun z => e z.2)]; exact hx j (by omega)
    · refine w_rt ⟨f, fun k hk => by rw [g, hG1, up_at, if_neg (fun z => hk z.2)], by rw [g, hG1, up_at]; simp, fun j hj => hx j (by omega)⟩
  · exact ⟨by omega, by omega, fun c x y => by rw [hG1, up_ne x], fun k => rfl, fun j hj => by omega⟩
  · show (114 - v2).toNat < 5000; omega
theorem x_copyFrom {p q : Nat} (hq : rf q 0 = q + 1) (hp : rf p 0 = p + 1) (hpq : p ≠ q) (hpq1 : p + 1 ≠ q) (hpq2 : p ≠ q + 1) (h : XA p a G) : WP (fX6_copyFrom q p G) (fun _ G' => (∀ c, c ≠ q → c ≠ q + 1 → G' c = G c) ∧ (∀ k, k ≠ 1 → G' q k = G q k) ∧ XA q a G') := by
  unfold fX6_copyFrom
  rw [hq, hp]
  refine w_bh (fun G1 hG1 => ?_)
  unfold cpO
  rw [if_pos (by decide), bs_s]
  refine w_rt ⟨fun c x y => ?_, fun k hk => ?_, ?_, fun j hj => ?_⟩
  · unfold cpy; rw [if_neg y, hG1, up_ne x]
  · unfold cpy; rw [if_neg (by omega), hG1, up_at, if_neg (fun z => hk z.2)]
  · unfold cpy; rw [if_neg (by omega), hG1, up_at]; simp; exact h.1
  · unfold cpy; rw [if_pos rfl, if_pos ⟨by show (0 : Int).toNat ≤ j; simp, by show j < (0 : Int).toNat + (114 : Int).toNat; omega⟩, hG1, up_ne (by omega)]
    rw [show (0 : Int).toNat + (j - (0 : Int).toNat) = j by simp]
    exact h.2 j hj
theorem x_isLike {p q : Nat} {a' : AS} (hq : rf q 0 = q + 1) (hp : rf p 0 = p + 1) (h : XA p a G) (h' : XA q a' G) : WP (fX6_isLike p q G) (fun r G' => G' = G ∧ ((r = 1 ∧ AE a a') ∨ (r = 0 ∧ ¬ AE a a'))) := by
  unfold fX6_isLike
  rw [hq, hp, h.1, h'.1]
  refine w_ite (fun c => ?_) (fun c => ?_)
  · refine w_bd (fun v1 hv1 => ?_)
    refine w_lpI (fun (v2 : Int) => (0 ≤ v2) ∧ (v2 ≤ 114) ∧ (∀ j : Nat, (j : Int) < v2 → G (p + 1) j = G (q + 1) j)) (fun v2 => (114 - v2).toNat) (fun rc3 v2 hI hrc3 => ?_) _ ?_ ?_
    · obtain ⟨i0, i1, hx⟩ := hI
      refine w_ite (fun c2 => ?_) (fun c2 => ?_)
      · refine w_rd (by omega) (by omega) (fun v4 hv4 => ?_)
        refine w_rd (by omega) (by omega) (fun v5 hv5 => ?_)
        refine w_ite (fun c3 => ?_) (fun c3 => ?_)
        · refine w_bd (fun v6 hv6 => ?_)
          rw [iadd_id (by omega) (by omega)] at hv6
          refine hrc3 _ ⟨by omega, by omega, fun j hj => ?_⟩ (by show (114 - v6).toNat < (114 - v2).toNat; omega)
          by_cases e : j = v2.toNat
          · rw [e, ← hv4, ← hv5, c3]
          · exact hx j (by omega)
        · refine w_rz (Or.inl rfl) ⟨rfl, Or.inr ⟨rfl, fun e => c3 ?_⟩⟩
          rw [hv4, hv5, (h.cg e).2 _ (by omega), h'.2 _ (by omega)]
      · refine w_rz (Or.inr rfl) ⟨rfl, Or.inl ⟨rfl, XA_ae (q := q) ⟨by rw [h'.1, c], fun j hj => ?_⟩ h'⟩⟩
        rw [← hx j (by omega)]; exact h.2 j hj
    · exact ⟨by omega, by omega, fun j hj => by omega⟩
    · show (114 - v1).toNat < 5000; omega
  · refine w_rz (Or.inl rfl) ⟨rfl, Or.inr ⟨rfl, fun e => c e.1⟩⟩
theorem m_goesOut (hb : b ≤ 3410) (h : MR b a G) (hv : okv a) {n : Int} (h1 : 0 ≤ n) (h2 : n < 8) : WP (fX12_goesOut 111 b n G) (fun _ G' => (∀ c, c ≠ 123 → G' c = G c) ∧ (∀ i, i < b ∨ b + 130 ≤ i → G' 123 i = G 123 i) ∧ MR b (dOut a n) G') := by
  unfold fX12_goesOut
  simp only [rf_111_17]
  refine w_bd (fun v1 hv1 => ?_)
  simp (disch := omega) only [iadd_id, isub_id, imul_id] at hv1
  refine w_bd (fun v2 hv2 => ?_)
  refine w_lpIH (fun (v3 : Int) (G4 : Hp) => (0 ≤ v3) ∧ (v3 ≤ 15) ∧ (∀ c, c ≠ 123 → G4 c = G c) ∧ (∀ j : Nat, G4 123 j = if b + 15 * n ≤ (j : Int) ∧ (j : Int) < b + 15 * n + v3 then (if (j : Int) ≤ b + 15 * n + 1 then 0 else -1) else G 123 j)) (fun (v3 : Int) (G4 : Hp) => (15 - v3).toNat) (fun rc5 v3 G4 hI hrc5 => ?_) _ _ ?_ ?_
  · skip
    obtain ⟨i0, i1, f4, g4⟩ := hI
    refine w_ite (fun c_1 => ?_) (fun c_1 => ?_)
    · skip
      refine w_jn ?_
      refine w_ite (fun c_2 => ?_) (fun c_2 => ?_)
      · skip
        try rw [show iadd v1 v3 = (v1 + v3) by simp (disch := omega) only [iadd_id, isub_id, imul_id]]
        refine w_wr (by omega) (by omega) (fun G8 hG8 => ?_)
        refine w_bd (fun v9 hv9 => ?_)
        simp (disch := omega) only [iadd_id, isub_id, imul_id] at hv9
        refine hrc5 _ _ ?_ ?_
        · try dsimp only
          refine ⟨?_, ?_, ?_, ?_⟩
          · first | omega | grind
          · first | omega | grind
          · intro c x; rw [hG8, up_ne x]; exact f4 c x
          · intro j; rw [hG8, up_at, g4]; (repeat' split) <;> first | rfl | (exfalso; omega) | omega
        · try dsimp only
          omega
      · skip
        try rw [show iadd v1 v3 = (v1 + v3) by simp (disch := omega) only [iadd_id, isub_id, imul_id]]
        refine w_wr (by omega) (by omega) (fun G8 hG8 => ?_)
        refine w_bd (fun v9 hv9 => ?_)
        simp (disch := omega) only [iadd_id, isub_id, imul_id] at hv9
        refine hrc5 _ _ ?_ ?_
        · try dsimp only
          refine ⟨?_, ?_, ?_, ?_⟩
          · first | omega | grind
          · first | omega | grind
          · intro c x; rw [hG8, up_ne x]; exact f4 c x
          · intro j; rw [hG8, up_at, g4]; (repeat' split) <;> first | rfl | (exfalso; omega) | omega
        · try dsimp only
          omega
    · skip
      refine w_rt ?_
      have hlen : ∀ m, m ≠ n → llen (dOut a n) m = llen a m := fun m hm => llen_c (fun k => by rw [dOut_lst, if_neg hm])
      have hlen0 : llen (dOut a n) n = 0 := by unfold llen; rw [dOut_lst, if_pos rfl, if_pos rfl]
      refine ⟨f4, fun i x => by rw [g4, if_neg (by omega)], MR_of (fun m x1 x2 => ?_) (fun m x1 x2 => ?_) (fun m j x1 x2 x3 x4 => ?_) (fun m x1 x2 => ?_) (fun m j x1 x2 x3 x4 => ?_) (fun j x1 x2 => ?_)⟩
      · rw [g4, dOut_isi hv h1 h2, h.i x1 x2]; grind
      · rw [g4, h.n x1 x2]
        by_cases e : m = n
        · rw [e, hlen0, if_pos (by omega), if_pos (by omega)]
        · rw [hlen m e, if_neg (by omega)]
      · rw [g4, dOut_lst, h.l x1 x2 x3 x4]; grind
      · rw [g4, dOut_ahd, h.ah x1 x2]; grind
      · rw [g4, dOut_fng, h.f x1 x2 x3 x4]; grind
      · rw [g4, dOut_hld, h.h x1 x2]; grind
  · try dsimp only
    refine ⟨?_, ?_, ?_, ?_⟩
    · first | omega | (subst_vars; first | rfl | assumption) | assumption
    · first | omega | (subst_vars; first | rfl | assumption) | assumption
    · intro c x; rfl
    · intro j; rw [if_neg (by omega)]
  · try dsimp only
    omega

theorem m_listIs (hb : b ≤ 3410) (h : MR b a G) {n m : Int} (h1 : 0 ≤ n) (h2 : n < 8) (h3 : 0 ≤ m) (h4 : m ≤ 4) {l : Int → Int} (hl1 : ∀ k : Int, 0 ≤ k → k < m → l k ≠ -1 ∧ G 127 k.toNat = l k) (hl2 : ∀ k : Int, m ≤ k → l k = -1) : WP (fX12_listIs 111 b n m G) (fun _ G' => (∀ c, c ≠ 123 → G' c = G c) ∧ (∀ i, i < b ∨ b + 130 ≤ i → G' 123 i = G 123 i) ∧ MR b (dLs a n l) G') := by
  unfold fX12_listIs
  simp only [rf_111_17, rf_111_23]
  try rw [show iadd (iadd b (imul 15 n)) 1 = ((b + (15 * n)) + 1) by simp (disch := omega) only [iadd_id, isub_id, imul_id]]
  refine w_wr (by omega) (by omega) (fun G1 hG1 => ?_)
  refine w_bd (fun v2 hv2 => ?_)
  refine w_lpIH (fun (v3 : Int) (G4 : Hp) => (0 ≤ v3) ∧ (v3 ≤ 4) ∧ (∀ c, c ≠ 123 → G4 c = G c) ∧ (∀ j : Nat, G4 123 j = if (j : Int) = b + 15 * n + 1 then m else if b + 15 * n + 2 ≤ (j : Int) ∧ (j : Int) < b + 15 * n + 2 + v3 then l ((j : Int) - (b + 15 * n + 2)) else G 123 j)) (fun (v3 : Int) (G4 : Hp) => (4 - v3).toNat) (fun rc5 v3 G4 hI hrc5 => ?_) _ _ ?_ ?_
  · skip
    obtain ⟨i0, i1, f4, g4⟩ := hI
    refine w_ite (fun c_1 => ?_) (fun c_1 => ?_)
    · skip
      refine w_jn ?_
      refine w_ite (fun c_2 => ?_) (fun c_2 => ?_)
      · skip
        refine w_rd (by omega) (by omega) (fun v10 hv10 => ?_)
        try rw [show iadd (iadd (iadd b (imul 15 n)) 2) v3 = (((b + (15 * n)) + 2) + v3) by simp (disch := omega) only [iadd_id, isub_id, imul_id]]
        refine w_wr (by omega) (by omega) (fun G8 hG8 => ?_)
        refine w_bd (fun v9 hv9 => ?_)
        simp (disch := omega) only [iadd_id, isub_id, imul_id] at hv9
        refine hrc5 _ _ ?_ ?_
        · try dsimp only
          refine ⟨?_, ?_, ?_, ?_⟩
          · first | omega | grind
          · first | omega | grind
          · intro c x; rw [hG8, up_ne x]; exact f4 c x
          · intro j; rw [hG8, up_at, g4]
            have q1 := hl1 v3 i0
            have q2 := hl2 v3
            have q3 := f4 127 (by decide)
            by_cases e : (j : Int) = b + 15 * n + 2 + v3
            · rw [if_pos ⟨rfl, by omega⟩, if_neg (by omega), if_pos (by omega), show (j : Int) - (b + 15 * n + 2) = v3 by omega]; grind
            · rw [if_neg (by omega)]; grind
        · try dsimp only
          omega
      · skip
        try rw [show iadd (iadd (iadd b (imul 15 n)) 2) v3 = (((b + (15 * n)) + 2) + v3) by simp (disch := omega) only [iadd_id, isub_id, imul_id]]
        refine w_wr (by omega) (by omega) (fun G8 hG8 => ?_)
        refine w_bd (fun v9 hv9 => ?_)
        simp (disch := omega) only [iadd_id, isub_id, imul_id] at hv9
        refine hrc5 _ _ ?_ ?_
        · try dsimp only
          refine ⟨?_, ?_, ?_, ?_⟩
          · first | omega | grind
          · first | omega | grind
          · intro c x; rw [hG8, up_ne x]; exact f4 c x
          · intro j; rw [hG8, up_at, g4]
            have q1 := hl1 v3 i0
            have q2 := hl2 v3
            have q3 := f4 127 (by decide)
            by_cases e : (j : Int) = b + 15 * n + 2 + v3
            · rw [if_pos ⟨rfl, by omega⟩, if_neg (by omega), if_pos (by omega), show (j : Int) - (b + 15 * n + 2) = v3 by omega]; grind
            · rw [if_neg (by omega)]; grind
        · try dsimp only
          omega
    · skip
      refine w_rt ?_
      have hlen : ∀ i, i ≠ n → llen (dLs a n l) i = llen a i := fun i hm => llen_c (fun k => by rw [dLs_lst, if_neg (fun z => hm z.1)])
      have hlen0 : llen (dLs a n l) n = m := llen_of h3 h4 (fun k k1 k2 => by rw [dLs_lst, if_pos ⟨rfl, h1, h2, k1, by omega⟩]; exact (hl1 k k1 k2).1) (fun k k1 k2 => by rw [dLs_lst, if_pos ⟨rfl, h1, h2, by omega, k2⟩]; exact hl2 k k1)
      refine ⟨f4, fun i x => by rw [g4, if_neg (by omega), if_neg (by omega)], MR_of (fun i x1 x2 => ?_) (fun i x1 x2 => ?_) (fun i j x1 x2 x3 x4 => ?_) (fun i x1 x2 => ?_) (fun i j x1 x2 x3 x4 => ?_) (fun j x1 x2 => ?_)⟩
      · rw [g4, dLs_isi, h.i x1 x2, if_neg (by omega), if_neg (by omega)]
      · rw [g4, h.n x1 x2]
        by_cases e : i = n
        · rw [e, hlen0, if_pos (by omega)]
        · rw [hlen i e, if_neg (by omega), if_neg (by omega)]
      · rw [g4, dLs_lst, h.l x1 x2 x3 x4, if_neg (by omega)]
        by_cases e : i = n
        · rw [if_pos (by omega), if_pos ⟨e, x1, x2, x3, x4⟩]; congr 1; omega
        · rw [if_neg (by omega), if_neg (fun z => e z.1)]
      · rw [g4, dLs_ahd, h.ah x1 x2, if_neg (by omega), if_neg (by omega)]
      · rw [g4, dLs_fng, h.f x1 x2 x3 x4, if_neg (by omega), if_neg (by omega)]
      · rw [g4, dLs_hld, h.h x1 x2, if_neg (by omega), if_neg (by omega)]
  · try dsimp only
    refine ⟨?_, ?_, ?_, ?_⟩
    · first | omega | (subst_vars; first | rfl | assumption) | assumption
    · first | omega | (subst_vars; first | rfl | assumption) | assumption
    · intro c x; rw [hG1, up_ne x]
    · intro j; rw [hG1, up_at]; grind
  · try dsimp only
    omega

theorem m_giveAll (w : WT T) (hw : WA T a) (hb : b ≤ 3410) (hM_G : MT T G) (h : MR b a G) {f t : Int} (hf : f ≠ -1) : WP (fX12_giveAll 111 b f t G) (fun _ G' => (∀ c, c ≠ 123 → G' c = G c) ∧ (∀ i, i < b ∨ b + 130 ≤ i → G' 123 i = G 123 i) ∧ MR b (dH a (fun k => if hld a k = f then t else hld a k)) G') := by
  have wr := w.rg
  unfold fX12_giveAll
  simp only [rf_111_17]
  refine w_bd (fun v1 hv1 => ?_)
  refine w_lpIH (fun (v2 : Int) (G3 : Hp) => (0 ≤ v2) ∧ (v2 ≤ tK T) ∧ (∀ c, c ≠ 123 → G3 c = G c) ∧ (∀ i, i < b ∨ b + 130 ≤ i → G3 123 i = G 123 i) ∧ (MR b (dH a (fun k => if k < v2 ∧ hld a k = f then t else hld a k)) G3)) (fun (v2 : Int) (G3 : Hp) => (10 - v2).toNat) (fun rc4 v2 G3 hI hrc4 => ?_) _ _ ?_ ?_
  · skip
    obtain ⟨i0, i1, f3, f4, x3⟩ := hI
    have hM_G3 : MT T G3 := hM_G.fr (f3 117 (by decide)) (f3 125 (by decide))
    refine w_bp (m_keys hM_G3) (fun v5 hv5 => ?_)
    refine w_ite (fun c_1 => ?_) (fun c_1 => ?_)
    · skip
      refine w_bp (m_holderOf (b := b) x3 (by omega) (by omega) (by omega)) (fun v6 hv6 => ?_)
      have rv6 : v6 = hld a v2 := by rw [hv6, dH_hld, if_pos (by omega), if_neg (by omega)]
      refine w_jn ?_
      refine w_ite (fun c_2 => ?_) (fun c_2 => ?_)
      · skip
        try rw [show iadd (iadd b 120) v2 = ((b + 120) + v2) by simp (disch := omega) only [iadd_id, isub_id, imul_id]]
        refine w_wr (by omega) (by omega) (fun G9 hG9 => ?_)
        refine w_bd (fun v10 hv10 => ?_)
        simp (disch := omega) only [iadd_id, isub_id, imul_id] at hv10
        refine hrc4 _ _ ?_ ?_
        · try dsimp only
          refine ⟨?_, ?_, ?_, ?_, ?_⟩
          · first | omega | grind
          · first | omega | grind
          · intro c x; rw [hG9, up_ne x]; exact f3 c x
          · intro i x; rw [hG9, up_at, if_neg (by omega)]; exact f4 i x
          · rw [hG9]; refine (MR_H x3 (by omega) (by omega)).cg (AE_HH (fun k k1 k2 => ?_)); rw [dH_hld]; grind
        · try dsimp only
          omega
      · skip
        refine w_bp (m_holderOf (b := b) x3 (by omega) (by omega) (by omega)) (fun v11 hv11 => ?_)
        have rv11 : v11 = hld a v2 := by rw [hv11, dH_hld, if_pos (by omega), if_neg (by omega)]
        try rw [show iadd (iadd b 120) v2 = ((b + 120) + v2) by simp (disch := omega) only [iadd_id, isub_id, imul_id]]
        refine w_wr (by omega) (by omega) (fun G9 hG9 => ?_)
        refine w_bd (fun v10 hv10 => ?_)
        simp (disch := omega) only [iadd_id, isub_id, imul_id] at hv10
        refine hrc4 _ _ ?_ ?_
        · try dsimp only
          refine ⟨?_, ?_, ?_, ?_, ?_⟩
          · first | omega | grind
          · first | omega | grind
          · intro c x; rw [hG9, up_ne x]; exact f3 c x
          · intro i x; rw [hG9, up_at, if_neg (by omega)]; exact f4 i x
          · rw [hG9]; refine (MR_H x3 (by omega) (by omega)).cg (AE_HH (fun k k1 k2 => ?_)); rw [dH_hld]; grind
        · try dsimp only
          omega
    · skip
      refine w_rt ?_
      refine ⟨f3, f4, x3.cg ?_⟩
      refine ⟨rfl, fun m k => by rw [dH_lst, dH_lst], fun m => by rw [dH_ahd, dH_ahd], fun m k => by rw [dH_fng, dH_fng], fun k => ?_⟩
      rw [dH_hld, dH_hld]
      have kz := hw.kz (k := k)
      grind
  · try dsimp only
    refine ⟨?_, ?_, ?_, ?_, ?_⟩
    · first | omega | (subst_vars; first | rfl | assumption) | assumption
    · first | omega | (subst_vars; first | rfl | assumption) | assumption
    · intro c x; rfl
    · intro i x; rfl
    · refine h.cg (AE_H0 (fun k k1 k2 => ?_)); rw [if_neg (by omega)]
  · try dsimp only
    omega

theorem m_heldSet (w : WT T) (hb : b ≤ 3410) (hM_G : MT T G) (h : MR b a G) (hw : WA T a) {n : Int} : fX12_heldSet 111 b n G = some (bits (fun k => hld a k = n) (tK T).toNat, G) := by
  have wr := w.rg
  unfold fX12_heldSet
  refine WP_eq ?_
  refine w_bd (fun v1 hv1 => ?_)
  refine w_bd (fun v2 hv2 => ?_)
  refine w_lpII (fun (v3 : Int) (v4 : Int) => (0 ≤ v4) ∧ (v4 ≤ tK T) ∧ (v3 = bits (fun k => hld a k = n) v4.toNat)) (fun (v3 : Int) (v4 : Int) => (10 - v4).toNat) (fun rc5 v3 v4 hI hrc5 => ?_) _ _ ?_ ?_
  · skip
    obtain ⟨i0, i1, e⟩ := hI
    refine w_bp (m_keys hM_G) (fun v6 hv6 => ?_)
    refine w_ite (fun c_1 => ?_) (fun c_1 => ?_)
    · skip
      refine w_bp (m_holderOf (b := b) h (by omega) (by omega) (by omega)) (fun v7 hv7 => ?_)
      refine w_jn ?_
      refine w_ite (fun c_2 => ?_) (fun c_2 => ?_)
      · skip
        refine w_bd (fun v10 hv10 => ?_)
        refine w_bd (fun v11 hv11 => ?_)
        simp (disch := omega) only [iadd_id, isub_id, imul_id] at hv11
        refine hrc5 _ _ ?_ ?_
        · try dsimp only
          refine ⟨?_, ?_, ?_⟩
          · first | omega | grind
          · first | omega | grind
          · first
            | (rw [hv11, bits_f (p := fun k => hld a k = n) i0 (show ¬ (hld a v4 = n) by omega)]; exact e)
            | (rw [hv11, hv10, e]; exact bits_t (p := fun k => hld a k = n) i0 (by omega) (show hld a v4 = n by omega))
            | (rw [hv11, hv10, e]; exact bits_f0 (p := fun k => hld a k = n) i0 (by omega) (show ¬ (hld a v4 = n) by omega))
        · try dsimp only
          omega
      · skip
        refine w_bd (fun v10 hv10 => ?_)
        refine w_bd (fun v11 hv11 => ?_)
        simp (disch := omega) only [iadd_id, isub_id, imul_id] at hv11
        refine hrc5 _ _ ?_ ?_
        · try dsimp only
          refine ⟨?_, ?_, ?_⟩
          · first | omega | grind
          · first | omega | grind
          · first
            | (rw [hv11, bits_f (p := fun k => hld a k = n) i0 (show ¬ (hld a v4 = n) by omega)]; exact e)
            | (rw [hv11, hv10, e]; exact bits_t (p := fun k => hld a k = n) i0 (by omega) (show hld a v4 = n by omega))
            | (rw [hv11, hv10, e]; exact bits_f0 (p := fun k => hld a k = n) i0 (by omega) (show ¬ (hld a v4 = n) by omega))
        · try dsimp only
          omega
    · skip
      refine w_rt ?_
      refine ⟨?_, rfl⟩
      rw [e, show v4.toNat = (tK T).toNat by omega]
  · try dsimp only
    refine ⟨?_, ?_, ?_⟩
    · first | omega | (subst_vars; first | rfl | assumption) | assumption
    · first | omega | (subst_vars; first | rfl | assumption) | assumption
    · first | omega | (subst_vars; first | rfl | assumption) | assumption
  · try dsimp only
    omega

theorem m_heldMany (w : WT T) (hb : b ≤ 3410) (hM_G : MT T G) (h : MR b a G) (hw : WA T a) : fX12_heldMany 111 b G = some (cnt (fun k => hld a k ≠ -1) 10, G) := by
  have wr := w.rg
  unfold fX12_heldMany
  refine WP_eq ?_
  refine w_bd (fun v1 hv1 => ?_)
  refine w_bd (fun v2 hv2 => ?_)
  refine w_lpII (fun (v3 : Int) (v4 : Int) => (0 ≤ v4) ∧ (v4 ≤ tK T) ∧ (v3 = cnt (fun k => hld a k ≠ -1) v4.toNat)) (fun (v3 : Int) (v4 : Int) => (10 - v4).toNat) (fun rc5 v3 v4 hI hrc5 => ?_) _ _ ?_ ?_
  · skip
    obtain ⟨i0, i1, e⟩ := hI
    have r := cnt_r (fun k => hld a k ≠ -1) v4.toNat
    refine w_bp (m_keys hM_G) (fun v6 hv6 => ?_)
    refine w_ite (fun c_1 => ?_) (fun c_1 => ?_)
    · skip
      refine w_bp (m_holderOf (b := b) h (by omega) (by omega) (by omega)) (fun v7 hv7 => ?_)
      have qv7 := hw.hr v4
      refine w_jn ?_
      refine w_ite (fun c_2 => ?_) (fun c_2 => ?_)
      · skip
        refine w_bd (fun v10 hv10 => ?_)
        simp (disch := omega) only [iadd_id, isub_id, imul_id] at hv10
        refine w_bd (fun v11 hv11 => ?_)
        simp (disch := omega) only [iadd_id, isub_id, imul_id] at hv11
        refine hrc5 _ _ ?_ ?_
        · try dsimp only
          refine ⟨?_, ?_, ?_⟩
          · first | omega | grind
          · first | omega | grind
          · first
            | (rw [hv11, cnt_f (p := fun k => hld a k ≠ -1) i0 (show ¬ (hld a v4 ≠ -1) by omega)]; exact e)
            | (rw [hv11, hv10, e, cnt_t (p := fun k => hld a k ≠ -1) i0 (show hld a v4 ≠ -1 by omega)]; done)
            | (rw [hv11, hv10, e, cnt_f (p := fun k => hld a k ≠ -1) i0 (show ¬ (hld a v4 ≠ -1) by omega)]; omega)
        · try dsimp only
          omega
      · skip
        refine w_bd (fun v10 hv10 => ?_)
        simp (disch := omega) only [iadd_id, isub_id, imul_id] at hv10
        refine w_bd (fun v11 hv11 => ?_)
        simp (disch := omega) only [iadd_id, isub_id, imul_id] at hv11
        refine hrc5 _ _ ?_ ?_
        · try dsimp only
          refine ⟨?_, ?_, ?_⟩
          · first | omega | grind
          · first | omega | grind
          · first
            | (rw [hv11, cnt_f (p := fun k => hld a k ≠ -1) i0 (show ¬ (hld a v4 ≠ -1) by omega)]; exact e)
            | (rw [hv11, hv10, e, cnt_t (p := fun k => hld a k ≠ -1) i0 (show hld a v4 ≠ -1 by omega)]; done)
            | (rw [hv11, hv10, e, cnt_f (p := fun k => hld a k ≠ -1) i0 (show ¬ (hld a v4 ≠ -1) by omega)]; omega)
        · try dsimp only
          omega
    · skip
      refine w_rt ?_
      refine ⟨?_, rfl⟩
      rw [e, show v4.toNat = (tK T).toNat by omega, cnt_more (p := fun k => hld a k ≠ -1) (m := (tK T).toNat) 10 (by omega) (fun i x y z => z (hw.kz (by omega)))]
  · try dsimp only
    refine ⟨?_, ?_, ?_⟩
    · first | omega | (subst_vars; first | rfl | assumption) | assumption
    · first | omega | (subst_vars; first | rfl | assumption) | assumption
    · first | omega | (subst_vars; first | rfl | assumption) | assumption
  · try dsimp only
    omega

theorem m_inSet (w : WT T) (hb : b ≤ 3410) (hM_G : MT T G) (hR_G : MR b a G) (hw : WA T a) : fX12_inSet 111 b G = some (a.1, G) := by
  have wr := w.rg
  unfold fX12_inSet
  refine WP_eq ?_
  refine w_bd (fun v1 hv1 => ?_)
  refine w_bd (fun v2 hv2 => ?_)
  refine w_lpII (fun (v3 : Int) (v4 : Int) => (0 ≤ v4) ∧ (v4 ≤ tN T) ∧ (v3 = bits (fun k => isi a k = 1) v4.toNat)) (fun (v3 : Int) (v4 : Int) => (10 - v4).toNat) (fun rc5 v3 v4 hI hrc5 => ?_) _ _ ?_ ?_
  · skip
    obtain ⟨i0, i1, e⟩ := hI
    refine w_bp (m_nodes hM_G) (fun v6 hv6 => ?_)
    refine w_ite (fun c_1 => ?_) (fun c_1 => ?_)
    · skip
      refine w_bp (m_isIn (b := b) hR_G (by omega) (by omega)) (fun v7 hv7 => ?_)
      have qv7 := hw.inr (n := v4)
      refine w_jn ?_
      refine w_ite (fun c_2 => ?_) (fun c_2 => ?_)
      · skip
        refine w_bd (fun v10 hv10 => ?_)
        refine w_bd (fun v11 hv11 => ?_)
        simp (disch := omega) only [iadd_id, isub_id, imul_id] at hv11
        refine hrc5 _ _ ?_ ?_
        · try dsimp only
          refine ⟨?_, ?_, ?_⟩
          · first | omega | grind
          · first | omega | grind
          · first
            | (rw [hv11, bits_f (p := fun k => isi a k = 1) i0 (show ¬ (isi a v4 = 1) by omega)]; exact e)
            | (rw [hv11, hv10, e]; exact bits_t (p := fun k => isi a k = 1) i0 (by omega) (show isi a v4 = 1 by omega))
            | (rw [hv11, hv10, e]; exact bits_f0 (p := fun k => isi a k = 1) i0 (by omega) (show ¬ (isi a v4 = 1) by omega))
        · try dsimp only
          omega
      · skip
        refine w_bd (fun v10 hv10 => ?_)
        refine w_bd (fun v11 hv11 => ?_)
        simp (disch := omega) only [iadd_id, isub_id, imul_id] at hv11
        refine hrc5 _ _ ?_ ?_
        · try dsimp only
          refine ⟨?_, ?_, ?_⟩
          · first | omega | grind
          · first | omega | grind
          · first
            | (rw [hv11, bits_f (p := fun k => isi a k = 1) i0 (show ¬ (isi a v4 = 1) by omega)]; exact e)
            | (rw [hv11, hv10, e]; exact bits_t (p := fun k => isi a k = 1) i0 (by omega) (show isi a v4 = 1 by omega))
            | (rw [hv11, hv10, e]; exact bits_f0 (p := fun k => isi a k = 1) i0 (by omega) (show ¬ (isi a v4 = 1) by omega))
        · try dsimp only
          omega
    · skip
      refine w_rt ?_
      refine ⟨?_, rfl⟩
      rw [e, show v4.toNat = (tN T).toNat by omega]
      rw [← bits_more (p := fun k => isi a k = 1) 8 (by omega) (fun i x y z => by have := hw.inr (n := i); omega)]
      rw [bits_ext (q := fun k => bt a.1 k.toNat = 1) 8 (fun i x y => by show isi a i = 1 ↔ _; rw [isi_bt x (by omega)])]
      exact bits_is (by omega) hw.1.1 hw.1.2
  · try dsimp only
    refine ⟨?_, ?_, ?_⟩
    · first | omega | (subst_vars; first | rfl | assumption) | assumption
    · first | omega | (subst_vars; first | rfl | assumption) | assumption
    · first | omega | (subst_vars; first | rfl | assumption) | assumption
  · try dsimp only
    omega

theorem m_copies {s t m : Int} (hs : 0 ≤ s) (hm : 0 ≤ m) (hs2 : s + m ≤ 3565) (ht : 0 ≤ t) (ht2 : t + m ≤ 3565) (hm2 : m ≤ 200) (hd : s + m ≤ t ∨ t + m ≤ s) : WP (fX12_copies 111 s t m G) (fun _ G' => (∀ c, c ≠ 123 → G' c = G c) ∧ (∀ j : Nat, G' 123 j = if t ≤ (j : Int) ∧ (j : Int) < t + m then G 123 (s + ((j : Int) - t)).toNat else G 123 j)) := by
  unfold fX12_copies
  simp only [rf_111_17]
  refine w_bd (fun v1 hv1 => ?_)
  refine w_lpIH (fun (v2 : Int) (G3 : Hp) => (0 ≤ v2) ∧ (v2 ≤ m) ∧ (∀ c, c ≠ 123 → G3 c = G c) ∧ (∀ j : Nat, G3 123 j = if t ≤ (j : Int) ∧ (j : Int) < t + v2 then G 123 (s + ((j : Int) - t)).toNat else G 123 j)) (fun (v2 : Int) (G3 : Hp) => (m - v2).toNat) (fun rc4 v2 G3 hI hrc4 => ?_) _ _ ?_ ?_
  · skip
    obtain ⟨i0, i1, f3, g3⟩ := hI
    refine w_ite (fun c_1 => ?_) (fun c_1 => ?_)
    · skip
      try rw [show iadd s v2 = (s + v2) by simp (disch := omega) only [iadd_id, isub_id, imul_id]]
      refine w_rd (by omega) (by omega) (fun v5 hv5 => ?_)
      try rw [show iadd t v2 = (t + v2) by simp (disch := omega) only [iadd_id, isub_id, imul_id]]
      refine w_wr (by omega) (by omega) (fun G6 hG6 => ?_)
      refine w_bd (fun v7 hv7 => ?_)
      simp (disch := omega) only [iadd_id, isub_id, imul_id] at hv7
      refine hrc4 _ _ ?_ ?_
      · try dsimp only
        refine ⟨?_, ?_, ?_, ?_⟩
        · first | omega | grind
        · first | omega | grind
        · intro c x; rw [hG6, up_ne x]; exact f3 c x
        · intro j; rw [hG6, up_at]
          by_cases e : (j : Int) = t + v2
          · rw [if_pos ⟨rfl, by omega⟩, if_pos (by omega), hv5, g3, if_neg (by omega)]; congr 1; omega
          · rw [if_neg (by omega), g3]; grind
      · try dsimp only
        omega
    · skip
      refine w_rt ?_
      refine ⟨f3, fun j => ?_⟩
      rw [g3, show v2 = m by omega]
  · try dsimp only
    refine ⟨?_, ?_, ?_, ?_⟩
    · first | omega | (subst_vars; first | rfl | assumption) | assumption
    · first | omega | (subst_vars; first | rfl | assumption) | assumption
    · intro c x; rfl
    · intro j; rw [if_neg (by omega)]
  · try dsimp only
    omega

theorem m_copy {s t : Nat} (hs : s ≤ 3410) (ht : t ≤ 3410) (hd : s + 130 ≤ t ∨ t + 130 ≤ s) (h : MR s a G) : WP (fX12_copies 111 s t 130 G) (fun _ G' => (∀ c, c ≠ 123 → G' c = G c) ∧ (∀ i, i < t ∨ t + 130 ≤ i → G' 123 i = G 123 i) ∧ MR t a G' ∧ MR s a G') := by
  refine (m_copies (s := s) (t := t) (m := 130) (by omega) (by omega) (by omega) (by omega) (by omega) (by omega) (by omega)).mono (fun r G' q => ?_)
  refine ⟨q.1, fun i x => by rw [q.2, if_neg (by omega)], fun i hi => ?_, fun i hi => ?_⟩
  · rw [q.2, if_pos (by omega), ← h i hi]; congr 1; omega
  · rw [q.2, if_neg (by omega)]; exact h i hi
theorem m_goesOut0 (hb : b ≤ 3410) {n : Int} (h1 : 0 ≤ n) (h2 : n < 8) : WP (fX12_goesOut 111 b n G) (fun _ G' => (∀ c, c ≠ 123 → G' c = G c) ∧ (∀ j : Nat, G' 123 j = if b + 15 * n ≤ (j : Int) ∧ (j : Int) < b + 15 * n + 15 then (if (j : Int) ≤ b + 15 * n + 1 then 0 else -1) else G 123 j)) := by
  unfold fX12_goesOut
  simp only [rf_111_17]
  refine w_bd (fun v1 hv1 => ?_)
  simp (disch := omega) only [iadd_id, isub_id, imul_id] at hv1
  refine w_bd (fun v2 hv2 => ?_)
  refine w_lpIH (fun (v3 : Int) (G4 : Hp) => (0 ≤ v3) ∧ (v3 ≤ 15) ∧ (∀ c, c ≠ 123 → G4 c = G c) ∧ (∀ j : Nat, G4 123 j = if b + 15 * n ≤ (j : Int) ∧ (j : Int) < b + 15 * n + v3 then (if (j : Int) ≤ b + 15 * n + 1 then 0 else -1) else G 123 j)) (fun (v3 : Int) (G4 : Hp) => (15 - v3).toNat) (fun rc5 v3 G4 hI hrc5 => ?_) _ _ ?_ ?_
  · skip
    obtain ⟨i0, i1, f4, g4⟩ := hI
    refine w_ite (fun c_1 => ?_) (fun c_1 => ?_)
    · skip
      refine w_jn ?_
      refine w_ite (fun c_2 => ?_) (fun c_2 => ?_)
      · skip
        try rw [show iadd v1 v3 = (v1 + v3) by simp (disch := omega) only [iadd_id, isub_id, imul_id]]
        refine w_wr (by omega) (by omega) (fun G8 hG8 => ?_)
        refine w_bd (fun v9 hv9 => ?_)
        simp (disch := omega) only [iadd_id, isub_id, imul_id] at hv9
        refine hrc5 _ _ ?_ ?_
        · try dsimp only
          refine ⟨?_, ?_, ?_, ?_⟩
          · first | omega | grind
          · first | omega | grind
          · intro c x; rw [hG8, up_ne x]; exact f4 c x
          · intro j; rw [hG8, up_at, g4]; (repeat' split) <;> first | rfl | (exfalso; omega) | omega
        · try dsimp only
          omega
      · skip
        try rw [show iadd v1 v3 = (v1 + v3) by simp (disch := omega) only [iadd_id, isub_id, imul_id]]
        refine w_wr (by omega) (by omega) (fun G8 hG8 => ?_)
        refine w_bd (fun v9 hv9 => ?_)
        simp (disch := omega) only [iadd_id, isub_id, imul_id] at hv9
        refine hrc5 _ _ ?_ ?_
        · try dsimp only
          refine ⟨?_, ?_, ?_, ?_⟩
          · first | omega | grind
          · first | omega | grind
          · intro c x; rw [hG8, up_ne x]; exact f4 c x
          · intro j; rw [hG8, up_at, g4]; (repeat' split) <;> first | rfl | (exfalso; omega) | omega
        · try dsimp only
          omega
    · skip
      refine w_rt ?_
      exact ⟨f4, fun j => by rw [g4, show v3 = 15 by omega]⟩
  · try dsimp only
    refine ⟨?_, ?_, ?_, ?_⟩
    · first | omega | (subst_vars; first | rfl | assumption) | assumption
    · first | omega | (subst_vars; first | rfl | assumption) | assumption
    · intro c x; rfl
    · intro j; rw [if_neg (by omega)]
  · try dsimp only
    omega

theorem m_starts (hb : b ≤ 3410) : WP (fX12_starts 111 b G) (fun _ G' => (∀ c, c ≠ 123 → G' c = G c) ∧ (∀ i, i < b ∨ b + 130 ≤ i → G' 123 i = G 123 i) ∧ MR b (0, fun _ => -1) G') := by
  unfold fX12_starts
  simp only [rf_111_17]
  refine w_bd (fun v1 hv1 => ?_)
  refine w_lpIH (fun (v2 : Int) (G3 : Hp) => (0 ≤ v2) ∧ (v2 ≤ 8) ∧ (∀ c, c ≠ 123 → G3 c = G c) ∧ (∀ i, i < b ∨ b + 130 ≤ i → G3 123 i = G 123 i) ∧ (∀ n k : Int, 0 ≤ n → n < v2 → 0 ≤ k → k < 15 → G3 123 ((b : Int) + 15 * n + k).toNat = if k ≤ 1 then 0 else -1)) (fun (v2 : Int) (G3 : Hp) => (8 - v2).toNat) (fun rc4 v2 G3 hI hrc4 => ?_) _ _ ?_ ?_
  · skip
    obtain ⟨i0, i1, f3, f4, g3⟩ := hI
    refine w_ite (fun c_1 => ?_) (fun c_1 => ?_)
    · skip
      refine w_bn (m_goesOut0 hb (n := v2) (by omega) (by omega)) (fun _ G11 q11 => ?_)
      refine w_bd (fun v12 hv12 => ?_)
      simp (disch := omega) only [iadd_id, isub_id, imul_id] at hv12
      refine hrc4 _ _ ?_ ?_
      · try dsimp only
        refine ⟨?_, ?_, ?_, ?_, ?_⟩
        · first | omega | grind
        · first | omega | grind
        · intro c x; rw [q11.1 c x]; exact f3 c x
        · intro i x; rw [q11.2]; rw [if_neg (by omega)]; exact f4 i x
        · intro n k n1 n2 k1 k2
          rw [q11.2]
          by_cases e : n = v2
          · rw [if_pos (by omega)]; grind
          · rw [if_neg (by omega)]; exact g3 n k n1 (by omega) k1 k2
      · try dsimp only
        omega
    · skip
      refine w_bd (fun v5 hv5 => ?_)
      refine w_lpIH (fun (v6 : Int) (G7 : Hp) => (0 ≤ v6) ∧ (v6 ≤ 10) ∧ (∀ c, c ≠ 123 → G7 c = G c) ∧ (∀ i, i < b ∨ b + 130 ≤ i → G7 123 i = G 123 i) ∧ (∀ n k : Int, 0 ≤ n → n < 8 → 0 ≤ k → k < 15 → G7 123 ((b : Int) + 15 * n + k).toNat = if k ≤ 1 then 0 else -1) ∧ (∀ k : Int, 0 ≤ k → k < v6 → G7 123 ((b : Int) + 120 + k).toNat = -1)) (fun (v6 : Int) (G7 : Hp) => (10 - v6).toNat) (fun rc8 v6 G7 hI hrc8 => ?_) _ _ ?_ ?_
      · skip
        obtain ⟨j0, j1, f7, f8, g7, h7⟩ := hI
        refine w_ite (fun c_2 => ?_) (fun c_2 => ?_)
        · skip
          try rw [show iadd (iadd b 120) v6 = ((b + 120) + v6) by simp (disch := omega) only [iadd_id, isub_id, imul_id]]
          refine w_wr (by omega) (by omega) (fun G9 hG9 => ?_)
          refine w_bd (fun v10 hv10 => ?_)
          simp (disch := omega) only [iadd_id, isub_id, imul_id] at hv10
          refine hrc8 _ _ ?_ ?_
          · try dsimp only
            refine ⟨?_, ?_, ?_, ?_, ?_, ?_⟩
            · first | omega | grind
            · first | omega | grind
            · intro c x; rw [hG9, up_ne x]; exact f7 c x
            · intro i x; rw [hG9, up_at, if_neg (by omega)]; exact f8 i x
            · intro n k n1 n2 k1 k2; rw [hG9, up_at, if_neg (by omega)]; exact g7 n k n1 n2 k1 k2
            · intro k k1 k2; rw [hG9, up_at]; by_cases e : k = v6
              · rw [if_pos ⟨rfl, by omega⟩]
              · rw [if_neg (by omega)]; exact h7 k k1 (by omega)
          · try dsimp only
            omega
        · skip
          refine w_rt ?_
          refine ⟨f7, f8, MR_of (fun m x1 x2 => ?_) (fun m x1 x2 => ?_) (fun m j x1 x2 x3 x4 => ?_) (fun m x1 x2 => ?_) (fun m j x1 x2 x3 x4 => ?_) (fun j x1 x2 => ?_)⟩
          · have := g7 m 0 x1 x2 (by omega) (by omega); rw [Int.add_zero, if_pos (by omega)] at this; rw [this]; unfold isi bt; simp
          · have := g7 m 1 x1 x2 (by omega) (by omega); rw [if_pos (by omega)] at this; rw [this]; unfold llen lst; grind
          · have := g7 m (2 + j) x1 x2 (by omega) (by omega); rw [if_neg (by omega), ← Int.add_assoc] at this; rw [this]; unfold lst; grind
          · have := g7 m 6 x1 x2 (by omega) (by omega); rw [if_neg (by omega)] at this; rw [this]; unfold ahd; grind
          · have := g7 m (7 + j) x1 x2 (by omega) (by omega); rw [if_neg (by omega), ← Int.add_assoc] at this; rw [this]; unfold fng; grind
          · rw [h7 j x1 (by omega)]; unfold hld; grind
      · try dsimp only
        refine ⟨?_, ?_, ?_, ?_, ?_, ?_⟩
        · first | omega | (subst_vars; first | rfl | assumption) | assumption
        · first | omega | (subst_vars; first | rfl | assumption) | assumption
        · exact f3
        · exact f4
        · intro n k n1 n2 k1 k2; exact g3 n k n1 (by omega) k1 k2
        · intro k; omega
      · try dsimp only
        omega
  · try dsimp only
    refine ⟨?_, ?_, ?_, ?_, ?_⟩
    · first | omega | (subst_vars; first | rfl | assumption) | assumption
    · first | omega | (subst_vars; first | rfl | assumption) | assumption
    · intro c x; rfl
    · intro i x; rfl
    · intro n k; omega
  · try dsimp only
    omega

end OPS
