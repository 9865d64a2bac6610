theorem nwL_8 : NW RL 8 11 := ⟨RX11, TX11, 12, tyX11, rfl, wd_1_26, wd_1_27, wd_1_1, iX11, tyX11_ok, by decide +kernel, by decide, lnX11⟩
theorem nwL_16 : NW RL 16 12 := ⟨RX12, TX12, 26, tyX12, rfl, wd_6_196, wd_6_194, wd_1_17, iX12, tyX12_ok, by decide +kernel, by decide, lnX12⟩
theorem q_is9 {cx : CX} {x : WX} {q : Nat} {G : Hp} {e : va_E} {H1 : Heap} (hB : BS cx x) (hn0 : cx.n0 ≤ 129) (hD : va_D (AA x.2.2 cx.s.heap.size) (wo x 129 G ++ [(q, e)])) (hP : va_P x.1 vwCl (wo x 129 G ++ [(q, e)]) H1) (hz : H1.size ≤ cx.s.heap.size + (129 - cx.n0 + cx.kc + 1)) : q = x.2.2 129 := by
  have hat : (wo x 129 G ++ [(q, e)])[129]? = some (q, e) := by
    rw [List.getElem?_append_right (by rw [wo_len]; exact Nat.le_refl _), wo_len, Nat.sub_self]; rfl
  have hlt : q < H1.size := (hP 129 _ hat).lt
  have hne : ∀ c, c < 129 → x.2.2 c ≠ q := by
    intro c hc he
    have h1 : (wo x 129 G ++ [(q, e)])[c]? = some (x.2.2 c, ev x c (G c)) := by
      rw [List.getElem?_append_left (by rw [wo_len]; exact hc), wo_at hc]
    have := hD.1 c 129 _ _ h1 hat he
    omega
  have hA := hD.2 129 _ hat
  have hb0 := hB.2.1 cx.n0 (by omega)
  have hbn := hB.2.1 129 (by omega)
  have hs := hB.1
  have hkc := hB.2.2.1
  have key : ∃ j, q = x.2.2 0 + j := by
    rcases hA with ⟨c, hc, e1⟩ | h1
    · exact ⟨c, by rw [← hB.2.1 c (by omega)]; exact e1⟩
    · have h1 : cx.s.heap.size ≤ q := h1
      exact ⟨q - x.2.2 0, by omega⟩
  obtain ⟨j, hj⟩ := key
  rcases Nat.lt_trichotomy j 129 with h | h | h
  · exact absurd (by rw [hB.2.1 j (by omega)]; exact hj.symm) (hne j h)
  · rw [hj, hbn, h]
  · omega
theorem okG_clr9 {G : Hp} (h : okG 129 G) : okG 130 (clr G 129) := by
  refine ⟨fun c k => ?_, fun _ c k h1 h2 h3 => ?_⟩
  · by_cases e : c = 129
    · subst e; rw [clr_self]; split
      · show okJ 0; exact ⟨by decide, by decide⟩
      · exact zok
    · rw [clr_ne e]; exact h.1 c k
  · rw [clr_ne (by omega)]; exact h.2 (Nat.le_refl _) c k h1 h2 h3
def nb (len : Int) (o : RT) : RT := if len = 1 then o else none
section LROWS2
variable {cx : CX} {x : WX} {b sn k pc pc' n nL : Nat} {sc : Nat → Int} {cc : ByteArray} {own : String} {ret : Option FieldType} {L : List (Nat × AV)} {S : List AV} {G : Hp} {o : RT}
theorem x_newOut (F : Fx cx x own cc nL ret) (hB : BS cx x) {len : Int} {f : Hp → RT} (hn0 : cx.n0 ≤ 129) (hnE : 130 ≤ cx.nE) (harr : Cond.arrayClass .long ∈ gw) (d : decode cc pc = .ok (.newarray .long, 2)) (hp : pc + 2 = pc') (y : ∀ g, Y cx x nL ret 130 pc' L (vR 129 :: S) g (f g)) : Y cx x nL ret 129 pc L (vI len :: S) G (nb len (bh (clr G 129) f)) := by
  subst hp
  intro r G' ho hS hL hG H locs ls hP hV hl
  unfold nb at ho
  by_cases hk : len = 1
  · rw [if_pos hk] at ho
    subst hk
    have hlen : (Int32.ofInt 1).toNatClampNeg = 1 := by decide
    have hmono := sz_mono (a := 130) (b := cx.nE) hnE
    have hmono0 := sz_mono hn0
    have hsz : sz 130 = sz 129 + 1 := by decide +kernel
    refine va_newa (D := x.1) (cl := vwCl) (atype := .long) (a0 := (1, .inr (.inl (fun _ => Int64.ofInt 0)))) F.1 F.2.1 (F.2.2.2.2.2.1 _ harr) rfl F.2.2.2.2.2.2.1 hP (wo_D (by omega) F.2.2.2.2.2.2.2.2.1 (AA_in (by omega))) hV (fun q h => Or.inr h) (fun cA => by first | rfl | (show arrV _ _ _ = _; rfl)) (o32_nn hS.1 (by omega)) hlen (by decide) (by have hro := F.2.2.2.2.2.2.2.2.2.2.1; show 129 - cx.n0 + cx.kc + 1 ≤ cx.r.cells; omega) (by have hro := F.2.2.2.2.2.2.2.2.2.2.1; show sz 129 - sz cx.n0 + cx.ks + 1 ≤ cx.r.slots; omega) d (fun q cA H1 hK1 hP1 hD1 hV1 => ?_)
    have hcA : cA = x.2.1 21 := by
      have e1 := (hK1.2 6 (cA, .long) rfl).2
      have e2 := (hK1.2 1 (x.2.1 21, .long) rfl).2
      exact Option.some.inj (Eq.trans (Eq.symm e1) e2)
    intro T1 hT1 X1
    have hz := X1.heapSize
    rw [hT1] at hz
    have hq := q_is9 hB hn0 hD1 hP1 hz
    subst hcA
    subst hq
    have y' := y (clr G 129) r G' ho ⟨trivial, hS.2⟩ hL (okG_clr9 hG) H1 locs ls (by rw [show (130 : Nat) = 129 + 1 from rfl, wo_clr, ev_out]; exact hP1) hV1 hl
    rw [show 130 - cx.n0 + cx.kc = 129 - cx.n0 + cx.kc + 1 by omega, show sz 130 - sz cx.n0 + cx.ks = sz 129 - sz cx.n0 + cx.ks + 1 by omega] at y'
    exact y' T1 hT1 X1
  · rw [if_neg hk] at ho; cases ho
theorem x_iincE (F : Fx cx x own cc nL ret) {i : Nat} {kk a : Int} (d : decode cc pc = .ok (.iinc i kk, 3)) (hg : gL L i = some (vI a)) (hn : i < nL) (hk : okK L i false = true) (hp : pc + 3 = pc') (y : Y cx x nL ret n pc' (sL L i (vI (iadd a kk))) S G o) : Y cx x nL ret n pc L S G o := by
  subst hp
  intro r G' ho hS hL hG H locs ls hP hV hl
  obtain ⟨j, hj⟩ := cL_idx (ad := x.2.2) hg
  exact lv_iinc (v := Int32.ofInt (iadd a kk)) F.1 F.2.1 d hl hj (o32_add a kk).symm hn rfl (fun ls' hl' => y r G' ho hS (sL_ok hL (v := vI (iadd a kk)) (w32_ok _)) hG H locs ls' hP hV (sL_has1 (v := vI (iadd a kk)) hk hl'))
theorem x_istoreE (F : Fx cx x own cc nL ret) {i : Nat} {e : Int} (d : decode cc pc = .ok (.istore i, 2)) (hn : i < nL) (hk : okK L i false = true) (hp : pc + 2 = pc') (y : Y cx x nL ret n pc' (sL L i (vI e)) S G o) : Y cx x nL ret n pc L (vI e :: S) G o := by
  subst hp
  intro r G' ho hS hL hG H locs ls hP hV hl
  exact lv_istore F.1 F.2.1 d hl hn rfl (fun ls' hl' => y r G' ho hS.2 (sL_ok hL hS.1) hG H locs ls' hP hV (sL_has1 hk hl'))
end LROWS2
