theorem x_ldcw {cx : CX} {x : WX} {own : String} {cc : ByteArray} {nL n pc pc' : Nat} {ret : Option FieldType} {L : List (Nat × AV)} {S : List AV} {G : Hp} {o : RT} (F : Fx cx x own cc nL ret) {k : Nat} {v : Int} {v' : Int32} (hw : Cond.constant own k v' ∈ gw) (d : decode cc pc = .ok (.ldc_w k, 3)) (hk : okI v) (hv : v' = Int32.ofInt v) (hp : pc + 3 = pc') (y : Y cx x nL ret n pc' L (vI v :: S) G o) : Y cx x nL ret n pc L S G o := by
  subst hv
  subst hp
  intro r G' ho hS hL hG H locs ls hP hV hl
  exact lv_ldcw F.1 F.2.1 F.2.2.2.2.1 (F.2.2.2.2.2.1 _ hw) d (y r G' ho ⟨hk, hS⟩ hL hG H locs ls hP hV hl)
