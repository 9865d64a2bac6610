def fL_body (sn : Nat) (sc : Nat → Int) (i : Int) (K : Hp → RT) (G : Hp) : RT := br (rdC sn sc i) fun v => (if iand v 63 = 0 then gL_0 sn sc i K G else (if iand v 63 = 1 then gL_1 sn sc i K G else (if iand v 63 = 2 then gL_2 sn sc i K G else (if iand v 63 = 3 then gL_3 sn sc i K G else (if iand v 63 = 4 then gL_4 sn sc i K G else (if iand v 63 = 5 then gL_5 sn sc i K G else (if iand v 63 = 6 then gL_6 sn sc i K G else (if iand v 63 = 7 then gL_7 sn sc i K G else (if iand v 63 = 8 then gL_8 sn sc i K G else (if iand v 63 = 9 then gL_9 sn sc i K G else (if iand v 63 = 10 then gL_10 sn sc i K G else (if iand v 63 = 11 then gL_11 sn sc i K G else (if iand v 63 = 12 then gL_12 sn sc i K G else (if iand v 63 = 13 then gL_13 sn sc i K G else (if iand v 63 = 14 then gL_14 sn sc i K G else (if iand v 63 = 15 then gL_15 sn sc i K G else (if iand v 63 = 16 then gL_16 sn sc i K G else (if iand v 63 = 17 then gL_17 sn sc i K G else (if iand v 63 = 18 then gL_18 sn sc i K G else (if iand v 63 = 19 then gL_19 sn sc i K G else (if iand v 63 = 20 then gL_20 sn sc i K G else (if iand v 63 = 21 then gL_21 sn sc i K G else (if iand v 63 = 22 then gL_22 sn sc i K G else (if iand v 63 = 23 then gL_23 sn sc i K G else (if iand v 63 = 24 then gL_24 sn sc i K G else (if iand v 63 = 25 then gL_25 sn sc i K G else (if iand v 63 = 26 then gL_26 sn sc i K G else (if iand v 63 = 27 then gL_27 sn sc i K G else (if iand v 63 = 28 then gL_28 sn sc i K G else (if iand v 63 = 29 then gL_29 sn sc i K G else (if iand v 63 = 30 then gL_30 sn sc i K G else (if iand v 63 = 31 then gL_31 sn sc i K G else (if iand v 63 = 32 then gL_32 sn sc i K G else (if iand v 63 = 33 then gL_33 sn sc i K G else (if iand v 63 = 34 then gL_34 sn sc i K G else (if iand v 63 = 35 then gL_35 sn sc i K G else (if iand v 63 = 36 then gL_36 sn sc i K G else (if iand v 63 = 37 then gL_37 sn sc i K G else (if iand v 63 = 38 then gL_38 sn sc i K G else (if iand v 63 = 39 then gL_39 sn sc i K G else (if iand v 63 = 40 then gL_40 sn sc i K G else (if iand v 63 = 41 then gL_41 sn sc i K G else (if iand v 63 = 42 then gL_42 sn sc i K G else (if iand v 63 = 43 then gL_43 sn sc i K G else (if iand v 63 = 44 then gL_44 sn sc i K G else (if iand v 63 = 45 then gL_45 sn sc i K G else (if iand v 63 = 46 then gL_46 sn sc i K G else K G)))))))))))))))))))))))))))))))))))))))))))))))
theorem iand63 (v : Int) : 0 ≤ iand v 63 ∧ iand v 63 ≤ 63 := by
  unfold iand
  have e : (Int32.ofInt v &&& Int32.ofInt 63).toInt = ((Int32.ofInt v).toBitVec &&& 63#32).toInt := rfl
  rw [e]
  have h : ((Int32.ofInt v).toBitVec &&& 63#32).toNat ≤ 63 := by
    rw [BitVec.toNat_and]
    exact Nat.and_le_right
  have h2 : ((Int32.ofInt v).toBitVec &&& 63#32).toInt = (((Int32.ofInt v).toBitVec &&& 63#32).toNat : Int) := BitVec.toInt_eq_toNat_of_lt (by omega)
  rw [h2]; omega
set_option maxRecDepth 20000 in
set_option maxHeartbeats 4000000 in
theorem uL_body {cx : CX} {x : WX} {b sn : Nat} {sc : Nat → Int} {k : Nat} (C : LC cx x b sn sc) (hk1 : k + 1 ≤ 4000) (i : Int) (K : Hp → RT) (G : Hp) (hK : ∀ g, Y (cxk cx (k + 1)) x 7 (some .boolean) 130 1676 [(0, vR 500), (1, vR 0), (2, vR 111), (3, vR 129), (4, vI i)] [] g (K g)) : Y (cxk cx k) x 7 (some .boolean) 130 33 [(0, vR 500), (1, vR 0), (2, vR 111), (3, vR 129), (4, vI i)] [] G (fL_body sn sc i K G) := by
  have hk : k ≤ 4000 := by omega
  have F := Fk C hk
  unfold fL_body
  refine x_aload_n F dL_law_33 rfl rfl rfl ?_
  refine x_iload F dL_law_34 rfl rfl ?_
  refine x_scrLd C hk dL_law_36 rfl (fun v => ?_)
  refine x_bipush F dL_law_37 ⟨by decide, by decide⟩ (by decide) rfl ?_
  refine x_iand F dL_law_39 rfl ?_
  refine x_ite (fun h0 => ?_) (fun h0 => ?_)
  · refine x_tabIn (off := 204) (pc' := 244) F dL_law_40 (by omega) (by omega) (by rw [h0]; rfl) rfl ?_
    exact uL_0 C hk1 i K G (fun g => Y_wid (Nat.le_succ k) (hK g))
  refine x_ite (fun h1 => ?_) (fun h1 => ?_)
  · refine x_tabIn (off := 351) (pc' := 391) F dL_law_40 (by omega) (by omega) (by rw [h1]; rfl) rfl ?_
    exact uL_1 C hk1 i K G (fun g => Y_wid (Nat.le_succ k) (hK g))
  refine x_ite (fun h2 => ?_) (fun h2 => ?_)
  · refine x_tabIn (off := 364) (pc' := 404) F dL_law_40 (by omega) (by omega) (by rw [h2]; rfl) rfl ?_
    exact uL_2 C hk1 i K G (fun g => Y_wid (Nat.le_succ k) (hK g))
  refine x_ite (fun h3 => ?_) (fun h3 => ?_)
  · refine x_tabIn (off := 377) (pc' := 417) F dL_law_40 (by omega) (by omega) (by rw [h3]; rfl) rfl ?_
    exact uL_3 C hk1 i K G (fun g => Y_wid (Nat.le_succ k) (hK g))
  refine x_ite (fun h4 => ?_) (fun h4 => ?_)
  · refine x_tabIn (off := 414) (pc' := 454) F dL_law_40 (by omega) (by omega) (by rw [h4]; rfl) rfl ?_
    exact uL_4 C hk1 i K G (fun g => Y_wid (Nat.le_succ k) (hK g))
  refine x_ite (fun h5 => ?_) (fun h5 => ?_)
  · refine x_tabIn (off := 451) (pc' := 491) F dL_law_40 (by omega) (by omega) (by rw [h5]; rfl) rfl ?_
    exact uL_5 C hk1 i K G (fun g => Y_wid (Nat.le_succ k) (hK g))
  refine x_ite (fun h6 => ?_) (fun h6 => ?_)
  · refine x_tabIn (off := 488) (pc' := 528) F dL_law_40 (by omega) (by omega) (by rw [h6]; rfl) rfl ?_
    exact uL_6 C hk1 i K G (fun g => Y_wid (Nat.le_succ k) (hK g))
  refine x_ite (fun h7 => ?_) (fun h7 => ?_)
  · refine x_tabIn (off := 525) (pc' := 565) F dL_law_40 (by omega) (by omega) (by rw [h7]; rfl) rfl ?_
    exact uL_7 C hk1 i K G (fun g => Y_wid (Nat.le_succ k) (hK g))
  refine x_ite (fun h8 => ?_) (fun h8 => ?_)
  · refine x_tabIn (off := 550) (pc' := 590) F dL_law_40 (by omega) (by omega) (by rw [h8]; rfl) rfl ?_
    exact uL_8 C hk1 i K G (fun g => Y_wid (Nat.le_succ k) (hK g))
  refine x_ite (fun h9 => ?_) (fun h9 => ?_)
  · refine x_tabIn (off := 587) (pc' := 627) F dL_law_40 (by omega) (by omega) (by rw [h9]; rfl) rfl ?_
    exact uL_9 C hk1 i K G (fun g => Y_wid (Nat.le_succ k) (hK g))
  refine x_ite (fun h10 => ?_) (fun h10 => ?_)
  · refine x_tabIn (off := 612) (pc' := 652) F dL_law_40 (by omega) (by omega) (by rw [h10]; rfl) rfl ?_
    exact uL_10 C hk1 i K G (fun g => Y_wid (Nat.le_succ k) (hK g))
  refine x_ite (fun h11 => ?_) (fun h11 => ?_)
  · refine x_tabIn (off := 637) (pc' := 677) F dL_law_40 (by omega) (by omega) (by rw [h11]; rfl) rfl ?_
    exact uL_11 C hk1 i K G (fun g => Y_wid (Nat.le_succ k) (hK g))
  refine x_ite (fun h12 => ?_) (fun h12 => ?_)
  · refine x_tabIn (off := 662) (pc' := 702) F dL_law_40 (by omega) (by omega) (by rw [h12]; rfl) rfl ?_
    exact uL_12 C hk1 i K G (fun g => Y_wid (Nat.le_succ k) (hK g))
  refine x_ite (fun h13 => ?_) (fun h13 => ?_)
  · refine x_tabIn (off := 687) (pc' := 727) F dL_law_40 (by omega) (by omega) (by rw [h13]; rfl) rfl ?_
    exact uL_13 C hk1 i K G (fun g => Y_wid (Nat.le_succ k) (hK g))
  refine x_ite (fun h14 => ?_) (fun h14 => ?_)
  · refine x_tabIn (off := 724) (pc' := 764) F dL_law_40 (by omega) (by omega) (by rw [h14]; rfl) rfl ?_
    exact uL_14 C hk1 i K G (fun g => Y_wid (Nat.le_succ k) (hK g))
  refine x_ite (fun h15 => ?_) (fun h15 => ?_)
  · refine x_tabIn (off := 749) (pc' := 789) F dL_law_40 (by omega) (by omega) (by rw [h15]; rfl) rfl ?_
    exact uL_15 C hk1 i K G (fun g => Y_wid (Nat.le_succ k) (hK g))
  refine x_ite (fun h16 => ?_) (fun h16 => ?_)
  · refine x_tabIn (off := 786) (pc' := 826) F dL_law_40 (by omega) (by omega) (by rw [h16]; rfl) rfl ?_
    exact uL_16 C hk1 i K G (fun g => Y_wid (Nat.le_succ k) (hK g))
  refine x_ite (fun h17 => ?_) (fun h17 => ?_)
  · refine x_tabIn (off := 811) (pc' := 851) F dL_law_40 (by omega) (by omega) (by rw [h17]; rfl) rfl ?_
    exact uL_17 C hk1 i K G (fun g => Y_wid (Nat.le_succ k) (hK g))
  refine x_ite (fun h18 => ?_) (fun h18 => ?_)
  · refine x_tabIn (off := 824) (pc' := 864) F dL_law_40 (by omega) (by omega) (by rw [h18]; rfl) rfl ?_
    exact uL_18 C hk1 i K G (fun g => Y_wid (Nat.le_succ k) (hK g))
  refine x_ite (fun h19 => ?_) (fun h19 => ?_)
  · refine x_tabIn (off := 849) (pc' := 889) F dL_law_40 (by omega) (by omega) (by rw [h19]; rfl) rfl ?_
    exact uL_19 C hk1 i K G (fun g => Y_wid (Nat.le_succ k) (hK g))
  refine x_ite (fun h20 => ?_) (fun h20 => ?_)
  · refine x_tabIn (off := 886) (pc' := 926) F dL_law_40 (by omega) (by omega) (by rw [h20]; rfl) rfl ?_
    exact uL_20 C hk1 i K G (fun g => Y_wid (Nat.le_succ k) (hK g))
  refine x_ite (fun h21 => ?_) (fun h21 => ?_)
  · refine x_tabIn (off := 923) (pc' := 963) F dL_law_40 (by omega) (by omega) (by rw [h21]; rfl) rfl ?_
    exact uL_21 C hk1 i K G hK
  refine x_ite (fun h22 => ?_) (fun h22 => ?_)
  · refine x_tabIn (off := 1003) (pc' := 1043) F dL_law_40 (by omega) (by omega) (by rw [h22]; rfl) rfl ?_
    exact uL_22 C hk1 i K G (fun g => Y_wid (Nat.le_succ k) (hK g))
  refine x_ite (fun h23 => ?_) (fun h23 => ?_)
  · refine x_tabIn (off := 1016) (pc' := 1056) F dL_law_40 (by omega) (by omega) (by rw [h23]; rfl) rfl ?_
    exact uL_23 C hk1 i K G (fun g => Y_wid (Nat.le_succ k) (hK g))
  refine x_ite (fun h24 => ?_) (fun h24 => ?_)
  · refine x_tabIn (off := 1029) (pc' := 1069) F dL_law_40 (by omega) (by omega) (by rw [h24]; rfl) rfl ?_
    exact uL_24 C hk1 i K G (fun g => Y_wid (Nat.le_succ k) (hK g))
  refine x_ite (fun h25 => ?_) (fun h25 => ?_)
  · refine x_tabIn (off := 1054) (pc' := 1094) F dL_law_40 (by omega) (by omega) (by rw [h25]; rfl) rfl ?_
    exact uL_25 C hk1 i K G (fun g => Y_wid (Nat.le_succ k) (hK g))
  refine x_ite (fun h26 => ?_) (fun h26 => ?_)
  · refine x_tabIn (off := 1067) (pc' := 1107) F dL_law_40 (by omega) (by omega) (by rw [h26]; rfl) rfl ?_
    exact uL_26 C hk1 i K G (fun g => Y_wid (Nat.le_succ k) (hK g))
  refine x_ite (fun h27 => ?_) (fun h27 => ?_)
  · refine x_tabIn (off := 1080) (pc' := 1120) F dL_law_40 (by omega) (by omega) (by rw [h27]; rfl) rfl ?_
    exact uL_27 C hk1 i K G (fun g => Y_wid (Nat.le_succ k) (hK g))
  refine x_ite (fun h28 => ?_) (fun h28 => ?_)
  · refine x_tabIn (off := 1093) (pc' := 1133) F dL_law_40 (by omega) (by omega) (by rw [h28]; rfl) rfl ?_
    exact uL_28 C hk1 i K G (fun g => Y_wid (Nat.le_succ k) (hK g))
  refine x_ite (fun h29 => ?_) (fun h29 => ?_)
  · refine x_tabIn (off := 1106) (pc' := 1146) F dL_law_40 (by omega) (by omega) (by rw [h29]; rfl) rfl ?_
    exact uL_29 C hk1 i K G (fun g => Y_wid (Nat.le_succ k) (hK g))
  refine x_ite (fun h30 => ?_) (fun h30 => ?_)
  · refine x_tabIn (off := 1143) (pc' := 1183) F dL_law_40 (by omega) (by omega) (by rw [h30]; rfl) rfl ?_
    exact uL_30 C hk1 i K G (fun g => Y_wid (Nat.le_succ k) (hK g))
  refine x_ite (fun h31 => ?_) (fun h31 => ?_)
  · refine x_tabIn (off := 1168) (pc' := 1208) F dL_law_40 (by omega) (by omega) (by rw [h31]; rfl) rfl ?_
    exact uL_31 C hk1 i K G (fun g => Y_wid (Nat.le_succ k) (hK g))
  refine x_ite (fun h32 => ?_) (fun h32 => ?_)
  · refine x_tabIn (off := 1193) (pc' := 1233) F dL_law_40 (by omega) (by omega) (by rw [h32]; rfl) rfl ?_
    exact uL_32 C hk1 i K G (fun g => Y_wid (Nat.le_succ k) (hK g))
  refine x_ite (fun h33 => ?_) (fun h33 => ?_)
  · refine x_tabIn (off := 1218) (pc' := 1258) F dL_law_40 (by omega) (by omega) (by rw [h33]; rfl) rfl ?_
    exact uL_33 C hk1 i K G (fun g => Y_wid (Nat.le_succ k) (hK g))
  refine x_ite (fun h34 => ?_) (fun h34 => ?_)
  · refine x_tabIn (off := 1243) (pc' := 1283) F dL_law_40 (by omega) (by omega) (by rw [h34]; rfl) rfl ?_
    exact uL_34 C hk1 i K G (fun g => Y_wid (Nat.le_succ k) (hK g))
  refine x_ite (fun h35 => ?_) (fun h35 => ?_)
  · refine x_tabIn (off := 1268) (pc' := 1308) F dL_law_40 (by omega) (by omega) (by rw [h35]; rfl) rfl ?_
    exact uL_35 C hk1 i K G (fun g => Y_wid (Nat.le_succ k) (hK g))
  refine x_ite (fun h36 => ?_) (fun h36 => ?_)
  · refine x_tabIn (off := 1293) (pc' := 1333) F dL_law_40 (by omega) (by omega) (by rw [h36]; rfl) rfl ?_
    exact uL_36 C hk1 i K G (fun g => Y_wid (Nat.le_succ k) (hK g))
  refine x_ite (fun h37 => ?_) (fun h37 => ?_)
  · refine x_tabIn (off := 1330) (pc' := 1370) F dL_law_40 (by omega) (by omega) (by rw [h37]; rfl) rfl ?_
    exact uL_37 C hk1 i K G (fun g => Y_wid (Nat.le_succ k) (hK g))
  refine x_ite (fun h38 => ?_) (fun h38 => ?_)
  · refine x_tabIn (off := 1343) (pc' := 1383) F dL_law_40 (by omega) (by omega) (by rw [h38]; rfl) rfl ?_
    exact uL_38 C hk1 i K G (fun g => Y_wid (Nat.le_succ k) (hK g))
  refine x_ite (fun h39 => ?_) (fun h39 => ?_)
  · refine x_tabIn (off := 1368) (pc' := 1408) F dL_law_40 (by omega) (by omega) (by rw [h39]; rfl) rfl ?_
    exact uL_39 C hk1 i K G (fun g => Y_wid (Nat.le_succ k) (hK g))
  refine x_ite (fun h40 => ?_) (fun h40 => ?_)
  · refine x_tabIn (off := 1393) (pc' := 1433) F dL_law_40 (by omega) (by omega) (by rw [h40]; rfl) rfl ?_
    exact uL_40 C hk1 i K G (fun g => Y_wid (Nat.le_succ k) (hK g))
  refine x_ite (fun h41 => ?_) (fun h41 => ?_)
  · refine x_tabIn (off := 1418) (pc' := 1458) F dL_law_40 (by omega) (by omega) (by rw [h41]; rfl) rfl ?_
    exact uL_41 C hk1 i K G (fun g => Y_wid (Nat.le_succ k) (hK g))
  refine x_ite (fun h42 => ?_) (fun h42 => ?_)
  · refine x_tabIn (off := 1483) (pc' := 1523) F dL_law_40 (by omega) (by omega) (by rw [h42]; rfl) rfl ?_
    exact uL_42 C hk1 i K G (fun g => Y_wid (Nat.le_succ k) (hK g))
  refine x_ite (fun h43 => ?_) (fun h43 => ?_)
  · refine x_tabIn (off := 1496) (pc' := 1536) F dL_law_40 (by omega) (by omega) (by rw [h43]; rfl) rfl ?_
    exact uL_43 C hk1 i K G (fun g => Y_wid (Nat.le_succ k) (hK g))
  refine x_ite (fun h44 => ?_) (fun h44 => ?_)
  · refine x_tabIn (off := 1509) (pc' := 1549) F dL_law_40 (by omega) (by omega) (by rw [h44]; rfl) rfl ?_
    exact uL_44 C hk1 i K G (fun g => Y_wid (Nat.le_succ k) (hK g))
  refine x_ite (fun h45 => ?_) (fun h45 => ?_)
  · refine x_tabIn (off := 1558) (pc' := 1598) F dL_law_40 (by omega) (by omega) (by rw [h45]; rfl) rfl ?_
    exact uL_45 C hk1 i K G (fun g => Y_wid (Nat.le_succ k) (hK g))
  refine x_ite (fun h46 => ?_) (fun h46 => ?_)
  · refine x_tabIn (off := 1611) (pc' := 1651) F dL_law_40 (by omega) (by omega) (by rw [h46]; rfl) rfl ?_
    exact uL_46 C hk1 i K G (fun g => Y_wid (Nat.le_succ k) (hK g))
  refine x_tabOut (pc' := 1676) F dL_law_40 (Or.inr ?_) rfl ?_
  · have h63 := iand63 v
    omega
  · exact Y_wid (Nat.le_succ k) (hK G)
def fL_step (sn : Nat) (sc : Nat → Int) (rc : Int → Hp → RT) (i : Int) (G : Hp) : RT := if isub (sn : Int) 7 < i then rz 1 G else (if i ≤ 3577 then fL_body sn sc i (fun g => rc (iadd i 7) g) G else none)
def fL_loop (sn : Nat) (sc : Nat → Int) : Int → Hp → RT := lp (fun (_ : Int) (_ : Hp) => (none : RT)) 5000 (fL_step sn sc)
set_option maxRecDepth 20000 in
set_option maxHeartbeats 4000000 in
theorem uL_loop {cx : CX} {x : WX} {b sn : Nat} {sc : Nat → Int} (C : LC cx x b sn sc) : ∀ (i : Int) (G : Hp), 0 ≤ i ∧ i ≤ 3584 → Y (cxk cx i.toNat) x 7 (some .boolean) 130 23 [(0, vR 500), (1, vR 0), (2, vR 111), (3, vR 129), (4, vI i)] [] G (fL_loop sn sc i G) := by
  unfold fL_loop
  refine x_lp (fun (rc : Int → Hp → RT) => ∀ (i : Int) (G : Hp), 0 ≤ i ∧ i ≤ 3584 → Y (cxk cx i.toNat) x 7 (some .boolean) 130 23 [(0, vR 500), (1, vR 0), (2, vR 111), (3, vR 129), (4, vI i)] [] G (rc i G)) (fun _ _ _ => Y_none) (fun rc hrc i G hi => ?_) 5000
  have hk : i.toNat ≤ 4000 := by omega
  have F := Fk C hk
  unfold fL_step
  refine x_iload F dL_law_23 rfl rfl ?_
  refine x_aload_n F dL_law_25 rfl rfl rfl ?_
  refine x_scrLen C hk dL_law_26 rfl ?_
  refine x_bipush F dL_law_27 ⟨by decide, by decide⟩ (by decide) rfl ?_
  refine x_isub F dL_law_29 rfl ?_
  refine x_icmpgt (pt := 1682) F dL_law_30 rfl rfl ?_ ?_
  · refine x_iconst F dL_law_1682 ⟨by decide, by decide⟩ rfl ?_
    exact x_retL C hk (Nat.le_refl _) dL_law_1683
  · refine x_ite (fun h => ?_) (fun _ => Y_none)
    refine uL_body C (k := i.toNat) (by omega) i _ G (fun g => ?_)
    have e : iadd i 7 = i + 7 := by unfold iadd; rw [w32_id ⟨by omega, by omega⟩]
    have F1 := Fk C (k := i.toNat + 1) (by omega)
    refine x_iincE F1 dL_law_1676 rfl (by decide) rfl rfl ?_
    show Y (cxk cx (i.toNat + 1)) x 7 (some .boolean) 130 1679 [(0, vR 500), (1, vR 0), (2, vR 111), (3, vR 129), (4, vI (iadd i 7))] [] g (rc (iadd i 7) g)
    refine x_goto (pc' := 23) F1 dL_law_1679 rfl ?_
    rw [e]
    exact Y_wid (k' := (i + 7).toNat) (by omega) (hrc (i + 7) g ⟨by omega, by omega⟩)
noncomputable def fL_law (sn : Nat) (sc : Nat → Int) (G : Hp) : RT := no 0 11 (bh (clr G 0) fun G1 => bn (iX11_init 0 1 G1) fun _ G2 => no 111 12 (bh (clr G2 111) fun G3 => bn (iX12_init 111 G3) fun _ G4 => nb 1 (bh (clr G4 129) fun G5 => fL_loop sn sc 0 G5)))
set_option maxRecDepth 20000 in
set_option maxHeartbeats 4000000 in
theorem uL_law {cx : CX} {x : WX} {b sn : Nat} {sc : Nat → Int} (C : LC cx x b sn sc) (G : Hp) : Y (cxk cx 0) x 7 (some .boolean) 0 0 [(0, vR 500)] [] G (fL_law sn sc G) := by
  have F := Fk C (k := 0) (by omega)
  have hB : BS (cxk cx 0) x := ⟨by rw [show (cxk cx 0).n0 = 0 from C.2.2.1]; exact C.2.2.2.2.2.2.1.1, C.2.2.2.2.2.2.1.2, rfl, rfl⟩
  have hn0 : (cxk cx 0).n0 = 0 := C.2.2.1
  have hnE : (cxk cx 0).nE = 130 := C.2.2.2.1
  have hd : (cxk cx 0).d = 200 := C.2.1
  have hi := F.2.2.2.2.2.2.2.2.1
  have had := C.2.2.2.2.2.2.1.2
  unfold fL_law
  refine x_newO F hB nwL_8 (by omega) (by omega) (by omega) dL_law_0 rfl (fun h1 G1 => ?_)
  refine x_dup F dL_law_3 rfl rfl ?_
  refine x_callC (f := fun G2 => _) (as := []) (S := [vR 0]) F hB lkL_15 rfl wd_1_29 wd_1_1 mcX11_init (by decide +kernel : yX11_init.cls ≠ "java/lang/invoke/MethodHandle" ∧ yX11_init.cls ≠ "java/lang/invoke/VarHandle" ∧ (parseMethodDescriptor yX11_init.desc).map (fun d => d.parameters.length) = some 0) (by decide) (n := 1) (n1 := 111) (by omega) (by omega) (by omega) (by omega) (kX11_init cx.l x hi had 1 G1 0 rfl (by omega) (by omega)) (le_d hd rfl) (Nat.le_of_ble_eq_true rfl) dL_law_4 rfl rfl (fun G2 => ?_)
  refine x_astore_n F dL_law_7 rfl (by decide) rfl rfl ?_
  show Y (cxk cx 0) x 7 (some .boolean) 111 8 [(0, vR 500), (1, vR 0)] [] G2 _
  refine x_newO F hB nwL_16 (by omega) (by omega) (by omega) dL_law_8 rfl (fun h3 G3 => ?_)
  refine x_dup F dL_law_11 rfl rfl ?_
  refine x_callC (f := fun G4 => _) (as := []) (S := [vR 111]) F hB lkL_18 rfl wd_6_198 wd_1_17 mcX12_init (by decide +kernel : yX12_init.cls ≠ "java/lang/invoke/MethodHandle" ∧ yX12_init.cls ≠ "java/lang/invoke/VarHandle" ∧ (parseMethodDescriptor yX12_init.desc).map (fun d => d.parameters.length) = some 0) (by decide) (n := 112) (n1 := 129) (by omega) (by omega) (by omega) (by omega) (kX12_init cx.l x hi had G3 111 rfl (by omega)) (le_d hd rfl) (Nat.le_of_ble_eq_true rfl) dL_law_12 rfl rfl (fun G4 => ?_)
  refine x_astore_n F dL_law_15 rfl (by decide) rfl rfl ?_
  show Y (cxk cx 0) x 7 (some .boolean) 129 16 [(0, vR 500), (1, vR 0), (2, vR 111)] [] G4 _
  refine x_iconst F dL_law_16 ⟨by decide, by decide⟩ rfl ?_
  refine x_newOut F hB (by omega) (by omega) wd_1_129 dL_law_17 rfl (fun G5 => ?_)
  refine x_astore_n F dL_law_19 rfl (by decide) rfl rfl ?_
  show Y (cxk cx 0) x 7 (some .boolean) 130 20 [(0, vR 500), (1, vR 0), (2, vR 111), (3, vR 129)] [] G5 _
  refine x_iconst F dL_law_20 ⟨by decide, by decide⟩ rfl ?_
  refine x_istoreE F dL_law_21 (by decide) rfl rfl ?_
  show Y (cxk cx 0) x 7 (some .boolean) 130 23 [(0, vR 500), (1, vR 0), (2, vR 111), (3, vR 129), (4, vI 0)] [] G5 _
  exact uL_loop C 0 G5 ⟨by omega, by omega⟩
