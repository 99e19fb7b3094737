/-! What is due on a claim; claims joined; payouts and marks of a worker. -/
def wiJ (ow itr D d0 : Int32) : Int64 := ow.toInt64 + ow.toInt64 * itr.toInt64 * (D - d0).toInt64 / 365000
theorem dvJ3 (x : Int64) : dvJ x 365000 = some (x / 365000) := if_neg (by decide)
def sJ (f : Nat → Int64) : Nat → Int64
  | 0 => 0
  | n + 1 => sJ f n + f n
theorem sJ_congr {f f' : Nat → Int64} : ∀ n, (∀ i, i < n → f i = f' i) → sJ f n = sJ f' n
  | 0, _ => rfl
  | n + 1, h => by
    show sJ f n + f n = sJ f' n + f' n
    rw [sJ_congr n (fun i hi' => h i (by omega)), h n (by omega)]
theorem sJ_first (f : Nat → Int64) : ∀ n, sJ f (n + 1) = f 0 + sJ (fun t => f (t + 1)) n
  | 0 => by show (0 : Int64) + f 0 = f 0 + 0; rw [Int64.zero_add, Int64.add_zero]
  | n + 1 => by
    show sJ f (n + 1) + f (n + 1) = f 0 + (sJ (fun t => f (t + 1)) n + f (n + 1))
    rw [sJ_first f n, Int64.add_assoc]
theorem sJ_rev : ∀ (n : Nat) (f : Nat → Int64), sJ (fun t => f (n - 1 - t)) n = sJ f n
  | 0, _ => rfl
  | n + 1, f => by
    rw [sJ_first]
    have e : sJ (fun t => f (n + 1 - 1 - (t + 1))) n = sJ (fun t => f (n - 1 - t)) n := sJ_congr n (fun i hi' => by rw [show n + 1 - 1 - (i + 1) = n - 1 - i by omega])
    rw [e, sJ_rev n f]
    show f (n + 1 - 1 - 0) + sJ f n = sJ f n + f n
    rw [show n + 1 - 1 - 0 = n by omega, Int64.add_comm]
def dueV (F : Nat → Nat → Int32) (A : Ac) (L : (Nat → Nat) × Nat) (ow : Nat → Int32) (D : Int32) : Int64 :=
  sJ (fun t => wiJ (ow (L.1 (CN0 F L D - CNN F A L D + t))) (A.1 6) D (F 2 (L.1 (CN0 F L D - CNN F A L D + t)))) (CNN F A L D)
theorem CNN_le (F : Nat → Nat → Int32) (A : Ac) (L : (Nat → Nat) × Nat) (D : Int32) : CNN F A L D ≤ CN0 F L D ∧ CN0 F L D ≤ L.2 := ⟨chC_le _ _ _ _ _ _ _ _, lstC_le _ _ _ _⟩
/-- what a claim on day D does to the first claims' days -/
def clU (cl : Nat → Int32) (D : Int32) (lo hi' : Nat) : Nat → Int32 := fun j => if lo ≤ j ∧ j < hi' then (if cl j = -1 ∨ D < cl j then D else cl j) else cl j
theorem clU_in {cl : Nat → Int32} {D : Int32} {lo hi' j : Nat} (h : lo ≤ j ∧ j < hi') : clU cl D lo hi' j = if cl j = -1 ∨ D < cl j then D else cl j := if_pos h
theorem clU_out {cl : Nat → Int32} {D : Int32} {lo hi' j : Nat} (h : ¬ (lo ≤ j ∧ j < hi')) : clU cl D lo hi' j = cl j := if_neg h
def clN (F : Nat → Nat → Int32) (A : Ac) (L : (Nat → Nat) × Nat) (wk k : Int32) : Nat → Nat → Int32
  | 0 => fun _ => -1
  | m + 1 => if cnts F 5 wk k m = true then clU (clN F A L wk k m) (F 2 m) (CN0 F L (F 2 m) - CNN F A L (F 2 m)) (CN0 F L (F 2 m)) else clN F A L wk k m
theorem clN_bd {F : Nat → Nat → Int32} {A : Ac} {L : (Nat → Nat) × Nat} {wk k : Int32} {nw nf : Nat} (R : RG F nw nf) : ∀ m, m ≤ nf → ∀ j, clN F A L wk k m j = -1 ∨ ∃ d, d ≤ 999 ∧ clN F A L wk k m j = nI d
  | 0, _, _ => Or.inl rfl
  | m + 1, hm, j => by
    have ih := clN_bd (A := A) (L := L) (wk := wk) (k := k) R m (by omega) j
    rw [clN.eq_2]
    split
    · rename_i c
      unfold clU
      split
      · split
        · exact Or.inr ((R.1 m (by omega)).2.2.2.2.2.2.1 (cnts_iff.mp c).1)
        · exact ih
      · exact ih
    · exact ih
def orN (p : Nat → Nat) : Nat → Nat
  | 0 => 0
  | n + 1 => orN p n ||| p n
def PAYV (F : Nat → Nat → Int32) (A : Ac) (L : (Nat → Nat) × Nat) (ow : Nat → Int32) (cl : Nat → Int32) : Int64 := sJ (fun j => if cl j = -1 then 0 else wiJ (ow (L.1 j)) (A.1 6) (cl j) (F 2 (L.1 j))) L.2
def PMKV (L : (Nat → Nat) × Nat) (mk : Nat → Nat) (cl : Nat → Int32) : Nat := orN (fun j => if cl j = -1 then 0 else mk (L.1 j)) L.2
section Pw
variable {P : Nat → Prop} {g : Hp} {b : Nat} {A : Ac} {pd : Nat → Nat → Int32} {pl tm : Int32} {F : Nat → Nat → Int32} {nw nf w : Nat} {fa : Nat → Nat} {L : (Nat → Nat) × Nat} {ow : Nat → Int32} {k : Int32}
theorem c_with (S : SHT P g b A pd pl tm) (C : CFx g F nf fa) {f : Nat} (hf : f < nf) (D : Int32) : f_X4_withInterest 27 (some (fa f)) D g = some (wiJ (hi g (fa f) 9) (A.1 6) D (F 2 f), g) := by
  have X := S.1
  obtain ⟨c0, c1, -, -, c4, -⟩ := C f hf
  have K : FK g (fa f) := c1
  have gq0 : getQ g (some 27) 4 0 = some (some b) := by rw [getQ_of 0 (k27 X), S.2.1]
  have rcb : rc g (some b) 0 = some b := by
    obtain ⟨rb, nb, p1, p2, p3, p4, -⟩ := S.2.2.1
    exact rc_eq p4
  have n6 : f_X0_number b 6 g = some (A.1 6, g) := f_num S.2.2.1 (n := 6) (by omega)
  unfold f_X4_withInterest
  simp (disch := (first | assumption | (simp only [FX_si, FX_sj, FX_sr, WX_si, WX_sj, WX_sr, FK_si, FK_sj, FK_sr]; assumption) | omega | decide)) only [gq0, rcb, n6, c4, dvJ3, ↓reduceIte, if_true, if_false, i10, i01, eq_self, wq7, wq8, wq9, wq10, wrc, wgi, wpi, wpz, wn1, wn2, wn3, wn4, wr1, wr2, wr3, wr4, ww1, ww2, ww3, ww4, fgi, fgq, fpi, frc, at18, at19, at21, at22, at23, at24, at25, at26, at_neg, wat1, wat2, wat3, wat4, reduceCtorEq, bd_some, b1_some, b2_some, b3_some, b4_some, c1_eq, elim_inl, elim_inr, zok0, zok1, getQ_si, getQ_sj, getQ_sr, q8_0, q8_1, q8_2, q8_4, q8_7, q8_8, q8_9, q8_10, q8_11, q9_0, q9_3, q9_4, q9_8, q17_0, q17_1, q17_2, q17_4, q17_5, q17_6, q17_9, q17_10, q17_11, q27_4, q27_5, q27_6, q27_7, q27_8, q27_11, q45_0, q45_1, q45_11, q45_12, q45_13, q45_14, q45_15, q45_16, q45_17, q45_18, q45_19, q45_20, q45_21, q45_22, q45_23, q45_24, q45_30, q45_31, q45_32, q45_33, q45_34, q45_35, q45_36, q45_37, q45_38, q45_39, q45_43, q45_44, q45_45, q45_46, q45_47, q45_48, q45_52, q45_53, q45_54, q45_59, q45_60, q45_61, q45_62, q45_65, q45_67, q45_68, gi8, gj8, pi8, pz8, pj8, rc8, gi9, gj9, pi9, pz9, pj9, rc9, gi17, gj17, pi17, pz17, pj17, rc17, gi27, gj27, pi27, pz27, pj27, rc27, gi45, gj45, pi45, pz45, pj45, rc45, aln_si, aln_sj, aln_sq, rc_si, rc_sj, rc_sq, n0, n1, n10, n11, n12, n13, n14, n15, n16, n18, n19, n20, n21, n22, n23, n24, n25, n26, n29, n30, n31, n32, n33, n34, n35, n36, n37, n38, n39, n40, n42, n43, n44, n46, n47, n48, n49, n50, n51, n52, n53, n54, n55, n56, n57, n58, n59, n60, n61, n62, n63, n64, n65, n66, n67, n68, n69, n70, n71, n72, n73, n74, n75, n76, n77, n78, n79, n80, n81, n82, n83, n84, n85, n86, n87, r0, r1, r10, r11, r12, r13, r14, r15, r16, r18, r19, r20, r21, r22, r23, r24, r25, r26, r29, r30, r31, r32, r33, r34, r35, r36, r37, r38, r39, r40, r42, r43, r44, r46, r47, r48, r49, r50, r51, r52, r53, r54, r55, r56, r57, r58, r59, r60, r61, r62, r63, r64, r65, r66, r67, r68, r69, r70, r71, r72, r73, r74, r75, r76, r77, r78, r79, r80, r81, r82, r83, r84, r85, r86, r87, w10, w11, w12, w13, w18, w19, w20, w21, w22, w23, w24, w25, w26, w30, w31, w32, w33, w34, w35, w36, w38, w39, w40, w43, w44, w46, w47, w48, w49, w50, w51, w52, w53, w54, w55, w56, w57, w58, w59, w60, w61, w62, w63, w64, w65, w66, w67, w68, w69, w70, w71, w72, w73, w74, w75, w76, w77, w78, w79, w80, w81, w82, w83, w84, w85, w86, w87, hi_hit, hi_row, hi_col, hj_hit, hj_row, hj_col, hi_sj, hj_si, hq_si, hq_sj, hi_sq, hj_sq, hi_srh, hi_srm]
  rfl
theorem c_due (S : SHT P g b A pd pl tm) (C : CFx g F nf fa) (Q : LSQ g nf fa L) (D : Int32) (h14 : hi g 27 14 = wI (CN0 F L D)) (h13 : hi g 27 13 = nI (CN0 F L D - CNN F A L D)) (h9 : ∀ j, j < L.2 → hi g (fa (L.1 j)) 9 = ow (L.1 j)) :
    f_X4_dueOn 27 D g = some (dueV F A L ow D, g) := by
  have X := S.1
  have hc := Q.2.1
  obtain ⟨le1, le2⟩ := CNN_le F A L D
  obtain ⟨n0', en0⟩ : ∃ n0', n0' = CN0 F L D := ⟨_, rfl⟩
  obtain ⟨CH, eCH⟩ : ∃ CH, CH = CNN F A L D := ⟨_, rfl⟩
  unfold dueV
  rw [← en0] at h14 h13 le1 le2 ⊢
  rw [← eCH] at h13 le1 ⊢
  obtain ⟨lo, elo⟩ : ∃ lo, lo = n0' - CH := ⟨_, rfl⟩
  rw [← elo] at h13 ⊢
  obtain ⟨o, h1, h2⟩ := forN (fun n i (p : Int64 × Hp) => f_X4_dueOn_L8 n 27 D p.1 i p.2) n0' (by omega) (fun i p => lo ≤ i ∧ p = (sJ (fun t => wiJ (ow (L.1 (lo + t))) (A.1 6) D (F 2 (L.1 (lo + t)))) (i - lo), g)) (fun p => p = (sJ (fun t => wiJ (ow (L.1 (lo + t))) (A.1 6) D (F 2 (L.1 (lo + t)))) CH, g)) (by
    rintro n p ⟨I0, I1⟩
    subst I1
    have ech : n0' - lo = CH := by omega
    rw [ech]
    refine ⟨(sJ (fun t => wiJ (ow (L.1 (lo + t))) (A.1 6) D (F 2 (L.1 (lo + t)))) CH, g), ?_, rfl⟩
    have lt : wI n0' < nI n0' := by
      unfold wI
      rw [Int32.lt_iff_toInt_lt, show (1 : Int32) = nI 1 from rfl, pk_sub_toInt (by omega) (by omega), nI_toInt (by omega)]
      omega
    simp only [f_X4_dueOn_L8.eq_2]
    simp (disch := (first | assumption | (simp only [FX_si, FX_sj, FX_sr, WX_si, WX_sj, WX_sr, FK_si, FK_sj, FK_sr]; assumption) | omega | decide)) only [h14, lt, ↓reduceIte, if_true, if_false, i10, i01, eq_self, wq7, wq8, wq9, wq10, wrc, wgi, wpi, wpz, wn1, wn2, wn3, wn4, wr1, wr2, wr3, wr4, ww1, ww2, ww3, ww4, fgi, fgq, fpi, frc, at18, at19, at21, at22, at23, at24, at25, at26, at_neg, wat1, wat2, wat3, wat4, reduceCtorEq, bd_some, b1_some, b2_some, b3_some, b4_some, c1_eq, elim_inl, elim_inr, zok0, zok1, getQ_si, getQ_sj, getQ_sr, q8_0, q8_1, q8_2, q8_4, q8_7, q8_8, q8_9, q8_10, q8_11, q9_0, q9_3, q9_4, q9_8, q17_0, q17_1, q17_2, q17_4, q17_5, q17_6, q17_9, q17_10, q17_11, q27_4, q27_5, q27_6, q27_7, q27_8, q27_11, q45_0, q45_1, q45_11, q45_12, q45_13, q45_14, q45_15, q45_16, q45_17, q45_18, q45_19, q45_20, q45_21, q45_22, q45_23, q45_24, q45_30, q45_31, q45_32, q45_33, q45_34, q45_35, q45_36, q45_37, q45_38, q45_39, q45_43, q45_44, q45_45, q45_46, q45_47, q45_48, q45_52, q45_53, q45_54, q45_59, q45_60, q45_61, q45_62, q45_65, q45_67, q45_68, gi8, gj8, pi8, pz8, pj8, rc8, gi9, gj9, pi9, pz9, pj9, rc9, gi17, gj17, pi17, pz17, pj17, rc17, gi27, gj27, pi27, pz27, pj27, rc27, gi45, gj45, pi45, pz45, pj45, rc45, aln_si, aln_sj, aln_sq, rc_si, rc_sj, rc_sq, n0, n1, n10, n11, n12, n13, n14, n15, n16, n18, n19, n20, n21, n22, n23, n24, n25, n26, n29, n30, n31, n32, n33, n34, n35, n36, n37, n38, n39, n40, n42, n43, n44, n46, n47, n48, n49, n50, n51, n52, n53, n54, n55, n56, n57, n58, n59, n60, n61, n62, n63, n64, n65, n66, n67, n68, n69, n70, n71, n72, n73, n74, n75, n76, n77, n78, n79, n80, n81, n82, n83, n84, n85, n86, n87, r0, r1, r10, r11, r12, r13, r14, r15, r16, r18, r19, r20, r21, r22, r23, r24, r25, r26, r29, r30, r31, r32, r33, r34, r35, r36, r37, r38, r39, r40, r42, r43, r44, r46, r47, r48, r49, r50, r51, r52, r53, r54, r55, r56, r57, r58, r59, r60, r61, r62, r63, r64, r65, r66, r67, r68, r69, r70, r71, r72, r73, r74, r75, r76, r77, r78, r79, r80, r81, r82, r83, r84, r85, r86, r87, w10, w11, w12, w13, w18, w19, w20, w21, w22, w23, w24, w25, w26, w30, w31, w32, w33, w34, w35, w36, w38, w39, w40, w43, w44, w46, w47, w48, w49, w50, w51, w52, w53, w54, w55, w56, w57, w58, w59, w60, w61, w62, w63, w64, w65, w66, w67, w68, w69, w70, w71, w72, w73, w74, w75, w76, w77, w78, w79, w80, w81, w82, w83, w84, w85, w86, w87, hi_hit, hi_row, hi_col, hj_hit, hj_row, hj_col, hi_sj, hj_si, hq_si, hq_sj, hi_sq, hj_sq, hi_srh, hi_srm]) (by
    rintro n i p hi' ⟨I0, I1⟩
    subst I1
    right
    have hiL : i < L.2 := by omega
    have nl : ¬ wI n0' < nI i := by
      unfold wI
      rw [Int32.lt_iff_toInt_lt, show (1 : Int32) = nI 1 from rfl, pk_sub_toInt (by omega) (by omega), nI_toInt (by omega)]
      omega
    have el := c_listed X Q hiL
    have cw := c_with S C (Q.2.2 i hiL).1 D
    rw [h9 i hiL] at cw
    refine ⟨(sJ (fun t => wiJ (ow (L.1 (lo + t))) (A.1 6) D (F 2 (L.1 (lo + t)))) (i + 1 - lo), g), ?_, by omega, rfl⟩
    have es : sJ (fun t => wiJ (ow (L.1 (lo + t))) (A.1 6) D (F 2 (L.1 (lo + t)))) (i + 1 - lo) = sJ (fun t => wiJ (ow (L.1 (lo + t))) (A.1 6) D (F 2 (L.1 (lo + t)))) (i - lo) + wiJ (ow (L.1 i)) (A.1 6) D (F 2 (L.1 i)) := by
      rw [show i + 1 - lo = i - lo + 1 by omega]
      show _ + wiJ (ow (L.1 (lo + (i - lo)))) (A.1 6) D (F 2 (L.1 (lo + (i - lo)))) = _
      rw [show lo + (i - lo) = i by omega]
    simp only [f_X4_dueOn_L8.eq_2, es]
    simp (disch := (first | assumption | (simp only [FX_si, FX_sj, FX_sr, WX_si, WX_sj, WX_sr, FK_si, FK_sj, FK_sr]; assumption) | omega | decide)) only [h14, nl, el, cw, nI_1, ↓reduceIte, if_true, if_false, i10, i01, eq_self, wq7, wq8, wq9, wq10, wrc, wgi, wpi, wpz, wn1, wn2, wn3, wn4, wr1, wr2, wr3, wr4, ww1, ww2, ww3, ww4, fgi, fgq, fpi, frc, at18, at19, at21, at22, at23, at24, at25, at26, at_neg, wat1, wat2, wat3, wat4, reduceCtorEq, bd_some, b1_some, b2_some, b3_some, b4_some, c1_eq, elim_inl, elim_inr, zok0, zok1, getQ_si, getQ_sj, getQ_sr, q8_0, q8_1, q8_2, q8_4, q8_7, q8_8, q8_9, q8_10, q8_11, q9_0, q9_3, q9_4, q9_8, q17_0, q17_1, q17_2, q17_4, q17_5, q17_6, q17_9, q17_10, q17_11, q27_4, q27_5, q27_6, q27_7, q27_8, q27_11, q45_0, q45_1, q45_11, q45_12, q45_13, q45_14, q45_15, q45_16, q45_17, q45_18, q45_19, q45_20, q45_21, q45_22, q45_23, q45_24, q45_30, q45_31, q45_32, q45_33, q45_34, q45_35, q45_36, q45_37, q45_38, q45_39, q45_43, q45_44, q45_45, q45_46, q45_47, q45_48, q45_52, q45_53, q45_54, q45_59, q45_60, q45_61, q45_62, q45_65, q45_67, q45_68, gi8, gj8, pi8, pz8, pj8, rc8, gi9, gj9, pi9, pz9, pj9, rc9, gi17, gj17, pi17, pz17, pj17, rc17, gi27, gj27, pi27, pz27, pj27, rc27, gi45, gj45, pi45, pz45, pj45, rc45, aln_si, aln_sj, aln_sq, rc_si, rc_sj, rc_sq, n0, n1, n10, n11, n12, n13, n14, n15, n16, n18, n19, n20, n21, n22, n23, n24, n25, n26, n29, n30, n31, n32, n33, n34, n35, n36, n37, n38, n39, n40, n42, n43, n44, n46, n47, n48, n49, n50, n51, n52, n53, n54, n55, n56, n57, n58, n59, n60, n61, n62, n63, n64, n65, n66, n67, n68, n69, n70, n71, n72, n73, n74, n75, n76, n77, n78, n79, n80, n81, n82, n83, n84, n85, n86, n87, r0, r1, r10, r11, r12, r13, r14, r15, r16, r18, r19, r20, r21, r22, r23, r24, r25, r26, r29, r30, r31, r32, r33, r34, r35, r36, r37, r38, r39, r40, r42, r43, r44, r46, r47, r48, r49, r50, r51, r52, r53, r54, r55, r56, r57, r58, r59, r60, r61, r62, r63, r64, r65, r66, r67, r68, r69, r70, r71, r72, r73, r74, r75, r76, r77, r78, r79, r80, r81, r82, r83, r84, r85, r86, r87, w10, w11, w12, w13, w18, w19, w20, w21, w22, w23, w24, w25, w26, w30, w31, w32, w33, w34, w35, w36, w38, w39, w40, w43, w44, w46, w47, w48, w49, w50, w51, w52, w53, w54, w55, w56, w57, w58, w59, w60, w61, w62, w63, w64, w65, w66, w67, w68, w69, w70, w71, w72, w73, w74, w75, w76, w77, w78, w79, w80, w81, w82, w83, w84, w85, w86, w87, hi_hit, hi_row, hi_col, hj_hit, hj_row, hj_col, hi_sj, hj_si, hq_si, hq_sj, hi_sq, hj_sq, hi_srh, hi_srm]) (i0 := lo) (s := (0, g)) (by omega) ⟨Nat.le_refl _, by rw [Nat.sub_self]; rfl⟩
  rw [h2] at h1
  have h1' : f_X4_dueOn_L8 fu 27 D 0 (nI lo) g = some (sJ (fun t => wiJ (ow (L.1 (lo + t))) (A.1 6) D (F 2 (L.1 (lo + t)))) CH, g) := h1
  unfold f_X4_dueOn
  simp (disch := (first | assumption | (simp only [FX_si, FX_sj, FX_sr, WX_si, WX_sj, WX_sr, FK_si, FK_sj, FK_sr]; assumption) | omega | decide)) only [h13, h1', ↓reduceIte, if_true, if_false, i10, i01, eq_self, wq7, wq8, wq9, wq10, wrc, wgi, wpi, wpz, wn1, wn2, wn3, wn4, wr1, wr2, wr3, wr4, ww1, ww2, ww3, ww4, fgi, fgq, fpi, frc, at18, at19, at21, at22, at23, at24, at25, at26, at_neg, wat1, wat2, wat3, wat4, reduceCtorEq, bd_some, b1_some, b2_some, b3_some, b4_some, c1_eq, elim_inl, elim_inr, zok0, zok1, getQ_si, getQ_sj, getQ_sr, q8_0, q8_1, q8_2, q8_4, q8_7, q8_8, q8_9, q8_10, q8_11, q9_0, q9_3, q9_4, q9_8, q17_0, q17_1, q17_2, q17_4, q17_5, q17_6, q17_9, q17_10, q17_11, q27_4, q27_5, q27_6, q27_7, q27_8, q27_11, q45_0, q45_1, q45_11, q45_12, q45_13, q45_14, q45_15, q45_16, q45_17, q45_18, q45_19, q45_20, q45_21, q45_22, q45_23, q45_24, q45_30, q45_31, q45_32, q45_33, q45_34, q45_35, q45_36, q45_37, q45_38, q45_39, q45_43, q45_44, q45_45, q45_46, q45_47, q45_48, q45_52, q45_53, q45_54, q45_59, q45_60, q45_61, q45_62, q45_65, q45_67, q45_68, gi8, gj8, pi8, pz8, pj8, rc8, gi9, gj9, pi9, pz9, pj9, rc9, gi17, gj17, pi17, pz17, pj17, rc17, gi27, gj27, pi27, pz27, pj27, rc27, gi45, gj45, pi45, pz45, pj45, rc45, aln_si, aln_sj, aln_sq, rc_si, rc_sj, rc_sq, n0, n1, n10, n11, n12, n13, n14, n15, n16, n18, n19, n20, n21, n22, n23, n24, n25, n26, n29, n30, n31, n32, n33, n34, n35, n36, n37, n38, n39, n40, n42, n43, n44, n46, n47, n48, n49, n50, n51, n52, n53, n54, n55, n56, n57, n58, n59, n60, n61, n62, n63, n64, n65, n66, n67, n68, n69, n70, n71, n72, n73, n74, n75, n76, n77, n78, n79, n80, n81, n82, n83, n84, n85, n86, n87, r0, r1, r10, r11, r12, r13, r14, r15, r16, r18, r19, r20, r21, r22, r23, r24, r25, r26, r29, r30, r31, r32, r33, r34, r35, r36, r37, r38, r39, r40, r42, r43, r44, r46, r47, r48, r49, r50, r51, r52, r53, r54, r55, r56, r57, r58, r59, r60, r61, r62, r63, r64, r65, r66, r67, r68, r69, r70, r71, r72, r73, r74, r75, r76, r77, r78, r79, r80, r81, r82, r83, r84, r85, r86, r87, w10, w11, w12, w13, w18, w19, w20, w21, w22, w23, w24, w25, w26, w30, w31, w32, w33, w34, w35, w36, w38, w39, w40, w43, w44, w46, w47, w48, w49, w50, w51, w52, w53, w54, w55, w56, w57, w58, w59, w60, w61, w62, w63, w64, w65, w66, w67, w68, w69, w70, w71, w72, w73, w74, w75, w76, w77, w78, w79, w80, w81, w82, w83, w84, w85, w86, w87, hi_hit, hi_row, hi_col, hj_hit, hj_row, hj_col, hi_sj, hj_si, hq_si, hq_sj, hi_sq, hj_sq, hi_srh, hi_srm]
/-- the last three ints of the facts -/
def R11 (nf : Nat) (fa : Nat → Nat) : Nat → Nat → Prop := fun a k => (a = 27 ∧ 13 ≤ k) ∨ ∃ f, f < nf ∧ a = fa f ∧ 11 ≤ k
def N0 : Nat → Nat → Prop := fun _ _ => False
theorem R11_RN {nf : Nat} {fa : Nat → Nat} : ∀ a k, R11 nf fa a k → RN nf fa a k := fun a k q => by
  rcases q with q | ⟨f, hf, q1, q2⟩
  · exact Or.inl ⟨q.1, by omega⟩
  · exact Or.inr ⟨f, hf, q1, by omega⟩
theorem LSQ.r11 {g' : Hp} (Q : LSQ g nf fa L) (fr : FrP N0 (R11 nf fa) g g') (C : CFx g F nf fa) : LSQ g' nf fa L :=
  Q.frp (fr.mono (fun _ _ q => q) (fun a k q => by
    rcases q with q | ⟨f, hf, q1, q2⟩
    · exact Or.inl q
    · exact Or.inr ⟨f, hf, q1, by omega⟩)) C
theorem c_noteC (X : FX g) (C : CFx g F nf fa) (hnf : nf ≤ 250) (Q : LSQ g nf fa L) (inj : ∀ i j, i < L.2 → j < L.2 → L.1 i = L.1 j → i = j) {n0' lo : Nat} (hlo : lo ≤ n0') (hn0 : n0' ≤ L.2) (D : Int32) (h14 : hi g 27 14 = wI n0') (h13 : hi g 27 13 = nI lo) {cl : Nat → Int32} (hcl : ∀ j, j < L.2 → hi g (fa (L.1 j)) 11 = cl j) :
    ∃ g', f_X4_noteClaim 27 D g = some g' ∧ FrP N0 (R11 nf fa) g g' ∧ (∀ j, j < L.2 → hi g' (fa (L.1 j)) 11 = clU cl D lo n0' j) ∧ ∀ a k, k ≠ 11 → hi g' a k = hi g a k := by
  have hc := Q.2.1
  have key : ∃ g', f_X4_noteClaim_L5 fu 27 D (nI lo) g = some g' ∧ (FrP N0 (R11 nf fa) g g' ∧ (∀ j, j < L.2 → hi g' (fa (L.1 j)) 11 = clU cl D lo n0' j) ∧ ∀ a k, k ≠ 11 → hi g' a k = hi g a k) := by
    refine forN (fun n i g => f_X4_noteClaim_L5 n 27 D i g) n0' (by omega) (fun i g' => lo ≤ i ∧ FrP N0 (R11 nf fa) g g' ∧ (∀ j, j < L.2 → hi g' (fa (L.1 j)) 11 = clU cl D lo i j) ∧ ∀ a k, k ≠ 11 → hi g' a k = hi g a k) (fun g' => FrP N0 (R11 nf fa) g g' ∧ (∀ j, j < L.2 → hi g' (fa (L.1 j)) 11 = clU cl D lo n0' j) ∧ ∀ a k, k ≠ 11 → hi g' a k = hi g a k) ?_ ?_ (i0 := lo) hlo ⟨Nat.le_refl _, FrP.rfl, fun j hj => ?_, fun _ _ _ => rfl⟩
    · rintro n g1 ⟨I0, I1, I2, I3⟩
      have X1 := I1.fx X (fun _ _ q => q)
      refine ⟨g1, ?_, I1, I2, I3⟩
      have e14 : hi g1 27 14 = wI n0' := by rw [I3 27 14 (by decide)]; exact h14
      have lt : wI n0' < nI n0' := by
        unfold wI
        rw [Int32.lt_iff_toInt_lt, show (1 : Int32) = nI 1 from rfl, pk_sub_toInt (by omega) (by omega), nI_toInt (by omega)]
        omega
      simp only [f_X4_noteClaim_L5.eq_2]
      simp (disch := (first | assumption | (simp only [FX_si, FX_sj, FX_sr, WX_si, WX_sj, WX_sr, FK_si, FK_sj, FK_sr]; assumption) | omega | decide)) only [e14, lt, ↓reduceIte, if_true, if_false, i10, i01, eq_self, wq7, wq8, wq9, wq10, wrc, wgi, wpi, wpz, wn1, wn2, wn3, wn4, wr1, wr2, wr3, wr4, ww1, ww2, ww3, ww4, fgi, fgq, fpi, frc, at18, at19, at21, at22, at23, at24, at25, at26, at_neg, wat1, wat2, wat3, wat4, reduceCtorEq, bd_some, b1_some, b2_some, b3_some, b4_some, c1_eq, elim_inl, elim_inr, zok0, zok1, getQ_si, getQ_sj, getQ_sr, q8_0, q8_1, q8_2, q8_4, q8_7, q8_8, q8_9, q8_10, q8_11, q9_0, q9_3, q9_4, q9_8, q17_0, q17_1, q17_2, q17_4, q17_5, q17_6, q17_9, q17_10, q17_11, q27_4, q27_5, q27_6, q27_7, q27_8, q27_11, q45_0, q45_1, q45_11, q45_12, q45_13, q45_14, q45_15, q45_16, q45_17, q45_18, q45_19, q45_20, q45_21, q45_22, q45_23, q45_24, q45_30, q45_31, q45_32, q45_33, q45_34, q45_35, q45_36, q45_37, q45_38, q45_39, q45_43, q45_44, q45_45, q45_46, q45_47, q45_48, q45_52, q45_53, q45_54, q45_59, q45_60, q45_61, q45_62, q45_65, q45_67, q45_68, gi8, gj8, pi8, pz8, pj8, rc8, gi9, gj9, pi9, pz9, pj9, rc9, gi17, gj17, pi17, pz17, pj17, rc17, gi27, gj27, pi27, pz27, pj27, rc27, gi45, gj45, pi45, pz45, pj45, rc45, aln_si, aln_sj, aln_sq, rc_si, rc_sj, rc_sq, n0, n1, n10, n11, n12, n13, n14, n15, n16, n18, n19, n20, n21, n22, n23, n24, n25, n26, n29, n30, n31, n32, n33, n34, n35, n36, n37, n38, n39, n40, n42, n43, n44, n46, n47, n48, n49, n50, n51, n52, n53, n54, n55, n56, n57, n58, n59, n60, n61, n62, n63, n64, n65, n66, n67, n68, n69, n70, n71, n72, n73, n74, n75, n76, n77, n78, n79, n80, n81, n82, n83, n84, n85, n86, n87, r0, r1, r10, r11, r12, r13, r14, r15, r16, r18, r19, r20, r21, r22, r23, r24, r25, r26, r29, r30, r31, r32, r33, r34, r35, r36, r37, r38, r39, r40, r42, r43, r44, r46, r47, r48, r49, r50, r51, r52, r53, r54, r55, r56, r57, r58, r59, r60, r61, r62, r63, r64, r65, r66, r67, r68, r69, r70, r71, r72, r73, r74, r75, r76, r77, r78, r79, r80, r81, r82, r83, r84, r85, r86, r87, w10, w11, w12, w13, w18, w19, w20, w21, w22, w23, w24, w25, w26, w30, w31, w32, w33, w34, w35, w36, w38, w39, w40, w43, w44, w46, w47, w48, w49, w50, w51, w52, w53, w54, w55, w56, w57, w58, w59, w60, w61, w62, w63, w64, w65, w66, w67, w68, w69, w70, w71, w72, w73, w74, w75, w76, w77, w78, w79, w80, w81, w82, w83, w84, w85, w86, w87, hi_hit, hi_row, hi_col, hj_hit, hj_row, hj_col, hi_sj, hj_si, hq_si, hq_sj, hi_sq, hj_sq, hi_srh, hi_srm]
    · rintro n i g1 hi' ⟨I0, I1, I2, I3⟩
      right
      have X1 := I1.fx X (fun _ _ q => q)
      have hiL : i < L.2 := by omega
      have Q1 := Q.r11 I1 C
      have C1 := C.frp (I1.mono (fun _ _ q => q.elim) (fun a k q => RN_RS a k (R11_RN a k q)))
      have e14 : hi g1 27 14 = wI n0' := by rw [I3 27 14 (by decide)]; exact h14
      have nl : ¬ wI n0' < nI i := by
        unfold wI
        rw [Int32.lt_iff_toInt_lt, show (1 : Int32) = nI 1 from rfl, pk_sub_toInt (by omega) (by omega), nI_toInt (by omega)]
        omega
      have el := c_listed X1 Q1 hiL
      obtain ⟨hri, -⟩ := Q.2.2 i hiL
      have K1 : FK g1 (fa (L.1 i)) := (C1 _ hri).2.1
      have e11 : hi g1 (fa (L.1 i)) 11 = cl i := by
        rw [I2 i hiL, clU_out (by omega)]
      have step : ∀ v, v = (if cl i = -1 ∨ D < cl i then D else cl i) → ∀ j, j < L.2 → hi (si g1 (fa (L.1 i)) 11 v) (fa (L.1 j)) 11 = clU cl D lo (i + 1) j := by
        intro v hv j hj
        by_cases e : j = i
        · subst e
          rw [hi_hit, hv, clU_in ⟨I0, by omega⟩]
        · have hne : fa (L.1 j) ≠ fa (L.1 i) := fun q => e (inj j i hj hiL (C1.inj hnf (Q.2.2 j hj).1 hri q))
          rw [hi_row _ _ _ hne, I2 j hj]
          by_cases z : lo ≤ j ∧ j < i
          · rw [clU_in z, clU_in ⟨z.1, by omega⟩]
          · rw [clU_out z, clU_out (by omega)]
      have fr3 : FrP N0 (R11 nf fa) g1 (si g1 (fa (L.1 i)) 11 D) := FrP.si (Or.inr ⟨L.1 i, hri, rfl, by decide⟩)
      have keep : ∀ a k, k ≠ 11 → hi (si g1 (fa (L.1 i)) 11 D) a k = hi g a k := fun a k hk' => by rw [hi_col _ _ hk']; exact I3 a k hk'
      by_cases c1 : cl i = -1
      · refine ⟨si g1 (fa (L.1 i)) 11 D, ?_, by omega, I1.trans fr3, step D (by rw [if_pos (Or.inl c1)]), keep⟩
        rw [c1] at e11
        simp only [f_X4_noteClaim_L5.eq_2]
        simp (disch := (first | assumption | (simp only [FX_si, FX_sj, FX_sr, WX_si, WX_sj, WX_sr, FK_si, FK_sj, FK_sr]; assumption) | omega | decide)) only [e14, nl, el, e11, nI_1, ↓reduceIte, if_true, if_false, i10, i01, eq_self, wq7, wq8, wq9, wq10, wrc, wgi, wpi, wpz, wn1, wn2, wn3, wn4, wr1, wr2, wr3, wr4, ww1, ww2, ww3, ww4, fgi, fgq, fpi, frc, at18, at19, at21, at22, at23, at24, at25, at26, at_neg, wat1, wat2, wat3, wat4, reduceCtorEq, bd_some, b1_some, b2_some, b3_some, b4_some, c1_eq, elim_inl, elim_inr, zok0, zok1, getQ_si, getQ_sj, getQ_sr, q8_0, q8_1, q8_2, q8_4, q8_7, q8_8, q8_9, q8_10, q8_11, q9_0, q9_3, q9_4, q9_8, q17_0, q17_1, q17_2, q17_4, q17_5, q17_6, q17_9, q17_10, q17_11, q27_4, q27_5, q27_6, q27_7, q27_8, q27_11, q45_0, q45_1, q45_11, q45_12, q45_13, q45_14, q45_15, q45_16, q45_17, q45_18, q45_19, q45_20, q45_21, q45_22, q45_23, q45_24, q45_30, q45_31, q45_32, q45_33, q45_34, q45_35, q45_36, q45_37, q45_38, q45_39, q45_43, q45_44, q45_45, q45_46, q45_47, q45_48, q45_52, q45_53, q45_54, q45_59, q45_60, q45_61, q45_62, q45_65, q45_67, q45_68, gi8, gj8, pi8, pz8, pj8, rc8, gi9, gj9, pi9, pz9, pj9, rc9, gi17, gj17, pi17, pz17, pj17, rc17, gi27, gj27, pi27, pz27, pj27, rc27, gi45, gj45, pi45, pz45, pj45, rc45, aln_si, aln_sj, aln_sq, rc_si, rc_sj, rc_sq, n0, n1, n10, n11, n12, n13, n14, n15, n16, n18, n19, n20, n21, n22, n23, n24, n25, n26, n29, n30, n31, n32, n33, n34, n35, n36, n37, n38, n39, n40, n42, n43, n44, n46, n47, n48, n49, n50, n51, n52, n53, n54, n55, n56, n57, n58, n59, n60, n61, n62, n63, n64, n65, n66, n67, n68, n69, n70, n71, n72, n73, n74, n75, n76, n77, n78, n79, n80, n81, n82, n83, n84, n85, n86, n87, r0, r1, r10, r11, r12, r13, r14, r15, r16, r18, r19, r20, r21, r22, r23, r24, r25, r26, r29, r30, r31, r32, r33, r34, r35, r36, r37, r38, r39, r40, r42, r43, r44, r46, r47, r48, r49, r50, r51, r52, r53, r54, r55, r56, r57, r58, r59, r60, r61, r62, r63, r64, r65, r66, r67, r68, r69, r70, r71, r72, r73, r74, r75, r76, r77, r78, r79, r80, r81, r82, r83, r84, r85, r86, r87, w10, w11, w12, w13, w18, w19, w20, w21, w22, w23, w24, w25, w26, w30, w31, w32, w33, w34, w35, w36, w38, w39, w40, w43, w44, w46, w47, w48, w49, w50, w51, w52, w53, w54, w55, w56, w57, w58, w59, w60, w61, w62, w63, w64, w65, w66, w67, w68, w69, w70, w71, w72, w73, w74, w75, w76, w77, w78, w79, w80, w81, w82, w83, w84, w85, w86, w87, hi_hit, hi_row, hi_col, hj_hit, hj_row, hj_col, hi_sj, hj_si, hq_si, hq_sj, hi_sq, hj_sq, hi_srh, hi_srm]
      · by_cases c2 : D < cl i
        · have c2' : ¬ cl i ≤ D := Int32.not_le.mpr c2
          refine ⟨si g1 (fa (L.1 i)) 11 D, ?_, by omega, I1.trans fr3, step D (by rw [if_pos (Or.inr c2)]), keep⟩
          simp only [f_X4_noteClaim_L5.eq_2]
          simp (disch := (first | assumption | (simp only [FX_si, FX_sj, FX_sr, WX_si, WX_sj, WX_sr, FK_si, FK_sj, FK_sr]; assumption) | omega | decide)) only [e14, nl, el, e11, c1, c2', nI_1, ↓reduceIte, if_true, if_false, i10, i01, eq_self, wq7, wq8, wq9, wq10, wrc, wgi, wpi, wpz, wn1, wn2, wn3, wn4, wr1, wr2, wr3, wr4, ww1, ww2, ww3, ww4, fgi, fgq, fpi, frc, at18, at19, at21, at22, at23, at24, at25, at26, at_neg, wat1, wat2, wat3, wat4, reduceCtorEq, bd_some, b1_some, b2_some, b3_some, b4_some, c1_eq, elim_inl, elim_inr, zok0, zok1, getQ_si, getQ_sj, getQ_sr, q8_0, q8_1, q8_2, q8_4, q8_7, q8_8, q8_9, q8_10, q8_11, q9_0, q9_3, q9_4, q9_8, q17_0, q17_1, q17_2, q17_4, q17_5, q17_6, q17_9, q17_10, q17_11, q27_4, q27_5, q27_6, q27_7, q27_8, q27_11, q45_0, q45_1, q45_11, q45_12, q45_13, q45_14, q45_15, q45_16, q45_17, q45_18, q45_19, q45_20, q45_21, q45_22, q45_23, q45_24, q45_30, q45_31, q45_32, q45_33, q45_34, q45_35, q45_36, q45_37, q45_38, q45_39, q45_43, q45_44, q45_45, q45_46, q45_47, q45_48, q45_52, q45_53, q45_54, q45_59, q45_60, q45_61, q45_62, q45_65, q45_67, q45_68, gi8, gj8, pi8, pz8, pj8, rc8, gi9, gj9, pi9, pz9, pj9, rc9, gi17, gj17, pi17, pz17, pj17, rc17, gi27, gj27, pi27, pz27, pj27, rc27, gi45, gj45, pi45, pz45, pj45, rc45, aln_si, aln_sj, aln_sq, rc_si, rc_sj, rc_sq, n0, n1, n10, n11, n12, n13, n14, n15, n16, n18, n19, n20, n21, n22, n23, n24, n25, n26, n29, n30, n31, n32, n33, n34, n35, n36, n37, n38, n39, n40, n42, n43, n44, n46, n47, n48, n49, n50, n51, n52, n53, n54, n55, n56, n57, n58, n59, n60, n61, n62, n63, n64, n65, n66, n67, n68, n69, n70, n71, n72, n73, n74, n75, n76, n77, n78, n79, n80, n81, n82, n83, n84, n85, n86, n87, r0, r1, r10, r11, r12, r13, r14, r15, r16, r18, r19, r20, r21, r22, r23, r24, r25, r26, r29, r30, r31, r32, r33, r34, r35, r36, r37, r38, r39, r40, r42, r43, r44, r46, r47, r48, r49, r50, r51, r52, r53, r54, r55, r56, r57, r58, r59, r60, r61, r62, r63, r64, r65, r66, r67, r68, r69, r70, r71, r72, r73, r74, r75, r76, r77, r78, r79, r80, r81, r82, r83, r84, r85, r86, r87, w10, w11, w12, w13, w18, w19, w20, w21, w22, w23, w24, w25, w26, w30, w31, w32, w33, w34, w35, w36, w38, w39, w40, w43, w44, w46, w47, w48, w49, w50, w51, w52, w53, w54, w55, w56, w57, w58, w59, w60, w61, w62, w63, w64, w65, w66, w67, w68, w69, w70, w71, w72, w73, w74, w75, w76, w77, w78, w79, w80, w81, w82, w83, w84, w85, w86, w87, hi_hit, hi_row, hi_col, hj_hit, hj_row, hj_col, hi_sj, hj_si, hq_si, hq_sj, hi_sq, hj_sq, hi_srh, hi_srm]
        · have c2' : cl i ≤ D := Int32.not_lt.mp c2
          refine ⟨g1, ?_, by omega, I1, fun j hj => ?_, I3⟩
          · simp only [f_X4_noteClaim_L5.eq_2]
            simp (disch := (first | assumption | (simp only [FX_si, FX_sj, FX_sr, WX_si, WX_sj, WX_sr, FK_si, FK_sj, FK_sr]; assumption) | omega | decide)) only [e14, nl, el, e11, c1, c2', nI_1, ↓reduceIte, if_true, if_false, i10, i01, eq_self, wq7, wq8, wq9, wq10, wrc, wgi, wpi, wpz, wn1, wn2, wn3, wn4, wr1, wr2, wr3, wr4, ww1, ww2, ww3, ww4, fgi, fgq, fpi, frc, at18, at19, at21, at22, at23, at24, at25, at26, at_neg, wat1, wat2, wat3, wat4, reduceCtorEq, bd_some, b1_some, b2_some, b3_some, b4_some, c1_eq, elim_inl, elim_inr, zok0, zok1, getQ_si, getQ_sj, getQ_sr, q8_0, q8_1, q8_2, q8_4, q8_7, q8_8, q8_9, q8_10, q8_11, q9_0, q9_3, q9_4, q9_8, q17_0, q17_1, q17_2, q17_4, q17_5, q17_6, q17_9, q17_10, q17_11, q27_4, q27_5, q27_6, q27_7, q27_8, q27_11, q45_0, q45_1, q45_11, q45_12, q45_13, q45_14, q45_15, q45_16, q45_17, q45_18, q45_19, q45_20, q45_21, q45_22, q45_23, q45_24, q45_30, q45_31, q45_32, q45_33, q45_34, q45_35, q45_36, q45_37, q45_38, q45_39, q45_43, q45_44, q45_45, q45_46, q45_47, q45_48, q45_52, q45_53, q45_54, q45_59, q45_60, q45_61, q45_62, q45_65, q45_67, q45_68, gi8, gj8, pi8, pz8, pj8, rc8, gi9, gj9, pi9, pz9, pj9, rc9, gi17, gj17, pi17, pz17, pj17, rc17, gi27, gj27, pi27, pz27, pj27, rc27, gi45, gj45, pi45, pz45, pj45, rc45, aln_si, aln_sj, aln_sq, rc_si, rc_sj, rc_sq, n0, n1, n10, n11, n12, n13, n14, n15, n16, n18, n19, n20, n21, n22, n23, n24, n25, n26, n29, n30, n31, n32, n33, n34, n35, n36, n37, n38, n39, n40, n42, n43, n44, n46, n47, n48, n49, n50, n51, n52, n53, n54, n55, n56, n57, n58, n59, n60, n61, n62, n63, n64, n65, n66, n67, n68, n69, n70, n71, n72, n73, n74, n75, n76, n77, n78, n79, n80, n81, n82, n83, n84, n85, n86, n87, r0, r1, r10, r11, r12, r13, r14, r15, r16, r18, r19, r20, r21, r22, r23, r24, r25, r26, r29, r30, r31, r32, r33, r34, r35, r36, r37, r38, r39, r40, r42, r43, r44, r46, r47, r48, r49, r50, r51, r52, r53, r54, r55, r56, r57, r58, r59, r60, r61, r62, r63, r64, r65, r66, r67, r68, r69, r70, r71, r72, r73, r74, r75, r76, r77, r78, r79, r80, r81, r82, r83, r84, r85, r86, r87, w10, w11, w12, w13, w18, w19, w20, w21, w22, w23, w24, w25, w26, w30, w31, w32, w33, w34, w35, w36, w38, w39, w40, w43, w44, w46, w47, w48, w49, w50, w51, w52, w53, w54, w55, w56, w57, w58, w59, w60, w61, w62, w63, w64, w65, w66, w67, w68, w69, w70, w71, w72, w73, w74, w75, w76, w77, w78, w79, w80, w81, w82, w83, w84, w85, w86, w87, hi_hit, hi_row, hi_col, hj_hit, hj_row, hj_col, hi_sj, hj_si, hq_si, hq_sj, hi_sq, hj_sq, hi_srh, hi_srm]
          · rw [I2 j hj]
            by_cases e : j = i
            · subst e
              rw [clU_out (by omega), clU_in ⟨I0, by omega⟩, if_neg (fun q => q.elim c1 c2)]
            · by_cases z : lo ≤ j ∧ j < i
              · rw [clU_in z, clU_in ⟨z.1, by omega⟩]
              · rw [clU_out z, clU_out (by omega)]
    · rw [hcl j hj, clU_out (by omega)]
  obtain ⟨g', b1', b2'⟩ := key
  refine ⟨g', ?_, b2'⟩
  unfold f_X4_noteClaim
  simp (disch := (first | assumption | (simp only [FX_si, FX_sj, FX_sr, WX_si, WX_sj, WX_sr, FK_si, FK_sj, FK_sr]; assumption) | omega | decide)) only [h13, b1', ↓reduceIte, if_true, if_false, i10, i01, eq_self, wq7, wq8, wq9, wq10, wrc, wgi, wpi, wpz, wn1, wn2, wn3, wn4, wr1, wr2, wr3, wr4, ww1, ww2, ww3, ww4, fgi, fgq, fpi, frc, at18, at19, at21, at22, at23, at24, at25, at26, at_neg, wat1, wat2, wat3, wat4, reduceCtorEq, bd_some, b1_some, b2_some, b3_some, b4_some, c1_eq, elim_inl, elim_inr, zok0, zok1, getQ_si, getQ_sj, getQ_sr, q8_0, q8_1, q8_2, q8_4, q8_7, q8_8, q8_9, q8_10, q8_11, q9_0, q9_3, q9_4, q9_8, q17_0, q17_1, q17_2, q17_4, q17_5, q17_6, q17_9, q17_10, q17_11, q27_4, q27_5, q27_6, q27_7, q27_8, q27_11, q45_0, q45_1, q45_11, q45_12, q45_13, q45_14, q45_15, q45_16, q45_17, q45_18, q45_19, q45_20, q45_21, q45_22, q45_23, q45_24, q45_30, q45_31, q45_32, q45_33, q45_34, q45_35, q45_36, q45_37, q45_38, q45_39, q45_43, q45_44, q45_45, q45_46, q45_47, q45_48, q45_52, q45_53, q45_54, q45_59, q45_60, q45_61, q45_62, q45_65, q45_67, q45_68, gi8, gj8, pi8, pz8, pj8, rc8, gi9, gj9, pi9, pz9, pj9, rc9, gi17, gj17, pi17, pz17, pj17, rc17, gi27, gj27, pi27, pz27, pj27, rc27, gi45, gj45, pi45, pz45, pj45, rc45, aln_si, aln_sj, aln_sq, rc_si, rc_sj, rc_sq, n0, n1, n10, n11, n12, n13, n14, n15, n16, n18, n19, n20, n21, n22, n23, n24, n25, n26, n29, n30, n31, n32, n33, n34, n35, n36, n37, n38, n39, n40, n42, n43, n44, n46, n47, n48, n49, n50, n51, n52, n53, n54, n55, n56, n57, n58, n59, n60, n61, n62, n63, n64, n65, n66, n67, n68, n69, n70, n71, n72, n73, n74, n75, n76, n77, n78, n79, n80, n81, n82, n83, n84, n85, n86, n87, r0, r1, r10, r11, r12, r13, r14, r15, r16, r18, r19, r20, r21, r22, r23, r24, r25, r26, r29, r30, r31, r32, r33, r34, r35, r36, r37, r38, r39, r40, r42, r43, r44, r46, r47, r48, r49, r50, r51, r52, r53, r54, r55, r56, r57, r58, r59, r60, r61, r62, r63, r64, r65, r66, r67, r68, r69, r70, r71, r72, r73, r74, r75, r76, r77, r78, r79, r80, r81, r82, r83, r84, r85, r86, r87, w10, w11, w12, w13, w18, w19, w20, w21, w22, w23, w24, w25, w26, w30, w31, w32, w33, w34, w35, w36, w38, w39, w40, w43, w44, w46, w47, w48, w49, w50, w51, w52, w53, w54, w55, w56, w57, w58, w59, w60, w61, w62, w63, w64, w65, w66, w67, w68, w69, w70, w71, w72, w73, w74, w75, w76, w77, w78, w79, w80, w81, w82, w83, w84, w85, w86, w87, hi_hit, hi_row, hi_col, hj_hit, hj_row, hj_col, hi_sj, hj_si, hq_si, hq_sj, hi_sq, hj_sq, hi_srh, hi_srm]
/-- the claims joined, in the class's cells -/
theorem c_join5 (hP : ∀ x, P x → OKA x) (S : SHT P g b A pd pl tm) (C : CFx g F nf fa) (R : RG F nw nf) (hnf : nf ≤ 250) (Q : LSQ g nf fa L) (inj : ∀ i j, i < L.2 → j < L.2 → L.1 i = L.1 j → i = j) (z : ∀ j, j < L.2 → hi g (fa (L.1 j)) 11 = -1) :
    ∃ g', f_X4_joinClaims_L5 fu 27 k ((nx F (nI w) nf 0).map fa) g = some g' ∧ (FrP N0 (R11 nf fa) g g' ∧ (∀ a j, j ≠ 11 → j ≠ 13 → j ≠ 14 → hi g' a j = hi g a j) ∧ ∀ j, j < L.2 → hi g' (fa (L.1 j)) 11 = clN F A L (nI w) k nf j) := by
  have X := S.1
  refine lstF (fun n q g => f_X4_joinClaims_L5 n 27 k q g) (fun i g' => FrP N0 (R11 nf fa) g g' ∧ (∀ a j, j ≠ 11 → j ≠ 13 → j ≠ 14 → hi g' a j = hi g a j) ∧ ∀ j, j < L.2 → hi g' (fa (L.1 j)) 11 = clN F A L (nI w) k i j) (fun g' => FrP N0 (R11 nf fa) g g' ∧ (∀ a j, j ≠ 11 → j ≠ 13 → j ≠ 14 → hi g' a j = hi g a j) ∧ ∀ j, j < L.2 → hi g' (fa (L.1 j)) 11 = clN F A L (nI w) k nf j) (by omega) ?_ ?_ ?_ ⟨FrP.rfl, fun _ _ _ _ _ => rfl, z⟩
  · rintro n g1 I
    exact ⟨g1, by simp only [f_X4_joinClaims_L5.eq_2, ↓reduceIte], I⟩
  · rintro i g1 hi' he ⟨I1, I2, I3⟩
    refine ⟨I1, I2, ?_⟩
    rw [clN.eq_2, if_neg (fun q => he (cnts_iff.mp q).2.1)]
    exact I3
  · rintro n i g1 hi' he ⟨I1, I2, I3⟩
    right
    have X1 := I1.fx X (fun _ _ q => q)
    have toRN : ∀ {g2 : Hp}, FrP N0 (R11 nf fa) g g2 → FrP H37 (RN nf fa) g g2 := fun a => a.mono (fun _ _ q => q.elim) R11_RN
    have S1 := S.frp hP C (toRN I1)
    have C1 := C.frp ((toRN I1).mono (fun _ _ q => q) RN_RS)
    have Q1 := Q.r11 I1 C
    obtain ⟨c0, c1, c2, c3, c4, c5, c6, c7, c8, c9, c10⟩ := C1 i hi'
    have K : FK g1 (fa i) := c1
    have cc := c_counts (F := F) (f := i) c1 c7 c9 (R.1 i hi').2.2.2.2.2.2.2.2 k
    rw [he] at c10
    by_cases s5 : F 0 i = 5
    · have ec := ctk_cnts (k := k) s5 he
      rw [← ec] at cc
      have c3' : hi g1 (fa i) 1 = 5 := by rw [c3, s5]
      by_cases c : cnts F 5 (nI w) k i = true
      · rw [if_pos c] at cc
        obtain ⟨g2, a1, a2, a3, a4⟩ := c_find S1 hP C1 Q1 (F 2 i)
        have fr2 : FrP N0 (R11 nf fa) g1 g2 := FrP.ofFr a2 (by simp) (fun p hp => Or.inl (by simp at hp; rcases hp with q | q <;> rw [q] <;> exact ⟨rfl, by decide⟩))
        have X2 := fr2.fx X1 (fun _ _ q => q)
        have C2 := C1.frp (fr2.mono (fun _ _ q => q.elim) (fun a k q => RN_RS a k (R11_RN a k q)))
        have K2 : FK g2 (fa i) := (C2 i hi').2.1
        have k4 : hi g2 (fa i) 2 = F 2 i := (C2 i hi').2.2.2.2.1
        obtain ⟨le1, le2⟩ := CNN_le F A L (F 2 i)
        have e11 : ∀ j, j < L.2 → hi g2 (fa (L.1 j)) 11 = clN F A L (nI w) k i j := fun j hj => by
          have h88 := (C1 _ (Q.2.2 j hj).1).1
          rw [a2.2.2.1 _ 11 (by simp) (by simp)]
          exact I3 j hj
        obtain ⟨g3, b1', b2', b3', b4'⟩ := c_noteC X2 C2 hnf (Q1.r11 fr2 C1) inj (show CN0 F L (F 2 i) - CNN F A L (F 2 i) ≤ CN0 F L (F 2 i) by omega) le2 (F 2 i) a3 a4 e11
        have fr3 := (I1.trans fr2).trans b2'
        have C3 := C.frp ((toRN fr3).mono (fun _ _ q => q) RN_RS)
        have K3 : FK g3 (fa i) := (C3 i hi').2.1
        have c10' : hq g3 (fa i) 8 = (nx F (nI w) nf (i + 1)).map fa := by have := (C3 i hi').2.2.2.2.2.2.2.2.2.2; rw [he] at this; exact this
        refine ⟨g3, ?_, fr3, fun a j h1 h2 h3 => ?_, fun j hj => ?_⟩
        · simp only [f_X4_joinClaims_L5.eq_2]
          simp (disch := (first | assumption | (simp only [FX_si, FX_sj, FX_sr, WX_si, WX_sj, WX_sr, FK_si, FK_sj, FK_sr]; assumption) | omega | decide)) only [c3', cc, c4, a1, k4, b1', c10', ↓reduceIte, if_true, if_false, i10, i01, eq_self, wq7, wq8, wq9, wq10, wrc, wgi, wpi, wpz, wn1, wn2, wn3, wn4, wr1, wr2, wr3, wr4, ww1, ww2, ww3, ww4, fgi, fgq, fpi, frc, at18, at19, at21, at22, at23, at24, at25, at26, at_neg, wat1, wat2, wat3, wat4, reduceCtorEq, bd_some, b1_some, b2_some, b3_some, b4_some, c1_eq, elim_inl, elim_inr, zok0, zok1, getQ_si, getQ_sj, getQ_sr, q8_0, q8_1, q8_2, q8_4, q8_7, q8_8, q8_9, q8_10, q8_11, q9_0, q9_3, q9_4, q9_8, q17_0, q17_1, q17_2, q17_4, q17_5, q17_6, q17_9, q17_10, q17_11, q27_4, q27_5, q27_6, q27_7, q27_8, q27_11, q45_0, q45_1, q45_11, q45_12, q45_13, q45_14, q45_15, q45_16, q45_17, q45_18, q45_19, q45_20, q45_21, q45_22, q45_23, q45_24, q45_30, q45_31, q45_32, q45_33, q45_34, q45_35, q45_36, q45_37, q45_38, q45_39, q45_43, q45_44, q45_45, q45_46, q45_47, q45_48, q45_52, q45_53, q45_54, q45_59, q45_60, q45_61, q45_62, q45_65, q45_67, q45_68, gi8, gj8, pi8, pz8, pj8, rc8, gi9, gj9, pi9, pz9, pj9, rc9, gi17, gj17, pi17, pz17, pj17, rc17, gi27, gj27, pi27, pz27, pj27, rc27, gi45, gj45, pi45, pz45, pj45, rc45, aln_si, aln_sj, aln_sq, rc_si, rc_sj, rc_sq, n0, n1, n10, n11, n12, n13, n14, n15, n16, n18, n19, n20, n21, n22, n23, n24, n25, n26, n29, n30, n31, n32, n33, n34, n35, n36, n37, n38, n39, n40, n42, n43, n44, n46, n47, n48, n49, n50, n51, n52, n53, n54, n55, n56, n57, n58, n59, n60, n61, n62, n63, n64, n65, n66, n67, n68, n69, n70, n71, n72, n73, n74, n75, n76, n77, n78, n79, n80, n81, n82, n83, n84, n85, n86, n87, r0, r1, r10, r11, r12, r13, r14, r15, r16, r18, r19, r20, r21, r22, r23, r24, r25, r26, r29, r30, r31, r32, r33, r34, r35, r36, r37, r38, r39, r40, r42, r43, r44, r46, r47, r48, r49, r50, r51, r52, r53, r54, r55, r56, r57, r58, r59, r60, r61, r62, r63, r64, r65, r66, r67, r68, r69, r70, r71, r72, r73, r74, r75, r76, r77, r78, r79, r80, r81, r82, r83, r84, r85, r86, r87, w10, w11, w12, w13, w18, w19, w20, w21, w22, w23, w24, w25, w26, w30, w31, w32, w33, w34, w35, w36, w38, w39, w40, w43, w44, w46, w47, w48, w49, w50, w51, w52, w53, w54, w55, w56, w57, w58, w59, w60, w61, w62, w63, w64, w65, w66, w67, w68, w69, w70, w71, w72, w73, w74, w75, w76, w77, w78, w79, w80, w81, w82, w83, w84, w85, w86, w87, hi_hit, hi_row, hi_col, hj_hit, hj_row, hj_col, hi_sj, hj_si, hq_si, hq_sj, hi_sq, hj_sq, hi_srh, hi_srm]
        · rw [b4' a j h1, a2.2.2.1 a j (by simp) (by simp; omega)]
          exact I2 a j h1 h2 h3
        · rw [b3' j hj, clN.eq_2, if_pos c]
      · rw [if_neg c] at cc
        refine ⟨g1, ?_, I1, I2, ?_⟩
        · simp only [f_X4_joinClaims_L5.eq_2]
          simp (disch := (first | assumption | (simp only [FX_si, FX_sj, FX_sr, WX_si, WX_sj, WX_sr, FK_si, FK_sj, FK_sr]; assumption) | omega | decide)) only [c3', cc, c10, ↓reduceIte, if_true, if_false, i10, i01, eq_self, wq7, wq8, wq9, wq10, wrc, wgi, wpi, wpz, wn1, wn2, wn3, wn4, wr1, wr2, wr3, wr4, ww1, ww2, ww3, ww4, fgi, fgq, fpi, frc, at18, at19, at21, at22, at23, at24, at25, at26, at_neg, wat1, wat2, wat3, wat4, reduceCtorEq, bd_some, b1_some, b2_some, b3_some, b4_some, c1_eq, elim_inl, elim_inr, zok0, zok1, getQ_si, getQ_sj, getQ_sr, q8_0, q8_1, q8_2, q8_4, q8_7, q8_8, q8_9, q8_10, q8_11, q9_0, q9_3, q9_4, q9_8, q17_0, q17_1, q17_2, q17_4, q17_5, q17_6, q17_9, q17_10, q17_11, q27_4, q27_5, q27_6, q27_7, q27_8, q27_11, q45_0, q45_1, q45_11, q45_12, q45_13, q45_14, q45_15, q45_16, q45_17, q45_18, q45_19, q45_20, q45_21, q45_22, q45_23, q45_24, q45_30, q45_31, q45_32, q45_33, q45_34, q45_35, q45_36, q45_37, q45_38, q45_39, q45_43, q45_44, q45_45, q45_46, q45_47, q45_48, q45_52, q45_53, q45_54, q45_59, q45_60, q45_61, q45_62, q45_65, q45_67, q45_68, gi8, gj8, pi8, pz8, pj8, rc8, gi9, gj9, pi9, pz9, pj9, rc9, gi17, gj17, pi17, pz17, pj17, rc17, gi27, gj27, pi27, pz27, pj27, rc27, gi45, gj45, pi45, pz45, pj45, rc45, aln_si, aln_sj, aln_sq, rc_si, rc_sj, rc_sq, n0, n1, n10, n11, n12, n13, n14, n15, n16, n18, n19, n20, n21, n22, n23, n24, n25, n26, n29, n30, n31, n32, n33, n34, n35, n36, n37, n38, n39, n40, n42, n43, n44, n46, n47, n48, n49, n50, n51, n52, n53, n54, n55, n56, n57, n58, n59, n60, n61, n62, n63, n64, n65, n66, n67, n68, n69, n70, n71, n72, n73, n74, n75, n76, n77, n78, n79, n80, n81, n82, n83, n84, n85, n86, n87, r0, r1, r10, r11, r12, r13, r14, r15, r16, r18, r19, r20, r21, r22, r23, r24, r25, r26, r29, r30, r31, r32, r33, r34, r35, r36, r37, r38, r39, r40, r42, r43, r44, r46, r47, r48, r49, r50, r51, r52, r53, r54, r55, r56, r57, r58, r59, r60, r61, r62, r63, r64, r65, r66, r67, r68, r69, r70, r71, r72, r73, r74, r75, r76, r77, r78, r79, r80, r81, r82, r83, r84, r85, r86, r87, w10, w11, w12, w13, w18, w19, w20, w21, w22, w23, w24, w25, w26, w30, w31, w32, w33, w34, w35, w36, w38, w39, w40, w43, w44, w46, w47, w48, w49, w50, w51, w52, w53, w54, w55, w56, w57, w58, w59, w60, w61, w62, w63, w64, w65, w66, w67, w68, w69, w70, w71, w72, w73, w74, w75, w76, w77, w78, w79, w80, w81, w82, w83, w84, w85, w86, w87, hi_hit, hi_row, hi_col, hj_hit, hj_row, hj_col, hi_sj, hj_si, hq_si, hq_sj, hi_sq, hj_sq, hi_srh, hi_srm]
        · rw [clN.eq_2, if_neg c]
          exact I3
    · have s5' : ¬ hi g1 (fa i) 1 = 5 := by rw [c3]; exact s5
      refine ⟨g1, ?_, I1, I2, ?_⟩
      · simp only [f_X4_joinClaims_L5.eq_2]
        simp (disch := (first | assumption | (simp only [FX_si, FX_sj, FX_sr, WX_si, WX_sj, WX_sr, FK_si, FK_sj, FK_sr]; assumption) | omega | decide)) only [s5', c10, ↓reduceIte, if_true, if_false, i10, i01, eq_self, wq7, wq8, wq9, wq10, wrc, wgi, wpi, wpz, wn1, wn2, wn3, wn4, wr1, wr2, wr3, wr4, ww1, ww2, ww3, ww4, fgi, fgq, fpi, frc, at18, at19, at21, at22, at23, at24, at25, at26, at_neg, wat1, wat2, wat3, wat4, reduceCtorEq, bd_some, b1_some, b2_some, b3_some, b4_some, c1_eq, elim_inl, elim_inr, zok0, zok1, getQ_si, getQ_sj, getQ_sr, q8_0, q8_1, q8_2, q8_4, q8_7, q8_8, q8_9, q8_10, q8_11, q9_0, q9_3, q9_4, q9_8, q17_0, q17_1, q17_2, q17_4, q17_5, q17_6, q17_9, q17_10, q17_11, q27_4, q27_5, q27_6, q27_7, q27_8, q27_11, q45_0, q45_1, q45_11, q45_12, q45_13, q45_14, q45_15, q45_16, q45_17, q45_18, q45_19, q45_20, q45_21, q45_22, q45_23, q45_24, q45_30, q45_31, q45_32, q45_33, q45_34, q45_35, q45_36, q45_37, q45_38, q45_39, q45_43, q45_44, q45_45, q45_46, q45_47, q45_48, q45_52, q45_53, q45_54, q45_59, q45_60, q45_61, q45_62, q45_65, q45_67, q45_68, gi8, gj8, pi8, pz8, pj8, rc8, gi9, gj9, pi9, pz9, pj9, rc9, gi17, gj17, pi17, pz17, pj17, rc17, gi27, gj27, pi27, pz27, pj27, rc27, gi45, gj45, pi45, pz45, pj45, rc45, aln_si, aln_sj, aln_sq, rc_si, rc_sj, rc_sq, n0, n1, n10, n11, n12, n13, n14, n15, n16, n18, n19, n20, n21, n22, n23, n24, n25, n26, n29, n30, n31, n32, n33, n34, n35, n36, n37, n38, n39, n40, n42, n43, n44, n46, n47, n48, n49, n50, n51, n52, n53, n54, n55, n56, n57, n58, n59, n60, n61, n62, n63, n64, n65, n66, n67, n68, n69, n70, n71, n72, n73, n74, n75, n76, n77, n78, n79, n80, n81, n82, n83, n84, n85, n86, n87, r0, r1, r10, r11, r12, r13, r14, r15, r16, r18, r19, r20, r21, r22, r23, r24, r25, r26, r29, r30, r31, r32, r33, r34, r35, r36, r37, r38, r39, r40, r42, r43, r44, r46, r47, r48, r49, r50, r51, r52, r53, r54, r55, r56, r57, r58, r59, r60, r61, r62, r63, r64, r65, r66, r67, r68, r69, r70, r71, r72, r73, r74, r75, r76, r77, r78, r79, r80, r81, r82, r83, r84, r85, r86, r87, w10, w11, w12, w13, w18, w19, w20, w21, w22, w23, w24, w25, w26, w30, w31, w32, w33, w34, w35, w36, w38, w39, w40, w43, w44, w46, w47, w48, w49, w50, w51, w52, w53, w54, w55, w56, w57, w58, w59, w60, w61, w62, w63, w64, w65, w66, w67, w68, w69, w70, w71, w72, w73, w74, w75, w76, w77, w78, w79, w80, w81, w82, w83, w84, w85, w86, w87, hi_hit, hi_row, hi_col, hj_hit, hj_row, hj_col, hi_sj, hj_si, hq_si, hq_sj, hi_sq, hj_sq, hi_srh, hi_srm]
      · rw [clN.eq_2, if_neg (fun q => s5 (cnts_iff.mp q).1)]
        exact I3
theorem c_join61 (hP : ∀ x, P x → OKA x) (S : SHT P g b A pd pl tm) (C : CFx g F nf fa) (Q : LSQ g nf fa L) {mk : Nat → Nat} {cl : Nat → Int32} (h9 : ∀ j, j < L.2 → hi g (fa (L.1 j)) 9 = ow (L.1 j)) (h10 : ∀ j, j < L.2 → hi g (fa (L.1 j)) 10 = nI (mk (L.1 j))) (h11 : ∀ j, j < L.2 → hi g (fa (L.1 j)) 11 = cl j) (z1 : hj g 27 15 = 0) (z2 : hi g 27 16 = 0) :
    ∃ g', f_X4_joinClaims_L61 fu 27 0 g = some g' ∧ (FrP N0 (fun a k => a = 27 ∧ 15 ≤ k) g g' ∧ hj g' 27 15 = PAYV F A L ow cl ∧ hi g' 27 16 = nI (PMKV L mk cl)) := by
  have X := S.1
  have hc := Q.2.1
  refine forN (fun n i g => f_X4_joinClaims_L61 n 27 i g) L.2 (by omega) (fun i g' => FrP N0 (fun a k => a = 27 ∧ 15 ≤ k) g g' ∧ hj g' 27 15 = sJ (fun j => if cl j = -1 then 0 else wiJ (ow (L.1 j)) (A.1 6) (cl j) (F 2 (L.1 j))) i ∧ hi g' 27 16 = nI (orN (fun j => if cl j = -1 then 0 else mk (L.1 j)) i)) (fun g' => FrP N0 (fun a k => a = 27 ∧ 15 ≤ k) g g' ∧ hj g' 27 15 = PAYV F A L ow cl ∧ hi g' 27 16 = nI (PMKV L mk cl)) ?_ ?_ (i0 := 0) (Nat.zero_le _) ⟨FrP.rfl, z1, z2⟩
  · rintro n g1 ⟨I1, I2, I3⟩
    have X1 := I1.fx X (fun _ _ q => q)
    refine ⟨g1, ?_, I1, I2, I3⟩
    have e12 : hi g1 27 12 = nI L.2 := by rw [I1.2.2.1 27 12 (by omega)]; exact Q.1
    simp only [f_X4_joinClaims_L61.eq_2]
    simp (disch := (first | assumption | (simp only [FX_si, FX_sj, FX_sr, WX_si, WX_sj, WX_sr, FK_si, FK_sj, FK_sr]; assumption) | omega | decide)) only [e12, ↓reduceIte, if_true, if_false, i10, i01, eq_self, wq7, wq8, wq9, wq10, wrc, wgi, wpi, wpz, wn1, wn2, wn3, wn4, wr1, wr2, wr3, wr4, ww1, ww2, ww3, ww4, fgi, fgq, fpi, frc, at18, at19, at21, at22, at23, at24, at25, at26, at_neg, wat1, wat2, wat3, wat4, reduceCtorEq, bd_some, b1_some, b2_some, b3_some, b4_some, c1_eq, elim_inl, elim_inr, zok0, zok1, getQ_si, getQ_sj, getQ_sr, q8_0, q8_1, q8_2, q8_4, q8_7, q8_8, q8_9, q8_10, q8_11, q9_0, q9_3, q9_4, q9_8, q17_0, q17_1, q17_2, q17_4, q17_5, q17_6, q17_9, q17_10, q17_11, q27_4, q27_5, q27_6, q27_7, q27_8, q27_11, q45_0, q45_1, q45_11, q45_12, q45_13, q45_14, q45_15, q45_16, q45_17, q45_18, q45_19, q45_20, q45_21, q45_22, q45_23, q45_24, q45_30, q45_31, q45_32, q45_33, q45_34, q45_35, q45_36, q45_37, q45_38, q45_39, q45_43, q45_44, q45_45, q45_46, q45_47, q45_48, q45_52, q45_53, q45_54, q45_59, q45_60, q45_61, q45_62, q45_65, q45_67, q45_68, gi8, gj8, pi8, pz8, pj8, rc8, gi9, gj9, pi9, pz9, pj9, rc9, gi17, gj17, pi17, pz17, pj17, rc17, gi27, gj27, pi27, pz27, pj27, rc27, gi45, gj45, pi45, pz45, pj45, rc45, aln_si, aln_sj, aln_sq, rc_si, rc_sj, rc_sq, n0, n1, n10, n11, n12, n13, n14, n15, n16, n18, n19, n20, n21, n22, n23, n24, n25, n26, n29, n30, n31, n32, n33, n34, n35, n36, n37, n38, n39, n40, n42, n43, n44, n46, n47, n48, n49, n50, n51, n52, n53, n54, n55, n56, n57, n58, n59, n60, n61, n62, n63, n64, n65, n66, n67, n68, n69, n70, n71, n72, n73, n74, n75, n76, n77, n78, n79, n80, n81, n82, n83, n84, n85, n86, n87, r0, r1, r10, r11, r12, r13, r14, r15, r16, r18, r19, r20, r21, r22, r23, r24, r25, r26, r29, r30, r31, r32, r33, r34, r35, r36, r37, r38, r39, r40, r42, r43, r44, r46, r47, r48, r49, r50, r51, r52, r53, r54, r55, r56, r57, r58, r59, r60, r61, r62, r63, r64, r65, r66, r67, r68, r69, r70, r71, r72, r73, r74, r75, r76, r77, r78, r79, r80, r81, r82, r83, r84, r85, r86, r87, w10, w11, w12, w13, w18, w19, w20, w21, w22, w23, w24, w25, w26, w30, w31, w32, w33, w34, w35, w36, w38, w39, w40, w43, w44, w46, w47, w48, w49, w50, w51, w52, w53, w54, w55, w56, w57, w58, w59, w60, w61, w62, w63, w64, w65, w66, w67, w68, w69, w70, w71, w72, w73, w74, w75, w76, w77, w78, w79, w80, w81, w82, w83, w84, w85, w86, w87, hi_hit, hi_row, hi_col, hj_hit, hj_row, hj_col, hi_sj, hj_si, hq_si, hq_sj, hi_sq, hj_sq, hi_srh, hi_srm]
    rw [if_pos (Int32.le_refl _)]
  · rintro n i g1 hi' ⟨I1, I2, I3⟩
    right
    have X1 := I1.fx X (fun _ _ q => q)
    have toRN : FrP H37 (RN nf fa) g g1 := I1.mono (fun _ _ q => q.elim) (fun a k q => Or.inl ⟨q.1, by omega⟩)
    have S1 := S.frp hP C toRN
    have C1 := C.frp (toRN.mono (fun _ _ q => q) RN_RS)
    have Q1 : LSQ g1 nf fa L := Q.r11 (I1.mono (fun _ _ q => q) (fun a k q => Or.inl ⟨q.1, by omega⟩)) C
    have e12 := Q1.1
    have m1 : ¬ nI L.2 ≤ nI i := by rw [nI_leI (by omega) (by omega)]; omega
    have el := c_listed X1 Q1 hi'
    obtain ⟨hri, -⟩ := Q.2.2 i hi'
    have K1 : FK g1 (fa (L.1 i)) := (C1 _ hri).2.1
    have h88 := (C1 _ hri).1
    have same : ∀ j, hi g1 (fa (L.1 i)) j = hi g (fa (L.1 i)) j := fun j => I1.2.2.1 _ _ (by omega)
    have e11 : hi g1 (fa (L.1 i)) 11 = cl i := by rw [same]; exact h11 i hi'
    have e10 : hi g1 (fa (L.1 i)) 10 = nI (mk (L.1 i)) := by rw [same]; exact h10 i hi'
    by_cases c : cl i = -1
    · refine ⟨g1, ?_, I1, ?_, ?_⟩
      · rw [c] at e11
        simp only [f_X4_joinClaims_L61.eq_2]
        simp (disch := (first | assumption | (simp only [FX_si, FX_sj, FX_sr, WX_si, WX_sj, WX_sr, FK_si, FK_sj, FK_sr]; assumption) | omega | decide)) only [e12, m1, el, e11, nI_1, ↓reduceIte, if_true, if_false, i10, i01, eq_self, wq7, wq8, wq9, wq10, wrc, wgi, wpi, wpz, wn1, wn2, wn3, wn4, wr1, wr2, wr3, wr4, ww1, ww2, ww3, ww4, fgi, fgq, fpi, frc, at18, at19, at21, at22, at23, at24, at25, at26, at_neg, wat1, wat2, wat3, wat4, reduceCtorEq, bd_some, b1_some, b2_some, b3_some, b4_some, c1_eq, elim_inl, elim_inr, zok0, zok1, getQ_si, getQ_sj, getQ_sr, q8_0, q8_1, q8_2, q8_4, q8_7, q8_8, q8_9, q8_10, q8_11, q9_0, q9_3, q9_4, q9_8, q17_0, q17_1, q17_2, q17_4, q17_5, q17_6, q17_9, q17_10, q17_11, q27_4, q27_5, q27_6, q27_7, q27_8, q27_11, q45_0, q45_1, q45_11, q45_12, q45_13, q45_14, q45_15, q45_16, q45_17, q45_18, q45_19, q45_20, q45_21, q45_22, q45_23, q45_24, q45_30, q45_31, q45_32, q45_33, q45_34, q45_35, q45_36, q45_37, q45_38, q45_39, q45_43, q45_44, q45_45, q45_46, q45_47, q45_48, q45_52, q45_53, q45_54, q45_59, q45_60, q45_61, q45_62, q45_65, q45_67, q45_68, gi8, gj8, pi8, pz8, pj8, rc8, gi9, gj9, pi9, pz9, pj9, rc9, gi17, gj17, pi17, pz17, pj17, rc17, gi27, gj27, pi27, pz27, pj27, rc27, gi45, gj45, pi45, pz45, pj45, rc45, aln_si, aln_sj, aln_sq, rc_si, rc_sj, rc_sq, n0, n1, n10, n11, n12, n13, n14, n15, n16, n18, n19, n20, n21, n22, n23, n24, n25, n26, n29, n30, n31, n32, n33, n34, n35, n36, n37, n38, n39, n40, n42, n43, n44, n46, n47, n48, n49, n50, n51, n52, n53, n54, n55, n56, n57, n58, n59, n60, n61, n62, n63, n64, n65, n66, n67, n68, n69, n70, n71, n72, n73, n74, n75, n76, n77, n78, n79, n80, n81, n82, n83, n84, n85, n86, n87, r0, r1, r10, r11, r12, r13, r14, r15, r16, r18, r19, r20, r21, r22, r23, r24, r25, r26, r29, r30, r31, r32, r33, r34, r35, r36, r37, r38, r39, r40, r42, r43, r44, r46, r47, r48, r49, r50, r51, r52, r53, r54, r55, r56, r57, r58, r59, r60, r61, r62, r63, r64, r65, r66, r67, r68, r69, r70, r71, r72, r73, r74, r75, r76, r77, r78, r79, r80, r81, r82, r83, r84, r85, r86, r87, w10, w11, w12, w13, w18, w19, w20, w21, w22, w23, w24, w25, w26, w30, w31, w32, w33, w34, w35, w36, w38, w39, w40, w43, w44, w46, w47, w48, w49, w50, w51, w52, w53, w54, w55, w56, w57, w58, w59, w60, w61, w62, w63, w64, w65, w66, w67, w68, w69, w70, w71, w72, w73, w74, w75, w76, w77, w78, w79, w80, w81, w82, w83, w84, w85, w86, w87, hi_hit, hi_row, hi_col, hj_hit, hj_row, hj_col, hi_sj, hj_si, hq_si, hq_sj, hi_sq, hj_sq, hi_srh, hi_srm]
      · rw [I2]
        show _ = sJ _ i + (if cl i = -1 then 0 else _)
        rw [if_pos c, Int64.add_zero]
      · rw [I3]
        show _ = nI (orN _ i ||| (if cl i = -1 then 0 else _))
        rw [if_pos c, Nat.or_zero]
    · have cw := c_with S1 C1 hri (cl i)
      rw [same 9, h9 i hi'] at cw
      refine ⟨si (sj g1 27 15 (sJ (fun j => if cl j = -1 then 0 else wiJ (ow (L.1 j)) (A.1 6) (cl j) (F 2 (L.1 j))) i + wiJ (ow (L.1 i)) (A.1 6) (cl i) (F 2 (L.1 i)))) 27 16 (nI (orN (fun j => if cl j = -1 then 0 else mk (L.1 j)) i ||| mk (L.1 i))), ?_, I1.trans ((FrP.sj ⟨rfl, by decide⟩).trans (FrP.si ⟨rfl, by decide⟩)), ?_, ?_⟩
      · simp only [f_X4_joinClaims_L61.eq_2]
        simp (disch := (first | assumption | (simp only [FX_si, FX_sj, FX_sr, WX_si, WX_sj, WX_sr, FK_si, FK_sj, FK_sr]; assumption) | omega | decide)) only [e12, m1, el, e11, c, cw, I2, I3, e10, bor_of, nI_1, ↓reduceIte, if_true, if_false, i10, i01, eq_self, wq7, wq8, wq9, wq10, wrc, wgi, wpi, wpz, wn1, wn2, wn3, wn4, wr1, wr2, wr3, wr4, ww1, ww2, ww3, ww4, fgi, fgq, fpi, frc, at18, at19, at21, at22, at23, at24, at25, at26, at_neg, wat1, wat2, wat3, wat4, reduceCtorEq, bd_some, b1_some, b2_some, b3_some, b4_some, c1_eq, elim_inl, elim_inr, zok0, zok1, getQ_si, getQ_sj, getQ_sr, q8_0, q8_1, q8_2, q8_4, q8_7, q8_8, q8_9, q8_10, q8_11, q9_0, q9_3, q9_4, q9_8, q17_0, q17_1, q17_2, q17_4, q17_5, q17_6, q17_9, q17_10, q17_11, q27_4, q27_5, q27_6, q27_7, q27_8, q27_11, q45_0, q45_1, q45_11, q45_12, q45_13, q45_14, q45_15, q45_16, q45_17, q45_18, q45_19, q45_20, q45_21, q45_22, q45_23, q45_24, q45_30, q45_31, q45_32, q45_33, q45_34, q45_35, q45_36, q45_37, q45_38, q45_39, q45_43, q45_44, q45_45, q45_46, q45_47, q45_48, q45_52, q45_53, q45_54, q45_59, q45_60, q45_61, q45_62, q45_65, q45_67, q45_68, gi8, gj8, pi8, pz8, pj8, rc8, gi9, gj9, pi9, pz9, pj9, rc9, gi17, gj17, pi17, pz17, pj17, rc17, gi27, gj27, pi27, pz27, pj27, rc27, gi45, gj45, pi45, pz45, pj45, rc45, aln_si, aln_sj, aln_sq, rc_si, rc_sj, rc_sq, n0, n1, n10, n11, n12, n13, n14, n15, n16, n18, n19, n20, n21, n22, n23, n24, n25, n26, n29, n30, n31, n32, n33, n34, n35, n36, n37, n38, n39, n40, n42, n43, n44, n46, n47, n48, n49, n50, n51, n52, n53, n54, n55, n56, n57, n58, n59, n60, n61, n62, n63, n64, n65, n66, n67, n68, n69, n70, n71, n72, n73, n74, n75, n76, n77, n78, n79, n80, n81, n82, n83, n84, n85, n86, n87, r0, r1, r10, r11, r12, r13, r14, r15, r16, r18, r19, r20, r21, r22, r23, r24, r25, r26, r29, r30, r31, r32, r33, r34, r35, r36, r37, r38, r39, r40, r42, r43, r44, r46, r47, r48, r49, r50, r51, r52, r53, r54, r55, r56, r57, r58, r59, r60, r61, r62, r63, r64, r65, r66, r67, r68, r69, r70, r71, r72, r73, r74, r75, r76, r77, r78, r79, r80, r81, r82, r83, r84, r85, r86, r87, w10, w11, w12, w13, w18, w19, w20, w21, w22, w23, w24, w25, w26, w30, w31, w32, w33, w34, w35, w36, w38, w39, w40, w43, w44, w46, w47, w48, w49, w50, w51, w52, w53, w54, w55, w56, w57, w58, w59, w60, w61, w62, w63, w64, w65, w66, w67, w68, w69, w70, w71, w72, w73, w74, w75, w76, w77, w78, w79, w80, w81, w82, w83, w84, w85, w86, w87, hi_hit, hi_row, hi_col, hj_hit, hj_row, hj_col, hi_sj, hj_si, hq_si, hq_sj, hi_sq, hj_sq, hi_srh, hi_srm]
      · rw [hj_si, hj_hit]
        show _ = sJ _ i + (if cl i = -1 then 0 else _)
        rw [if_neg c]
      · rw [hi_hit]
        show _ = nI (orN _ i ||| (if cl i = -1 then 0 else _))
        rw [if_neg c]
theorem c_joinC (hP : ∀ x, P x → OKA x) (S : SHT P g b A pd pl tm) (C : CFx g F nf fa) (R : RG F nw nf) (hnf : nf ≤ 250) (h1 : hq g 27 1 = (nx F (nI w) nf 0).map fa) {mk : Nat → Nat} (LS : LSC g fa ow (fun f => nI (mk f)) L) (hL : L.2 ≤ 250) (hlt : ∀ j, j < L.2 → L.1 j < nf) (inj : ∀ i j, i < L.2 → j < L.2 → L.1 i = L.1 j → i = j) :
    ∃ g', f_X4_joinClaims 27 k g = some g' ∧ FrP N0 (R11 nf fa) g g' ∧ hj g' 27 15 = PAYV F A L ow (clN F A L (nI w) k nf) ∧ hi g' 27 16 = nI (PMKV L mk (clN F A L (nI w) k nf)) := by
  have X := S.1
  have Q : LSQ g nf fa L := ⟨LS.1, hL, fun j hj => ⟨hlt j hj, (LS.2 j hj).1⟩⟩
  obtain ⟨g1, a1, a2, a3, a4⟩ := c_join5 (w := w) (k := k) hP S C R hnf Q inj (fun j hj => (LS.2 j hj).2.2.2)
  have toRN : ∀ {g2 : Hp}, FrP N0 (R11 nf fa) g g2 → FrP H37 (RN nf fa) g g2 := fun a => a.mono (fun _ _ q => q.elim) R11_RN
  have fr2 : FrP N0 (R11 nf fa) g (si (sj g1 27 15 0) 27 16 0) := a2.trans ((FrP.sj (Or.inl ⟨rfl, by decide⟩)).trans (FrP.si (Or.inl ⟨rfl, by decide⟩)))
  have X1 := a2.fx X (fun _ _ q => q)
  have C2 := C.frp ((toRN fr2).mono (fun _ _ q => q) RN_RS)
  have o : ∀ j, j < L.2 → ∀ m, hi (si (sj g1 27 15 0) 27 16 0) (fa (L.1 j)) m = hi g1 (fa (L.1 j)) m := fun j hj m => by
    have h88 := (C _ (hlt j hj)).1
    rw [hi_row _ _ _ (by omega), hi_sj]
  obtain ⟨g3, b1', b2', b3', b4'⟩ := c_join61 (ow := ow) (mk := mk) (cl := clN F A L (nI w) k nf) hP (S.frp hP C (toRN fr2)) C2 (Q.r11 fr2 C) (fun j hj => by rw [o j hj, a3 _ _ (by decide) (by decide) (by decide)]; exact (LS.2 j hj).2.1) (fun j hj => by rw [o j hj, a3 _ _ (by decide) (by decide) (by decide)]; exact (LS.2 j hj).2.2.1) (fun j hj => by rw [o j hj]; exact a4 j hj) (by rw [hj_si, hj_hit]) (hi_hit _ _ _)
  refine ⟨g3, ?_, fr2.trans (b2'.mono (fun _ _ q => q) (fun a k q => Or.inl ⟨q.1, by omega⟩)), b3', b4'⟩
  have hq1 : getQ g (some 27) 4 1 = some ((nx F (nI w) nf 0).map fa) := by rw [getQ_of 1 (k27 X), h1]
  unfold f_X4_joinClaims
  simp (disch := (first | assumption | (simp only [FX_si, FX_sj, FX_sr, WX_si, WX_sj, WX_sr, FK_si, FK_sj, FK_sr]; assumption) | omega | decide)) only [hq1, a1, b1', ↓reduceIte, if_true, if_false, i10, i01, eq_self, wq7, wq8, wq9, wq10, wrc, wgi, wpi, wpz, wn1, wn2, wn3, wn4, wr1, wr2, wr3, wr4, ww1, ww2, ww3, ww4, fgi, fgq, fpi, frc, at18, at19, at21, at22, at23, at24, at25, at26, at_neg, wat1, wat2, wat3, wat4, reduceCtorEq, bd_some, b1_some, b2_some, b3_some, b4_some, c1_eq, elim_inl, elim_inr, zok0, zok1, getQ_si, getQ_sj, getQ_sr, q8_0, q8_1, q8_2, q8_4, q8_7, q8_8, q8_9, q8_10, q8_11, q9_0, q9_3, q9_4, q9_8, q17_0, q17_1, q17_2, q17_4, q17_5, q17_6, q17_9, q17_10, q17_11, q27_4, q27_5, q27_6, q27_7, q27_8, q27_11, q45_0, q45_1, q45_11, q45_12, q45_13, q45_14, q45_15, q45_16, q45_17, q45_18, q45_19, q45_20, q45_21, q45_22, q45_23, q45_24, q45_30, q45_31, q45_32, q45_33, q45_34, q45_35, q45_36, q45_37, q45_38, q45_39, q45_43, q45_44, q45_45, q45_46, q45_47, q45_48, q45_52, q45_53, q45_54, q45_59, q45_60, q45_61, q45_62, q45_65, q45_67, q45_68, gi8, gj8, pi8, pz8, pj8, rc8, gi9, gj9, pi9, pz9, pj9, rc9, gi17, gj17, pi17, pz17, pj17, rc17, gi27, gj27, pi27, pz27, pj27, rc27, gi45, gj45, pi45, pz45, pj45, rc45, aln_si, aln_sj, aln_sq, rc_si, rc_sj, rc_sq, n0, n1, n10, n11, n12, n13, n14, n15, n16, n18, n19, n20, n21, n22, n23, n24, n25, n26, n29, n30, n31, n32, n33, n34, n35, n36, n37, n38, n39, n40, n42, n43, n44, n46, n47, n48, n49, n50, n51, n52, n53, n54, n55, n56, n57, n58, n59, n60, n61, n62, n63, n64, n65, n66, n67, n68, n69, n70, n71, n72, n73, n74, n75, n76, n77, n78, n79, n80, n81, n82, n83, n84, n85, n86, n87, r0, r1, r10, r11, r12, r13, r14, r15, r16, r18, r19, r20, r21, r22, r23, r24, r25, r26, r29, r30, r31, r32, r33, r34, r35, r36, r37, r38, r39, r40, r42, r43, r44, r46, r47, r48, r49, r50, r51, r52, r53, r54, r55, r56, r57, r58, r59, r60, r61, r62, r63, r64, r65, r66, r67, r68, r69, r70, r71, r72, r73, r74, r75, r76, r77, r78, r79, r80, r81, r82, r83, r84, r85, r86, r87, w10, w11, w12, w13, w18, w19, w20, w21, w22, w23, w24, w25, w26, w30, w31, w32, w33, w34, w35, w36, w38, w39, w40, w43, w44, w46, w47, w48, w49, w50, w51, w52, w53, w54, w55, w56, w57, w58, w59, w60, w61, w62, w63, w64, w65, w66, w67, w68, w69, w70, w71, w72, w73, w74, w75, w76, w77, w78, w79, w80, w81, w82, w83, w84, w85, w86, w87, hi_hit, hi_row, hi_col, hj_hit, hj_row, hj_col, hi_sj, hj_si, hq_si, hq_sj, hi_sq, hj_sq, hi_srh, hi_srm]
end Pw
