/-! How the class reads a part of a text. -/
def TB (h : Hp) (T Pl : Nat → Nat) (N : Nat) : Prop := hi h 9 5 = nI (N + 1) ∧ ∀ i, i ≤ N → hi h 11 i = nI (T i) ∧ hi h 12 i = nI (Pl i)
def GT (T : Nat → Nat) (N : Nat) : Prop := N ≤ 900 ∧ (T N = 25 ∨ T N = 26) ∧ (∀ i, i < N → T i ≠ 25 ∧ T i ≠ 26) ∧ ∀ i, okT (T i)
theorem okT_lt {t : Nat} (o : okT t) : t < 11000 := by
  rcases o with o | o | o
  · omega
  · have := isS_iff.mp o; omega
  · exact o.2
/-- the class reads on, at token i -/
def CT (h : Hp) (T Pl : Nat → Nat) (N i u : Nat) : Prop := FX h ∧ TB h T Pl N ∧ hi h 9 12 = 0 ∧ hi h 9 6 = nI i ∧ hi h 9 7 = nI (T i) ∧ (hi h 9 10 = nI u ∧ hi h 9 13 = -1) ∧ i ≤ N
def fk (t w : Nat) : Nat := if t = 26 then 1 else w
/-- it has found a fault -/
def DD (h : Hp) (T Pl : Nat → Nat) (e : Nat × Nat) : Prop := FX h ∧ hi h 9 12 = nI (fk (T e.1) e.2) ∧ hi h 9 13 = nI (Pl e.1) ∧ hi h 9 7 = 26 ∧ (e.2 = 2 ∨ e.2 = 4)
/-- its steps -/
def SP (h : Hp) (c : List Nat) : Prop := hi h 9 9 = nI c.length ∧ ∀ j (hj : j < c.length), hi h 13 j = nI c[j]
def BR : List (Nat × Nat) := [(9, 6), (9, 7), (9, 9), (9, 10), (9, 12), (9, 13)]
section Cd
variable {h : Hp} {T Pl : Nat → Nat} {N i u : Nat}
theorem fk_ne {T : Nat → Nat} {e : Nat × Nat} (h : e.2 = 2 ∨ e.2 = 4) : ¬ nI (fk (T e.1) e.2) = 0 := by
  unfold fk
  split
  · decide
  · rcases h with h | h <;> rw [h] <;> decide
theorem TB.fr {g : Hp} (t : TB h T Pl N) {A : List Nat} {B : List (Nat × Nat)} (fr : Fr A B h g) (h1 : 9 ∉ A) (h2 : 11 ∉ A) (h3 : 12 ∉ A) (h4 : (9, 5) ∉ B) (h5 : B.all (fun y => y.1 != 11) = true) (h6 : B.all (fun y => y.1 != 12) = true) : TB g T Pl N :=
  ⟨(fr.ef h1 h4).trans t.1, fun i hi' => ⟨(fr.ei _ h2 h5).trans (t.2 i hi').1, (fr.ei _ h3 h6).trans (t.2 i hi').2⟩⟩
theorem c_nextT (gt : GT T N) (c : CT h T Pl N i u) (hi' : i < N) : ∃ g, f_X2_nextToken 9 h = some g ∧ Fr [] [(9, 6), (9, 7)] h g ∧ CT g T Pl N (i + 1) u := by
  obtain ⟨X, tb, c12, c6, c7, c10, ci⟩ := c
  have hN := gt.1
  have q0 : ¬ nI (i + 1) < 0 := nI_pos (by omega)
  have q1 : ¬ nI (N + 1) ≤ nI (i + 1) := by rw [nI_leI (by omega) (by omega)]; omega
  have q2 : ¬ nI 901 ≤ nI (i + 1) := by rw [nI_leI (by omega) (by omega)]; omega
  have q3 : i + 1 < 901 := by omega
  have t5 := tb.1
  have t11 := (tb.2 (i + 1) (by omega)).1
  have fr : Fr [] [(9, 6), (9, 7)] h (si (si h 9 6 (nI (i + 1))) 9 7 (nI (T (i + 1)))) := (Fr.fld (by decide)).trans (Fr.fld (by decide))
  refine ⟨si (si h 9 6 (nI (i + 1))) 9 7 (nI (T (i + 1))), ?_, fr, fr.fx X, tb.fr fr (by decide) (by decide) (by decide) (by decide) (by decide) (by decide), (fr.ef (by decide) (by decide)).trans c12, ?_, hi_hit _ _ _, ⟨(fr.ef (by decide) (by decide)).trans c10.1, (fr.ef (by decide) (by decide)).trans c10.2⟩, by omega⟩
  · unfold f_X2_nextToken
    simp (disch := (first | assumption | (simp only [FX_si, FX_sj, FX_sr, WX_si, WX_sj, WX_sr, FK_si, FK_sj, FK_sr]; assumption) | omega | decide)) only [c6, c12, nI_1, q0, t5, q1, q2, t11, ↓reduceIte, if_true, if_false, i10, i01, eq_self, wq7, wq8, wq9, wq10, wrc, wgi, wpi, wpz, wn1, wn2, wn3, wn4, wr1, wr2, wr3, wr4, ww1, ww2, ww3, ww4, fgi, fgq, fpi, frc, at18, at19, at21, at22, at23, at24, at25, at26, at_neg, wat1, wat2, wat3, wat4, reduceCtorEq, bd_some, b1_some, b2_some, b3_some, b4_some, c1_eq, elim_inl, elim_inr, zok0, zok1, getQ_si, getQ_sj, getQ_sr, q8_0, q8_1, q8_2, q8_4, q8_7, q8_8, q8_9, q8_10, q8_11, q9_0, q9_3, q9_4, q9_8, q17_0, q17_1, q17_2, q17_4, q17_5, q17_6, q17_9, q17_10, q17_11, q27_4, q27_5, q27_6, q27_7, q27_8, q27_11, q45_0, q45_1, q45_11, q45_12, q45_13, q45_14, q45_15, q45_16, q45_17, q45_18, q45_19, q45_20, q45_21, q45_22, q45_23, q45_24, q45_30, q45_31, q45_32, q45_33, q45_34, q45_35, q45_36, q45_37, q45_38, q45_39, q45_43, q45_44, q45_45, q45_46, q45_47, q45_48, q45_52, q45_53, q45_54, q45_59, q45_60, q45_61, q45_62, q45_65, q45_67, q45_68, gi8, gj8, pi8, pz8, pj8, rc8, gi9, gj9, pi9, pz9, pj9, rc9, gi17, gj17, pi17, pz17, pj17, rc17, gi27, gj27, pi27, pz27, pj27, rc27, gi45, gj45, pi45, pz45, pj45, rc45, aln_si, aln_sj, aln_sq, rc_si, rc_sj, rc_sq, n0, n1, n10, n11, n12, n13, n14, n15, n16, n18, n19, n20, n21, n22, n23, n24, n25, n26, n29, n30, n31, n32, n33, n34, n35, n36, n37, n38, n39, n40, n42, n43, n44, n46, n47, n48, n49, n50, n51, n52, n53, n54, n55, n56, n57, n58, n59, n60, n61, n62, n63, n64, n65, n66, n67, n68, n69, n70, n71, n72, n73, n74, n75, n76, n77, n78, n79, n80, n81, n82, n83, n84, n85, n86, n87, r0, r1, r10, r11, r12, r13, r14, r15, r16, r18, r19, r20, r21, r22, r23, r24, r25, r26, r29, r30, r31, r32, r33, r34, r35, r36, r37, r38, r39, r40, r42, r43, r44, r46, r47, r48, r49, r50, r51, r52, r53, r54, r55, r56, r57, r58, r59, r60, r61, r62, r63, r64, r65, r66, r67, r68, r69, r70, r71, r72, r73, r74, r75, r76, r77, r78, r79, r80, r81, r82, r83, r84, r85, r86, r87, w10, w11, w12, w13, w18, w19, w20, w21, w22, w23, w24, w25, w26, w30, w31, w32, w33, w34, w35, w36, w38, w39, w40, w43, w44, w46, w47, w48, w49, w50, w51, w52, w53, w54, w55, w56, w57, w58, w59, w60, w61, w62, w63, w64, w65, w66, w67, w68, w69, w70, w71, w72, w73, w74, w75, w76, w77, w78, w79, w80, w81, w82, w83, w84, w85, w86, w87, hi_hit, hi_row, hi_col, hj_hit, hj_row, hj_col, hi_sj, hj_si, hq_si, hq_sj, hi_sq, hj_sq, hi_srh, hi_srm]
  · rw [hi_col _ _ (by decide), hi_hit]
theorem c_nextD {e : Nat × Nat} (d : DD h T Pl e) : f_X2_nextToken 9 h = some h := by
  obtain ⟨X, d12, d13, d7, d2⟩ := d
  have q := fk_ne (T := T) d2
  unfold f_X2_nextToken
  simp (disch := (first | assumption | (simp only [FX_si, FX_sj, FX_sr, WX_si, WX_sj, WX_sr, FK_si, FK_sj, FK_sr]; assumption) | omega | decide)) only [d12, q, ↓reduceIte, if_true, if_false, i10, i01, eq_self, wq7, wq8, wq9, wq10, wrc, wgi, wpi, wpz, wn1, wn2, wn3, wn4, wr1, wr2, wr3, wr4, ww1, ww2, ww3, ww4, fgi, fgq, fpi, frc, at18, at19, at21, at22, at23, at24, at25, at26, at_neg, wat1, wat2, wat3, wat4, reduceCtorEq, bd_some, b1_some, b2_some, b3_some, b4_some, c1_eq, elim_inl, elim_inr, zok0, zok1, getQ_si, getQ_sj, getQ_sr, q8_0, q8_1, q8_2, q8_4, q8_7, q8_8, q8_9, q8_10, q8_11, q9_0, q9_3, q9_4, q9_8, q17_0, q17_1, q17_2, q17_4, q17_5, q17_6, q17_9, q17_10, q17_11, q27_4, q27_5, q27_6, q27_7, q27_8, q27_11, q45_0, q45_1, q45_11, q45_12, q45_13, q45_14, q45_15, q45_16, q45_17, q45_18, q45_19, q45_20, q45_21, q45_22, q45_23, q45_24, q45_30, q45_31, q45_32, q45_33, q45_34, q45_35, q45_36, q45_37, q45_38, q45_39, q45_43, q45_44, q45_45, q45_46, q45_47, q45_48, q45_52, q45_53, q45_54, q45_59, q45_60, q45_61, q45_62, q45_65, q45_67, q45_68, gi8, gj8, pi8, pz8, pj8, rc8, gi9, gj9, pi9, pz9, pj9, rc9, gi17, gj17, pi17, pz17, pj17, rc17, gi27, gj27, pi27, pz27, pj27, rc27, gi45, gj45, pi45, pz45, pj45, rc45, aln_si, aln_sj, aln_sq, rc_si, rc_sj, rc_sq, n0, n1, n10, n11, n12, n13, n14, n15, n16, n18, n19, n20, n21, n22, n23, n24, n25, n26, n29, n30, n31, n32, n33, n34, n35, n36, n37, n38, n39, n40, n42, n43, n44, n46, n47, n48, n49, n50, n51, n52, n53, n54, n55, n56, n57, n58, n59, n60, n61, n62, n63, n64, n65, n66, n67, n68, n69, n70, n71, n72, n73, n74, n75, n76, n77, n78, n79, n80, n81, n82, n83, n84, n85, n86, n87, r0, r1, r10, r11, r12, r13, r14, r15, r16, r18, r19, r20, r21, r22, r23, r24, r25, r26, r29, r30, r31, r32, r33, r34, r35, r36, r37, r38, r39, r40, r42, r43, r44, r46, r47, r48, r49, r50, r51, r52, r53, r54, r55, r56, r57, r58, r59, r60, r61, r62, r63, r64, r65, r66, r67, r68, r69, r70, r71, r72, r73, r74, r75, r76, r77, r78, r79, r80, r81, r82, r83, r84, r85, r86, r87, w10, w11, w12, w13, w18, w19, w20, w21, w22, w23, w24, w25, w26, w30, w31, w32, w33, w34, w35, w36, w38, w39, w40, w43, w44, w46, w47, w48, w49, w50, w51, w52, w53, w54, w55, w56, w57, w58, w59, w60, w61, w62, w63, w64, w65, w66, w67, w68, w69, w70, w71, w72, w73, w74, w75, w76, w77, w78, w79, w80, w81, w82, w83, w84, w85, w86, w87, hi_hit, hi_row, hi_col, hj_hit, hj_row, hj_col, hi_sj, hj_si, hq_si, hq_sj, hi_sq, hj_sq, hi_srh, hi_srm]
theorem c_refuse (gt : GT T N) (c : CT h T Pl N i u) {w : Nat} (hw : w = 2 ∨ w = 4) : ∃ g, f_X2_refuse 9 (nI w) h = some g ∧ Fr [] [(9, 7), (9, 12), (9, 13)] h g ∧ DD g T Pl (i, w) := by
  obtain ⟨X, tb, c12, c6, c7, c10, ci⟩ := c
  have hN := gt.1
  have tl := okT_lt (gt.2.2.2 i)
  have q0 : ¬ nI i < 0 := nI_pos (by omega)
  have q2 : ¬ nI 901 ≤ nI i := by rw [nI_leI (by omega) (by omega)]; omega
  have q3 : i < 901 := by omega
  have t12 := (tb.2 i ci).2
  have q26 : nI (T i) = (26 : Int32) ↔ T i = 26 := nI_eq (b := 26) (by omega) (by decide)
  refine ⟨si (si (si h 9 12 (nI (fk (T i) w))) 9 13 (nI (Pl i))) 9 7 26, ?_, ((Fr.fld (by decide)).trans (Fr.fld (by decide))).trans (Fr.fld (by decide)), FX_of X rfl (fun _ _ => rfl), ?_, ?_, hi_hit _ _ _, hw⟩
  · unfold f_X2_refuse fk
    by_cases c : T i = 26
    · have c' := q26.mpr c
      rw [if_pos c]
      simp (disch := (first | assumption | (simp only [FX_si, FX_sj, FX_sr, WX_si, WX_sj, WX_sr, FK_si, FK_sj, FK_sr]; assumption) | omega | decide)) only [c12, c7, c', c6, q0, q2, t12, ↓reduceIte, if_true, if_false, i10, i01, eq_self, wq7, wq8, wq9, wq10, wrc, wgi, wpi, wpz, wn1, wn2, wn3, wn4, wr1, wr2, wr3, wr4, ww1, ww2, ww3, ww4, fgi, fgq, fpi, frc, at18, at19, at21, at22, at23, at24, at25, at26, at_neg, wat1, wat2, wat3, wat4, reduceCtorEq, bd_some, b1_some, b2_some, b3_some, b4_some, c1_eq, elim_inl, elim_inr, zok0, zok1, getQ_si, getQ_sj, getQ_sr, q8_0, q8_1, q8_2, q8_4, q8_7, q8_8, q8_9, q8_10, q8_11, q9_0, q9_3, q9_4, q9_8, q17_0, q17_1, q17_2, q17_4, q17_5, q17_6, q17_9, q17_10, q17_11, q27_4, q27_5, q27_6, q27_7, q27_8, q27_11, q45_0, q45_1, q45_11, q45_12, q45_13, q45_14, q45_15, q45_16, q45_17, q45_18, q45_19, q45_20, q45_21, q45_22, q45_23, q45_24, q45_30, q45_31, q45_32, q45_33, q45_34, q45_35, q45_36, q45_37, q45_38, q45_39, q45_43, q45_44, q45_45, q45_46, q45_47, q45_48, q45_52, q45_53, q45_54, q45_59, q45_60, q45_61, q45_62, q45_65, q45_67, q45_68, gi8, gj8, pi8, pz8, pj8, rc8, gi9, gj9, pi9, pz9, pj9, rc9, gi17, gj17, pi17, pz17, pj17, rc17, gi27, gj27, pi27, pz27, pj27, rc27, gi45, gj45, pi45, pz45, pj45, rc45, aln_si, aln_sj, aln_sq, rc_si, rc_sj, rc_sq, n0, n1, n10, n11, n12, n13, n14, n15, n16, n18, n19, n20, n21, n22, n23, n24, n25, n26, n29, n30, n31, n32, n33, n34, n35, n36, n37, n38, n39, n40, n42, n43, n44, n46, n47, n48, n49, n50, n51, n52, n53, n54, n55, n56, n57, n58, n59, n60, n61, n62, n63, n64, n65, n66, n67, n68, n69, n70, n71, n72, n73, n74, n75, n76, n77, n78, n79, n80, n81, n82, n83, n84, n85, n86, n87, r0, r1, r10, r11, r12, r13, r14, r15, r16, r18, r19, r20, r21, r22, r23, r24, r25, r26, r29, r30, r31, r32, r33, r34, r35, r36, r37, r38, r39, r40, r42, r43, r44, r46, r47, r48, r49, r50, r51, r52, r53, r54, r55, r56, r57, r58, r59, r60, r61, r62, r63, r64, r65, r66, r67, r68, r69, r70, r71, r72, r73, r74, r75, r76, r77, r78, r79, r80, r81, r82, r83, r84, r85, r86, r87, w10, w11, w12, w13, w18, w19, w20, w21, w22, w23, w24, w25, w26, w30, w31, w32, w33, w34, w35, w36, w38, w39, w40, w43, w44, w46, w47, w48, w49, w50, w51, w52, w53, w54, w55, w56, w57, w58, w59, w60, w61, w62, w63, w64, w65, w66, w67, w68, w69, w70, w71, w72, w73, w74, w75, w76, w77, w78, w79, w80, w81, w82, w83, w84, w85, w86, w87, hi_hit, hi_row, hi_col, hj_hit, hj_row, hj_col, hi_sj, hj_si, hq_si, hq_sj, hi_sq, hj_sq, hi_srh, hi_srm]
      rfl
    · have c' : ¬ nI (T i) = (26 : Int32) := fun z => c (q26.mp z)
      rw [if_neg c]
      simp (disch := (first | assumption | (simp only [FX_si, FX_sj, FX_sr, WX_si, WX_sj, WX_sr, FK_si, FK_sj, FK_sr]; assumption) | omega | decide)) only [c12, c7, c', c6, q0, q2, t12, ↓reduceIte, if_true, if_false, i10, i01, eq_self, wq7, wq8, wq9, wq10, wrc, wgi, wpi, wpz, wn1, wn2, wn3, wn4, wr1, wr2, wr3, wr4, ww1, ww2, ww3, ww4, fgi, fgq, fpi, frc, at18, at19, at21, at22, at23, at24, at25, at26, at_neg, wat1, wat2, wat3, wat4, reduceCtorEq, bd_some, b1_some, b2_some, b3_some, b4_some, c1_eq, elim_inl, elim_inr, zok0, zok1, getQ_si, getQ_sj, getQ_sr, q8_0, q8_1, q8_2, q8_4, q8_7, q8_8, q8_9, q8_10, q8_11, q9_0, q9_3, q9_4, q9_8, q17_0, q17_1, q17_2, q17_4, q17_5, q17_6, q17_9, q17_10, q17_11, q27_4, q27_5, q27_6, q27_7, q27_8, q27_11, q45_0, q45_1, q45_11, q45_12, q45_13, q45_14, q45_15, q45_16, q45_17, q45_18, q45_19, q45_20, q45_21, q45_22, q45_23, q45_24, q45_30, q45_31, q45_32, q45_33, q45_34, q45_35, q45_36, q45_37, q45_38, q45_39, q45_43, q45_44, q45_45, q45_46, q45_47, q45_48, q45_52, q45_53, q45_54, q45_59, q45_60, q45_61, q45_62, q45_65, q45_67, q45_68, gi8, gj8, pi8, pz8, pj8, rc8, gi9, gj9, pi9, pz9, pj9, rc9, gi17, gj17, pi17, pz17, pj17, rc17, gi27, gj27, pi27, pz27, pj27, rc27, gi45, gj45, pi45, pz45, pj45, rc45, aln_si, aln_sj, aln_sq, rc_si, rc_sj, rc_sq, n0, n1, n10, n11, n12, n13, n14, n15, n16, n18, n19, n20, n21, n22, n23, n24, n25, n26, n29, n30, n31, n32, n33, n34, n35, n36, n37, n38, n39, n40, n42, n43, n44, n46, n47, n48, n49, n50, n51, n52, n53, n54, n55, n56, n57, n58, n59, n60, n61, n62, n63, n64, n65, n66, n67, n68, n69, n70, n71, n72, n73, n74, n75, n76, n77, n78, n79, n80, n81, n82, n83, n84, n85, n86, n87, r0, r1, r10, r11, r12, r13, r14, r15, r16, r18, r19, r20, r21, r22, r23, r24, r25, r26, r29, r30, r31, r32, r33, r34, r35, r36, r37, r38, r39, r40, r42, r43, r44, r46, r47, r48, r49, r50, r51, r52, r53, r54, r55, r56, r57, r58, r59, r60, r61, r62, r63, r64, r65, r66, r67, r68, r69, r70, r71, r72, r73, r74, r75, r76, r77, r78, r79, r80, r81, r82, r83, r84, r85, r86, r87, w10, w11, w12, w13, w18, w19, w20, w21, w22, w23, w24, w25, w26, w30, w31, w32, w33, w34, w35, w36, w38, w39, w40, w43, w44, w46, w47, w48, w49, w50, w51, w52, w53, w54, w55, w56, w57, w58, w59, w60, w61, w62, w63, w64, w65, w66, w67, w68, w69, w70, w71, w72, w73, w74, w75, w76, w77, w78, w79, w80, w81, w82, w83, w84, w85, w86, w87, hi_hit, hi_row, hi_col, hj_hit, hj_row, hj_col, hi_sj, hj_si, hq_si, hq_sj, hi_sq, hj_sq, hi_srh, hi_srm]
  · rw [hi_col _ _ (by decide), hi_col _ _ (by decide), hi_hit]
  · rw [hi_col _ _ (by decide), hi_hit]
theorem c_refuseD {e : Nat × Nat} (d : DD h T Pl e) (v : Int32) : ∃ g, f_X2_refuse 9 v h = some g ∧ Fr [] [(9, 7)] h g ∧ DD g T Pl e := by
  obtain ⟨X, d12, d13, d7, d2⟩ := d
  have q := fk_ne (T := T) d2
  refine ⟨si h 9 7 26, ?_, Fr.fld (by decide), FX_of X rfl (fun _ _ => rfl), ?_, ?_, hi_hit _ _ _, d2⟩
  · unfold f_X2_refuse
    simp (disch := (first | assumption | (simp only [FX_si, FX_sj, FX_sr, WX_si, WX_sj, WX_sr, FK_si, FK_sj, FK_sr]; assumption) | omega | decide)) only [d12, q, ↓reduceIte, if_true, if_false, i10, i01, eq_self, wq7, wq8, wq9, wq10, wrc, wgi, wpi, wpz, wn1, wn2, wn3, wn4, wr1, wr2, wr3, wr4, ww1, ww2, ww3, ww4, fgi, fgq, fpi, frc, at18, at19, at21, at22, at23, at24, at25, at26, at_neg, wat1, wat2, wat3, wat4, reduceCtorEq, bd_some, b1_some, b2_some, b3_some, b4_some, c1_eq, elim_inl, elim_inr, zok0, zok1, getQ_si, getQ_sj, getQ_sr, q8_0, q8_1, q8_2, q8_4, q8_7, q8_8, q8_9, q8_10, q8_11, q9_0, q9_3, q9_4, q9_8, q17_0, q17_1, q17_2, q17_4, q17_5, q17_6, q17_9, q17_10, q17_11, q27_4, q27_5, q27_6, q27_7, q27_8, q27_11, q45_0, q45_1, q45_11, q45_12, q45_13, q45_14, q45_15, q45_16, q45_17, q45_18, q45_19, q45_20, q45_21, q45_22, q45_23, q45_24, q45_30, q45_31, q45_32, q45_33, q45_34, q45_35, q45_36, q45_37, q45_38, q45_39, q45_43, q45_44, q45_45, q45_46, q45_47, q45_48, q45_52, q45_53, q45_54, q45_59, q45_60, q45_61, q45_62, q45_65, q45_67, q45_68, gi8, gj8, pi8, pz8, pj8, rc8, gi9, gj9, pi9, pz9, pj9, rc9, gi17, gj17, pi17, pz17, pj17, rc17, gi27, gj27, pi27, pz27, pj27, rc27, gi45, gj45, pi45, pz45, pj45, rc45, aln_si, aln_sj, aln_sq, rc_si, rc_sj, rc_sq, n0, n1, n10, n11, n12, n13, n14, n15, n16, n18, n19, n20, n21, n22, n23, n24, n25, n26, n29, n30, n31, n32, n33, n34, n35, n36, n37, n38, n39, n40, n42, n43, n44, n46, n47, n48, n49, n50, n51, n52, n53, n54, n55, n56, n57, n58, n59, n60, n61, n62, n63, n64, n65, n66, n67, n68, n69, n70, n71, n72, n73, n74, n75, n76, n77, n78, n79, n80, n81, n82, n83, n84, n85, n86, n87, r0, r1, r10, r11, r12, r13, r14, r15, r16, r18, r19, r20, r21, r22, r23, r24, r25, r26, r29, r30, r31, r32, r33, r34, r35, r36, r37, r38, r39, r40, r42, r43, r44, r46, r47, r48, r49, r50, r51, r52, r53, r54, r55, r56, r57, r58, r59, r60, r61, r62, r63, r64, r65, r66, r67, r68, r69, r70, r71, r72, r73, r74, r75, r76, r77, r78, r79, r80, r81, r82, r83, r84, r85, r86, r87, w10, w11, w12, w13, w18, w19, w20, w21, w22, w23, w24, w25, w26, w30, w31, w32, w33, w34, w35, w36, w38, w39, w40, w43, w44, w46, w47, w48, w49, w50, w51, w52, w53, w54, w55, w56, w57, w58, w59, w60, w61, w62, w63, w64, w65, w66, w67, w68, w69, w70, w71, w72, w73, w74, w75, w76, w77, w78, w79, w80, w81, w82, w83, w84, w85, w86, w87, hi_hit, hi_row, hi_col, hj_hit, hj_row, hj_col, hi_sj, hj_si, hq_si, hq_sj, hi_sq, hj_sq, hi_srh, hi_srm]
  · rw [hi_col _ _ (by decide)]; exact d12
  · rw [hi_col _ _ (by decide)]; exact d13
theorem c_step (X : FX h) {m : Nat} (e : hi h 9 9 = nI m) (hm : m < 900) (v : Int32) : f_X2_putStep 9 v h = some (si (si h 13 m v) 9 9 (nI (m + 1))) := by
  have q0 : ¬ nI m < 0 := nI_pos (by omega)
  have q1 : ¬ nI 900 ≤ nI m := by rw [nI_leI (by omega) (by omega)]; omega
  unfold f_X2_putStep
  simp (disch := (first | assumption | (simp only [FX_si, FX_sj, FX_sr, WX_si, WX_sj, WX_sr, FK_si, FK_sj, FK_sr]; assumption) | omega | decide)) only [e, q0, q1, nI_1, ↓reduceIte, if_true, if_false, i10, i01, eq_self, wq7, wq8, wq9, wq10, wrc, wgi, wpi, wpz, wn1, wn2, wn3, wn4, wr1, wr2, wr3, wr4, ww1, ww2, ww3, ww4, fgi, fgq, fpi, frc, at18, at19, at21, at22, at23, at24, at25, at26, at_neg, wat1, wat2, wat3, wat4, reduceCtorEq, bd_some, b1_some, b2_some, b3_some, b4_some, c1_eq, elim_inl, elim_inr, zok0, zok1, getQ_si, getQ_sj, getQ_sr, q8_0, q8_1, q8_2, q8_4, q8_7, q8_8, q8_9, q8_10, q8_11, q9_0, q9_3, q9_4, q9_8, q17_0, q17_1, q17_2, q17_4, q17_5, q17_6, q17_9, q17_10, q17_11, q27_4, q27_5, q27_6, q27_7, q27_8, q27_11, q45_0, q45_1, q45_11, q45_12, q45_13, q45_14, q45_15, q45_16, q45_17, q45_18, q45_19, q45_20, q45_21, q45_22, q45_23, q45_24, q45_30, q45_31, q45_32, q45_33, q45_34, q45_35, q45_36, q45_37, q45_38, q45_39, q45_43, q45_44, q45_45, q45_46, q45_47, q45_48, q45_52, q45_53, q45_54, q45_59, q45_60, q45_61, q45_62, q45_65, q45_67, q45_68, gi8, gj8, pi8, pz8, pj8, rc8, gi9, gj9, pi9, pz9, pj9, rc9, gi17, gj17, pi17, pz17, pj17, rc17, gi27, gj27, pi27, pz27, pj27, rc27, gi45, gj45, pi45, pz45, pj45, rc45, aln_si, aln_sj, aln_sq, rc_si, rc_sj, rc_sq, n0, n1, n10, n11, n12, n13, n14, n15, n16, n18, n19, n20, n21, n22, n23, n24, n25, n26, n29, n30, n31, n32, n33, n34, n35, n36, n37, n38, n39, n40, n42, n43, n44, n46, n47, n48, n49, n50, n51, n52, n53, n54, n55, n56, n57, n58, n59, n60, n61, n62, n63, n64, n65, n66, n67, n68, n69, n70, n71, n72, n73, n74, n75, n76, n77, n78, n79, n80, n81, n82, n83, n84, n85, n86, n87, r0, r1, r10, r11, r12, r13, r14, r15, r16, r18, r19, r20, r21, r22, r23, r24, r25, r26, r29, r30, r31, r32, r33, r34, r35, r36, r37, r38, r39, r40, r42, r43, r44, r46, r47, r48, r49, r50, r51, r52, r53, r54, r55, r56, r57, r58, r59, r60, r61, r62, r63, r64, r65, r66, r67, r68, r69, r70, r71, r72, r73, r74, r75, r76, r77, r78, r79, r80, r81, r82, r83, r84, r85, r86, r87, w10, w11, w12, w13, w18, w19, w20, w21, w22, w23, w24, w25, w26, w30, w31, w32, w33, w34, w35, w36, w38, w39, w40, w43, w44, w46, w47, w48, w49, w50, w51, w52, w53, w54, w55, w56, w57, w58, w59, w60, w61, w62, w63, w64, w65, w66, w67, w68, w69, w70, w71, w72, w73, w74, w75, w76, w77, w78, w79, w80, w81, w82, w83, w84, w85, w86, w87, hi_hit, hi_row, hi_col, hj_hit, hj_row, hj_col, hi_sj, hj_si, hq_si, hq_sj, hi_sq, hj_sq, hi_srh, hi_srm]
theorem SP.put {c : List Nat} (s : SP h c) (x : Nat) : SP (si (si h 13 c.length (nI x)) 9 9 (nI (c.length + 1))) (c ++ [x]) := by
  refine ⟨by rw [hi_hit, List.length_append]; rfl, fun j hj => ?_⟩
  rw [hi_row _ _ _ (by decide)]
  rw [List.length_append, List.length_singleton] at hj
  by_cases q : j = c.length
  · subst q
    rw [hi_hit, List.getElem_append_right (Nat.le_refl _)]
    simp
  · rw [hi_col _ _ q, List.getElem_append_left (by omega)]
    exact s.2 j (by omega)
theorem SP.fr {c : List Nat} {g : Hp} (s : SP h c) {A : List Nat} {B : List (Nat × Nat)} (fr : Fr A B h g) (h1 : 9 ∉ A) (h2 : 13 ∉ A) (h3 : (9, 9) ∉ B) (h4 : B.all (fun y => y.1 != 13) = true) : SP g c := ⟨(fr.ef h1 h3).trans s.1, fun j hj => (fr.ei _ h2 h4).trans (s.2 j hj)⟩
theorem CT.fr {g : Hp} (c : CT h T Pl N i u) {A : List Nat} {B : List (Nat × Nat)} (fr : Fr A B h g) (hA : [9, 11, 12].all (fun x => !A.contains x) = true) (hB : B.all (fun y => y.1 != 11 && y.1 != 12 && y != (9, 5) && y != (9, 6) && y != (9, 7) && y != (9, 10) && y != (9, 12) && y != (9, 13)) = true) : CT g T Pl N i u := by
  simp at hA
  have nb : ∀ k, (9, k) ∈ B → k ≠ 5 ∧ k ≠ 6 ∧ k ≠ 7 ∧ k ≠ 10 ∧ k ≠ 12 ∧ k ≠ 13 := fun k hk' => by
    have := List.all_eq_true.mp hB _ hk'
    simp at this
    omega
  obtain ⟨X, tb, c12, c6, c7, c10, ci⟩ := c
  have f : ∀ k, k = 5 ∨ k = 6 ∨ k = 7 ∨ k = 10 ∨ k = 12 ∨ k = 13 → hi g 9 k = hi h 9 k := fun k hk' => fr.ef hA.1 (fun z => by have := nb k z; omega)
  refine ⟨fr.fx X, ⟨(f 5 (by omega)).trans tb.1, fun j hj => ⟨(fr.ef hA.2.1 ?_).trans (tb.2 j hj).1, (fr.ef hA.2.2 ?_).trans (tb.2 j hj).2⟩⟩, (f 12 (by omega)).trans c12, (f 6 (by omega)).trans c6, (f 7 (by omega)).trans c7, ⟨(f 10 (by omega)).trans c10.1, (f 13 (by omega)).trans c10.2⟩, ci⟩
  · intro z
    have := List.all_eq_true.mp hB _ z
    simp at this
  · intro z
    have := List.all_eq_true.mp hB _ z
    simp at this
theorem DD.fr {g : Hp} {e : Nat × Nat} (d : DD h T Pl e) {A : List Nat} {B : List (Nat × Nat)} (fr : Fr A B h g) (hA : 9 ∉ A) (hB : B.all (fun y => y != (9, 7) && y != (9, 12) && y != (9, 13)) = true) : DD g T Pl e := by
  obtain ⟨X, d12, d13, d7, d2⟩ := d
  have f : ∀ k, k = 7 ∨ k = 12 ∨ k = 13 → hi g 9 k = hi h 9 k := fun k hk' => fr.ef hA (fun z => by
    have := List.all_eq_true.mp hB _ z
    simp at this
    omega)
  exact ⟨fr.fx X, (f 12 (by omega)).trans d12, (f 13 (by omega)).trans d13, (f 7 (by omega)).trans d7, d2⟩
theorem c_level {t : Nat} (ht : t < 11000) (g : Hp) : f_X2_levelOf (nI t) g = some (if lvO t < 5 then nI (lvO t) else -1, g) := by
  have e : ∀ k : Nat, k < 256 → ((nI t = nI k) = (t = k)) := fun k hk' => propext (nI_eq (by omega) (by omega))
  have e10 : (nI t = (10 : Int32)) = (t = 10) := e 10 (by omega)
  have e11 : (nI t = (11 : Int32)) = (t = 11) := e 11 (by omega)
  have e42 : (nI t = (42 : Int32)) = (t = 42) := e 42 (by omega)
  have e43 : (nI t = (43 : Int32)) = (t = 43) := e 43 (by omega)
  have e45 : (nI t = (45 : Int32)) = (t = 45) := e 45 (by omega)
  have e47 : (nI t = (47 : Int32)) = (t = 47) := e 47 (by omega)
  have e60 : (nI t = (60 : Int32)) = (t = 60) := e 60 (by omega)
  have e61 : (nI t = (61 : Int32)) = (t = 61) := e 61 (by omega)
  have e62 : (nI t = (62 : Int32)) = (t = 62) := e 62 (by omega)
  unfold f_X2_levelOf
  simp only [e10, e11, e42, e43, e45, e47, e60, e61, e62]
  by_cases q : lvO t < 5
  · rcases lvO_lt q with ⟨-, r⟩ | ⟨-, r⟩ | ⟨-, r | r | r⟩ | ⟨-, r | r⟩ | ⟨-, r | r⟩ <;> subst r <;> rfl
  · rw [if_neg q]
    have q' : ¬ (t = 10 ∨ t = 11 ∨ t = 42 ∨ t = 43 ∨ t = 45 ∨ t = 47 ∨ t = 60 ∨ t = 61 ∨ t = 62) := fun z => q (by
      rcases z with r | r | r | r | r | r | r | r | r <;> subst r <;> decide)
    rw [if_neg (by omega), if_neg (by omega), if_neg (by omega), if_neg (by omega), if_neg (by omega), if_neg (by omega), if_neg (by omega), if_neg (by omega), if_neg (by omega)]
theorem c_levelD (g : Hp) : f_X2_levelOf 26 g = some (-1, g) := rfl
theorem c_lfD {e : Nat × Nat} (d : DD h T Pl e) (v : Int32) {m : Int32} (hm : m = 17 ∨ m = 22) : ∃ g, f_X2_readLeaf 9 v m h = some g ∧ Fr [] [(9, 7)] h g ∧ DD g T Pl e := by
  obtain ⟨g, a1, a2, a3⟩ := c_refuseD d 2
  have d7 := d.2.2.2.1
  have X := d.1
  have q1 : ¬ (26 : Int32) < 13 := by decide
  have q2 : ¬ (26 : Int32) ≤ m := by rcases hm with rfl | rfl <;> decide
  refine ⟨g, ?_, a2, a3⟩
  unfold f_X2_readLeaf
  simp (disch := (first | assumption | (simp only [FX_si, FX_sj, FX_sr, WX_si, WX_sj, WX_sr, FK_si, FK_sj, FK_sr]; assumption) | omega | decide)) only [d7, q1, q2, a1, ↓reduceIte, if_true, if_false, i10, i01, eq_self, wq7, wq8, wq9, wq10, wrc, wgi, wpi, wpz, wn1, wn2, wn3, wn4, wr1, wr2, wr3, wr4, ww1, ww2, ww3, ww4, fgi, fgq, fpi, frc, at18, at19, at21, at22, at23, at24, at25, at26, at_neg, wat1, wat2, wat3, wat4, reduceCtorEq, bd_some, b1_some, b2_some, b3_some, b4_some, c1_eq, elim_inl, elim_inr, zok0, zok1, getQ_si, getQ_sj, getQ_sr, q8_0, q8_1, q8_2, q8_4, q8_7, q8_8, q8_9, q8_10, q8_11, q9_0, q9_3, q9_4, q9_8, q17_0, q17_1, q17_2, q17_4, q17_5, q17_6, q17_9, q17_10, q17_11, q27_4, q27_5, q27_6, q27_7, q27_8, q27_11, q45_0, q45_1, q45_11, q45_12, q45_13, q45_14, q45_15, q45_16, q45_17, q45_18, q45_19, q45_20, q45_21, q45_22, q45_23, q45_24, q45_30, q45_31, q45_32, q45_33, q45_34, q45_35, q45_36, q45_37, q45_38, q45_39, q45_43, q45_44, q45_45, q45_46, q45_47, q45_48, q45_52, q45_53, q45_54, q45_59, q45_60, q45_61, q45_62, q45_65, q45_67, q45_68, gi8, gj8, pi8, pz8, pj8, rc8, gi9, gj9, pi9, pz9, pj9, rc9, gi17, gj17, pi17, pz17, pj17, rc17, gi27, gj27, pi27, pz27, pj27, rc27, gi45, gj45, pi45, pz45, pj45, rc45, aln_si, aln_sj, aln_sq, rc_si, rc_sj, rc_sq, n0, n1, n10, n11, n12, n13, n14, n15, n16, n18, n19, n20, n21, n22, n23, n24, n25, n26, n29, n30, n31, n32, n33, n34, n35, n36, n37, n38, n39, n40, n42, n43, n44, n46, n47, n48, n49, n50, n51, n52, n53, n54, n55, n56, n57, n58, n59, n60, n61, n62, n63, n64, n65, n66, n67, n68, n69, n70, n71, n72, n73, n74, n75, n76, n77, n78, n79, n80, n81, n82, n83, n84, n85, n86, n87, r0, r1, r10, r11, r12, r13, r14, r15, r16, r18, r19, r20, r21, r22, r23, r24, r25, r26, r29, r30, r31, r32, r33, r34, r35, r36, r37, r38, r39, r40, r42, r43, r44, r46, r47, r48, r49, r50, r51, r52, r53, r54, r55, r56, r57, r58, r59, r60, r61, r62, r63, r64, r65, r66, r67, r68, r69, r70, r71, r72, r73, r74, r75, r76, r77, r78, r79, r80, r81, r82, r83, r84, r85, r86, r87, w10, w11, w12, w13, w18, w19, w20, w21, w22, w23, w24, w25, w26, w30, w31, w32, w33, w34, w35, w36, w38, w39, w40, w43, w44, w46, w47, w48, w49, w50, w51, w52, w53, w54, w55, w56, w57, w58, w59, w60, w61, w62, w63, w64, w65, w66, w67, w68, w69, w70, w71, w72, w73, w74, w75, w76, w77, w78, w79, w80, w81, w82, w83, w84, w85, w86, w87, hi_hit, hi_row, hi_col, hj_hit, hj_row, hj_col, hi_sj, hj_si, hq_si, hq_sj, hi_sq, hj_sq, hi_srh, hi_srm]
/-- behind a fault nothing is read -/
theorem c_dead {e : Nat × Nat} : ∀ f k a b, (k = 0 ∧ a ≤ 5 ∧ 6 < a + f ∨ k = 2 ∧ 0 < f) → ∀ h, DD h T Pl e → ∃ g, f_rg f k 9 (nI a) (nI b) h = some g ∧ Fr [] [(9, 7), (9, 10)] h g ∧ DD g T Pl e := by
  intro f
  induction f with
  | zero => intro k a b hk'; omega
  | succ f ih =>
    intro k a b hk' h d
    have d7 := d.2.2.2.1
    have X := d.1
    rw [f_rg.eq_2]
    rcases hk' with ⟨k0, ha, hf⟩ | ⟨k2, hf⟩
    · rw [if_pos k0]
      unfold f_X2_readLevel
      by_cases c1 : a < 5
      · rw [if_pos (show nI a < (5 : Int32) from (nI_ltI (b := 5) (by omega) (by decide)).mpr c1)]
        obtain ⟨g, a1, a2, a3⟩ := ih 0 (a + 1) b (Or.inl ⟨rfl, by omega, by omega⟩) h d
        have g7 := a3.2.2.2.1
        have na : ¬ (-1 : Int32) = nI a := fun z => nI_m1 (by omega) z.symm
        have lp : ∀ M : Int32, M = 1 ∨ M = 900 → f_X2_readLevel_L55 (f_rg f) fu 9 (nI a) (nI b) M 0 g = some g := by
          intro M hM
          obtain ⟨n, en⟩ := fu_ex 1 (by decide)
          rw [en, f_X2_readLevel_L55.eq_2, if_neg (by rcases hM with rfl | rfl <;> decide), gi9 a3.1, bd_some, g7, c_levelD, b1_some, if_neg na]
        refine ⟨g, ?_, a2, a3⟩
        have rest : ((rc h (some 9) 2).bind fun g5 => (f_rg f 0 g5 (nI a + 1) (nI b) h).bind fun h3 => b1 ((if nI a = (2 : Int32) then some (1, h3) else some (900, h3) : Option (Int32 × Hp))) fun w8 h9 => (f_X2_readLevel_L55 (f_rg f) fu 9 (nI a) (nI b) w8 0 h9).bind fun h32 => some h32) = some g := by
          rw [rc9 X, bd_some, nI_1, a1, bd_some]
          by_cases c2 : nI a = (2 : Int32)
          · rw [if_pos c2, b1_some, lp 1 (Or.inl rfl), bd_some]
          · rw [if_neg c2, b1_some, lp 900 (Or.inr rfl), bd_some]
        by_cases c2 : nI a = (2 : Int32)
        · rw [if_pos c2, gi9 X, bd_some, d7, if_neg (by decide)]
          exact rest
        · rw [if_neg c2]
          exact rest
      · rw [if_neg (show ¬ nI a < (5 : Int32) from fun z => c1 ((nI_ltI (b := 5) (by omega) (by decide)).mp z))]
        obtain ⟨g, a1, a2, a3⟩ := ih 2 b 0 (Or.inr ⟨rfl, by omega⟩) h d
        have a1' : f_rg f 2 9 (nI b) 0 h = some g := a1
        exact ⟨g, by rw [rc9 X, bd_some, a1', bd_some], a2, a3⟩
    · rw [if_neg (by omega), if_neg (by omega)]
      unfold f_X2_readUnit
      by_cases c : hi h 9 10 < (80 : Int32)
      · have dx : DD (si h 9 10 (hi h 9 10 + 1)) T Pl e := d.fr (A := []) (B := [(9, 10)]) (Fr.fld (by decide)) (by decide) (by decide)
        obtain ⟨g, a1, a2, a3⟩ := c_lfD dx 10000 (m := 22) (Or.inr rfl)
        have X' := dx.1
        have x7 : hi (si h 9 10 (hi h 9 10 + 1)) 9 7 = 26 := dx.2.2.2.1
        have n1 : (26 : Int32) < 1000 := by decide
        have n2 : ¬ (26 : Int32) = 23 := by decide
        have n3 : ¬ (26 : Int32) = 40 := by decide
        refine ⟨g, ?_, (Fr.fld (by decide)).trans (a2.wk (by decide) (by decide)), a3⟩
        rw [gi9 X, bd_some, if_pos c, bd_some, pi9 X, bd_some, gi9 X', bd_some, x7, if_pos n1, bd_some, if_neg n2, bd_some, if_neg n3, rc9 X', bd_some, a1, bd_some, bd_some]
      · obtain ⟨g, a1, a2, a3⟩ := c_refuseD d 2
        refine ⟨g, ?_, a2.wk (by decide) (by decide), a3⟩
        rw [gi9 X, bd_some, if_neg c, rc9 X, bd_some, a1, bd_some]
end Cd
