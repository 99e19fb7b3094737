/-! The model asks what its token is. -/
/-- the model reads on, at token i -/
def MR (h : Hp) (B : Nat → Nat) (n i : Nat) : Prop := LX h B n ∧ (hi h 45 4 = 0 ∧ hi h 45 5 = -1) ∧ hi h 45 6 = nI (tP B n i) ∧ hi h 45 7 = nI (tkE B n (i + 1)) ∧ MT B n (tT B n i) (tP B n i) (hi h 45 8) (hi h 45 9) (hj h 45 10)
/-- it has found a fault -/
def MD (h : Hp) (B : Nat → Nat) (n : Nat) (e : Nat × Nat) : Prop := LX h B n ∧ hi h 45 4 = nI (fk (tT B n e.1) e.2) ∧ hi h 45 5 = nI (tP B n e.1) ∧ (e.2 = 2 ∨ e.2 = 4) ∧ ∃ k, k < 2 ^ 31 ∧ hi h 45 6 = nI k
section Mb
variable {h : Hp} {B : Nat → Nat} {n i : Nat}
theorem MR.fr {g : Hp} (m : MR h B n i) {A C : List Nat} (fr : FrM A C h g) (hA : 47 ∉ A) (hC : [3, 4, 5, 6, 7, 8, 9, 10].all (fun x => !C.contains x) = true) : MR g B n i := by
  simp at hC
  obtain ⟨c3, c4, c5, c6, c7, c8, c9, c10⟩ := hC
  obtain ⟨l, m4, m6, m7, mt⟩ := m
  refine ⟨l.fr fr hA c3, ⟨(fr.ef c4).trans m4.1, (fr.ef c5).trans m4.2⟩, (fr.ef c6).trans m6, (fr.ef c7).trans m7, ?_⟩
  rw [fr.ef c8, fr.ef c9, fr.2.2.2.2.2 10 c10]
  exact mt
theorem MD.fr {g : Hp} {e : Nat × Nat} (m : MD h B n e) {A C : List Nat} (fr : FrM A C h g) (hA : 47 ∉ A) (hC : [3, 4, 5, 6].all (fun x => !C.contains x) = true) : MD g B n e := by
  simp at hC
  obtain ⟨c3, c4, c5, c6⟩ := hC
  obtain ⟨l, m4, m5, m2, k, hk', m6⟩ := m
  exact ⟨l.fr fr hA c3, (fr.ef c4).trans m4, (fr.ef c5).trans m5, m2, k, hk', (fr.ef c6).trans m6⟩
theorem tP_le (i : Nat) : tP B n i ≤ n := (tk_all B n _ (tkE_le B n i)).2.2.1
theorem m_nextT (m : MR h B n i) : ∃ g, f_X9_next 45 h = some g ∧ FrM [] BN h g ∧ MR g B n (i + 1) := by
  obtain ⟨l, m4, m6, m7, mt⟩ := m
  obtain ⟨g, a1, a2, a3, a4, a5⟩ := m_next l (tkE_le B n (i + 1)) m7
  exact ⟨g, a1, a2, l.fr a2 (by decide) (by decide), ⟨(a2.ef (by decide)).trans m4.1, (a2.ef (by decide)).trans m4.2⟩, a3, a4, a5⟩
theorem m_good (m : MR h B n i) : f_X9_isGood 45 h = some (1, h) := by
  have X := m.1.1
  have m4 := m.2.1.1
  unfold f_X9_isGood
  simp (disch := (first | assumption | (simp only [FX_si, FX_sj, FX_sr, WX_si, WX_sj, WX_sr, FK_si, FK_sj, FK_sr]; assumption) | omega | decide)) only [m4, ↓reduceIte, if_true, if_false, i10, i01, eq_self, wq7, wq8, wq9, wq10, wrc, wgi, wpi, wpz, wn1, wn2, wn3, wn4, wr1, wr2, wr3, wr4, ww1, ww2, ww3, ww4, fgi, fgq, fpi, frc, at18, at19, at21, at22, at23, at24, at25, at26, at_neg, wat1, wat2, wat3, wat4, reduceCtorEq, bd_some, b1_some, b2_some, b3_some, b4_some, c1_eq, elim_inl, elim_inr, zok0, zok1, getQ_si, getQ_sj, getQ_sr, q8_0, q8_1, q8_2, q8_4, q8_7, q8_8, q8_9, q8_10, q8_11, q9_0, q9_3, q9_4, q9_8, q17_0, q17_1, q17_2, q17_4, q17_5, q17_6, q17_9, q17_10, q17_11, q27_4, q27_5, q27_6, q27_7, q27_8, q27_11, q45_0, q45_1, q45_11, q45_12, q45_13, q45_14, q45_15, q45_16, q45_17, q45_18, q45_19, q45_20, q45_21, q45_22, q45_23, q45_24, q45_30, q45_31, q45_32, q45_33, q45_34, q45_35, q45_36, q45_37, q45_38, q45_39, q45_43, q45_44, q45_45, q45_46, q45_47, q45_48, q45_52, q45_53, q45_54, q45_59, q45_60, q45_61, q45_62, q45_65, q45_67, q45_68, gi8, gj8, pi8, pz8, pj8, rc8, gi9, gj9, pi9, pz9, pj9, rc9, gi17, gj17, pi17, pz17, pj17, rc17, gi27, gj27, pi27, pz27, pj27, rc27, gi45, gj45, pi45, pz45, pj45, rc45, aln_si, aln_sj, aln_sq, rc_si, rc_sj, rc_sq, n0, n1, n10, n11, n12, n13, n14, n15, n16, n18, n19, n20, n21, n22, n23, n24, n25, n26, n29, n30, n31, n32, n33, n34, n35, n36, n37, n38, n39, n40, n42, n43, n44, n46, n47, n48, n49, n50, n51, n52, n53, n54, n55, n56, n57, n58, n59, n60, n61, n62, n63, n64, n65, n66, n67, n68, n69, n70, n71, n72, n73, n74, n75, n76, n77, n78, n79, n80, n81, n82, n83, n84, n85, n86, n87, r0, r1, r10, r11, r12, r13, r14, r15, r16, r18, r19, r20, r21, r22, r23, r24, r25, r26, r29, r30, r31, r32, r33, r34, r35, r36, r37, r38, r39, r40, r42, r43, r44, r46, r47, r48, r49, r50, r51, r52, r53, r54, r55, r56, r57, r58, r59, r60, r61, r62, r63, r64, r65, r66, r67, r68, r69, r70, r71, r72, r73, r74, r75, r76, r77, r78, r79, r80, r81, r82, r83, r84, r85, r86, r87, w10, w11, w12, w13, w18, w19, w20, w21, w22, w23, w24, w25, w26, w30, w31, w32, w33, w34, w35, w36, w38, w39, w40, w43, w44, w46, w47, w48, w49, w50, w51, w52, w53, w54, w55, w56, w57, w58, w59, w60, w61, w62, w63, w64, w65, w66, w67, w68, w69, w70, w71, w72, w73, w74, w75, w76, w77, w78, w79, w80, w81, w82, w83, w84, w85, w86, w87, hi_hit, hi_row, hi_col, hj_hit, hj_row, hj_col, hi_sj, hj_si, hq_si, hq_sj, hi_sq, hj_sq, hi_srh, hi_srm]
theorem m_bad {e : Nat × Nat} (m : MD h B n e) : f_X9_isGood 45 h = some (0, h) := by
  obtain ⟨l, m4, m5, m2, -⟩ := m
  have X := l.1
  have q := fk_ne (T := tT B n) m2
  unfold f_X9_isGood
  simp (disch := (first | assumption | (simp only [FX_si, FX_sj, FX_sr, WX_si, WX_sj, WX_sr, FK_si, FK_sj, FK_sr]; assumption) | omega | decide)) only [m4, q, ↓reduceIte, if_true, if_false, i10, i01, eq_self, wq7, wq8, wq9, wq10, wrc, wgi, wpi, wpz, wn1, wn2, wn3, wn4, wr1, wr2, wr3, wr4, ww1, ww2, ww3, ww4, fgi, fgq, fpi, frc, at18, at19, at21, at22, at23, at24, at25, at26, at_neg, wat1, wat2, wat3, wat4, reduceCtorEq, bd_some, b1_some, b2_some, b3_some, b4_some, c1_eq, elim_inl, elim_inr, zok0, zok1, getQ_si, getQ_sj, getQ_sr, q8_0, q8_1, q8_2, q8_4, q8_7, q8_8, q8_9, q8_10, q8_11, q9_0, q9_3, q9_4, q9_8, q17_0, q17_1, q17_2, q17_4, q17_5, q17_6, q17_9, q17_10, q17_11, q27_4, q27_5, q27_6, q27_7, q27_8, q27_11, q45_0, q45_1, q45_11, q45_12, q45_13, q45_14, q45_15, q45_16, q45_17, q45_18, q45_19, q45_20, q45_21, q45_22, q45_23, q45_24, q45_30, q45_31, q45_32, q45_33, q45_34, q45_35, q45_36, q45_37, q45_38, q45_39, q45_43, q45_44, q45_45, q45_46, q45_47, q45_48, q45_52, q45_53, q45_54, q45_59, q45_60, q45_61, q45_62, q45_65, q45_67, q45_68, gi8, gj8, pi8, pz8, pj8, rc8, gi9, gj9, pi9, pz9, pj9, rc9, gi17, gj17, pi17, pz17, pj17, rc17, gi27, gj27, pi27, pz27, pj27, rc27, gi45, gj45, pi45, pz45, pj45, rc45, aln_si, aln_sj, aln_sq, rc_si, rc_sj, rc_sq, n0, n1, n10, n11, n12, n13, n14, n15, n16, n18, n19, n20, n21, n22, n23, n24, n25, n26, n29, n30, n31, n32, n33, n34, n35, n36, n37, n38, n39, n40, n42, n43, n44, n46, n47, n48, n49, n50, n51, n52, n53, n54, n55, n56, n57, n58, n59, n60, n61, n62, n63, n64, n65, n66, n67, n68, n69, n70, n71, n72, n73, n74, n75, n76, n77, n78, n79, n80, n81, n82, n83, n84, n85, n86, n87, r0, r1, r10, r11, r12, r13, r14, r15, r16, r18, r19, r20, r21, r22, r23, r24, r25, r26, r29, r30, r31, r32, r33, r34, r35, r36, r37, r38, r39, r40, r42, r43, r44, r46, r47, r48, r49, r50, r51, r52, r53, r54, r55, r56, r57, r58, r59, r60, r61, r62, r63, r64, r65, r66, r67, r68, r69, r70, r71, r72, r73, r74, r75, r76, r77, r78, r79, r80, r81, r82, r83, r84, r85, r86, r87, w10, w11, w12, w13, w18, w19, w20, w21, w22, w23, w24, w25, w26, w30, w31, w32, w33, w34, w35, w36, w38, w39, w40, w43, w44, w46, w47, w48, w49, w50, w51, w52, w53, w54, w55, w56, w57, w58, w59, w60, w61, w62, w63, w64, w65, w66, w67, w68, w69, w70, w71, w72, w73, w74, w75, w76, w77, w78, w79, w80, w81, w82, w83, w84, w85, w86, w87, hi_hit, hi_row, hi_col, hj_hit, hj_row, hj_col, hi_sj, hj_si, hq_si, hq_sj, hi_sq, hj_sq, hi_srh, hi_srm]
theorem m_fails (m : MR h B n i) {w : Nat} (hw : w = 2 ∨ w = 4) {v : Int32} (hv : v = nI (fk (tT B n i) w)) : ∃ g, f_X9_fails 45 v (nI (tP B n i)) h = some g ∧ FrM [] [4, 5] h g ∧ MD g B n (i, w) := by
  obtain ⟨l, ⟨m4, -⟩, m6, m7, mt⟩ := m
  have X := l.1
  have n9 := l.2.1.1
  have t9 := tP_le (B := B) (n := n) i
  have fr : FrM [] [4, 5] h (si (si h 45 4 v) 45 5 (nI (tP B n i))) := (FrM.fld (by decide)).trans (FrM.fld (by decide))
  have q : (0 : Int32) ≤ 0 := Int32.le_refl _
  refine ⟨_, ?_, fr, l.fr fr (by decide) (by decide), ?_, hi_hit _ _ _, hw, _, by omega, (fr.ef (by decide)).trans m6⟩
  · unfold f_X9_fails
    simp (disch := (first | assumption | (simp only [FX_si, FX_sj, FX_sr, WX_si, WX_sj, WX_sr, FK_si, FK_sj, FK_sr]; assumption) | omega | decide)) only [m4, q, ↓reduceIte, if_true, if_false, i10, i01, eq_self, wq7, wq8, wq9, wq10, wrc, wgi, wpi, wpz, wn1, wn2, wn3, wn4, wr1, wr2, wr3, wr4, ww1, ww2, ww3, ww4, fgi, fgq, fpi, frc, at18, at19, at21, at22, at23, at24, at25, at26, at_neg, wat1, wat2, wat3, wat4, reduceCtorEq, bd_some, b1_some, b2_some, b3_some, b4_some, c1_eq, elim_inl, elim_inr, zok0, zok1, getQ_si, getQ_sj, getQ_sr, q8_0, q8_1, q8_2, q8_4, q8_7, q8_8, q8_9, q8_10, q8_11, q9_0, q9_3, q9_4, q9_8, q17_0, q17_1, q17_2, q17_4, q17_5, q17_6, q17_9, q17_10, q17_11, q27_4, q27_5, q27_6, q27_7, q27_8, q27_11, q45_0, q45_1, q45_11, q45_12, q45_13, q45_14, q45_15, q45_16, q45_17, q45_18, q45_19, q45_20, q45_21, q45_22, q45_23, q45_24, q45_30, q45_31, q45_32, q45_33, q45_34, q45_35, q45_36, q45_37, q45_38, q45_39, q45_43, q45_44, q45_45, q45_46, q45_47, q45_48, q45_52, q45_53, q45_54, q45_59, q45_60, q45_61, q45_62, q45_65, q45_67, q45_68, gi8, gj8, pi8, pz8, pj8, rc8, gi9, gj9, pi9, pz9, pj9, rc9, gi17, gj17, pi17, pz17, pj17, rc17, gi27, gj27, pi27, pz27, pj27, rc27, gi45, gj45, pi45, pz45, pj45, rc45, aln_si, aln_sj, aln_sq, rc_si, rc_sj, rc_sq, n0, n1, n10, n11, n12, n13, n14, n15, n16, n18, n19, n20, n21, n22, n23, n24, n25, n26, n29, n30, n31, n32, n33, n34, n35, n36, n37, n38, n39, n40, n42, n43, n44, n46, n47, n48, n49, n50, n51, n52, n53, n54, n55, n56, n57, n58, n59, n60, n61, n62, n63, n64, n65, n66, n67, n68, n69, n70, n71, n72, n73, n74, n75, n76, n77, n78, n79, n80, n81, n82, n83, n84, n85, n86, n87, r0, r1, r10, r11, r12, r13, r14, r15, r16, r18, r19, r20, r21, r22, r23, r24, r25, r26, r29, r30, r31, r32, r33, r34, r35, r36, r37, r38, r39, r40, r42, r43, r44, r46, r47, r48, r49, r50, r51, r52, r53, r54, r55, r56, r57, r58, r59, r60, r61, r62, r63, r64, r65, r66, r67, r68, r69, r70, r71, r72, r73, r74, r75, r76, r77, r78, r79, r80, r81, r82, r83, r84, r85, r86, r87, w10, w11, w12, w13, w18, w19, w20, w21, w22, w23, w24, w25, w26, w30, w31, w32, w33, w34, w35, w36, w38, w39, w40, w43, w44, w46, w47, w48, w49, w50, w51, w52, w53, w54, w55, w56, w57, w58, w59, w60, w61, w62, w63, w64, w65, w66, w67, w68, w69, w70, w71, w72, w73, w74, w75, w76, w77, w78, w79, w80, w81, w82, w83, w84, w85, w86, w87, hi_hit, hi_row, hi_col, hj_hit, hj_row, hj_col, hi_sj, hj_si, hq_si, hq_sj, hi_sq, hj_sq, hi_srh, hi_srm]
  · rw [hi_col _ _ (by decide), hi_hit, hv]
theorem MT.is1 {t a : Nat} {tok num : Int32} {nm : Int64} (m : MT B n t a tok num nm) : tok = 1 ↔ t = 26 := by
  rcases m with ⟨e, f⟩ | ⟨e, f⟩ | ⟨e, f, -⟩ | ⟨e, -, f, -⟩ | ⟨e, f, -⟩
  · rw [e, f]; decide
  · rw [e, f]; decide
  · rw [f]; exact ⟨fun z => absurd z (by decide), fun z => by omega⟩
  · rw [f]; exact ⟨fun z => absurd z (by decide), fun z => by omega⟩
  · rw [f]; exact ⟨fun z => absurd z (by decide), fun z => by rw [z] at e; exact absurd e (by decide)⟩
theorem MT.is0 {t a : Nat} {tok num : Int32} {nm : Int64} (m : MT B n t a tok num nm) : tok = 0 ↔ t = 25 := by
  rcases m with ⟨e, f⟩ | ⟨e, f⟩ | ⟨e, f, -⟩ | ⟨e, -, f, -⟩ | ⟨e, f, -⟩
  · rw [e, f]; decide
  · rw [e, f]; decide
  · rw [f]; exact ⟨fun z => absurd z (by decide), fun z => by omega⟩
  · rw [f]; exact ⟨fun z => absurd z (by decide), fun z => by omega⟩
  · rw [f]; exact ⟨fun z => absurd z (by decide), fun z => by rw [z] at e; exact absurd e (by decide)⟩
theorem MT.is3 {t a : Nat} {tok num : Int32} {nm : Int64} (m : MT B n t a tok num nm) : (tok = 3 ↔ 1000 ≤ t) ∧ (1000 ≤ t → num = nI (t - 1000)) := by
  rcases m with ⟨e, f⟩ | ⟨e, f⟩ | ⟨e, f, -⟩ | ⟨e, -, f, g⟩ | ⟨e, f, -⟩
  · rw [e, f]; exact ⟨by decide, fun z => by omega⟩
  · rw [e, f]; exact ⟨by decide, fun z => by omega⟩
  · rw [f]; exact ⟨⟨fun z => absurd z (by decide), fun z => by omega⟩, fun z => by omega⟩
  · rw [f]; exact ⟨⟨fun _ => e, fun _ => rfl⟩, fun _ => g⟩
  · have := isS_iff.mp e
    rw [f]; exact ⟨⟨fun z => absurd z (by decide), fun z => by omega⟩, fun z => by omega⟩
theorem m_wrong (m : MR h B n i) : ∃ g, f_X9_wrong 45 h = some g ∧ FrM [] [4, 5] h g ∧ MD g B n (i, 2) := by
  have X := m.1.1
  have m6 := m.2.2.1
  have q := m.2.2.2.2.is1
  by_cases c : tT B n i = 26
  · obtain ⟨g, a1, a2, a3⟩ := m_fails m (w := 2) (Or.inl rfl) (v := 1) (by unfold fk; rw [if_pos c]; rfl)
    have q' := q.mpr c
    refine ⟨g, ?_, a2, a3⟩
    unfold f_X9_wrong
    simp (disch := (first | assumption | (simp only [FX_si, FX_sj, FX_sr, WX_si, WX_sj, WX_sr, FK_si, FK_sj, FK_sr]; assumption) | omega | decide)) only [q', m6, a1, ↓reduceIte, if_true, if_false, i10, i01, eq_self, wq7, wq8, wq9, wq10, wrc, wgi, wpi, wpz, wn1, wn2, wn3, wn4, wr1, wr2, wr3, wr4, ww1, ww2, ww3, ww4, fgi, fgq, fpi, frc, at18, at19, at21, at22, at23, at24, at25, at26, at_neg, wat1, wat2, wat3, wat4, reduceCtorEq, bd_some, b1_some, b2_some, b3_some, b4_some, c1_eq, elim_inl, elim_inr, zok0, zok1, getQ_si, getQ_sj, getQ_sr, q8_0, q8_1, q8_2, q8_4, q8_7, q8_8, q8_9, q8_10, q8_11, q9_0, q9_3, q9_4, q9_8, q17_0, q17_1, q17_2, q17_4, q17_5, q17_6, q17_9, q17_10, q17_11, q27_4, q27_5, q27_6, q27_7, q27_8, q27_11, q45_0, q45_1, q45_11, q45_12, q45_13, q45_14, q45_15, q45_16, q45_17, q45_18, q45_19, q45_20, q45_21, q45_22, q45_23, q45_24, q45_30, q45_31, q45_32, q45_33, q45_34, q45_35, q45_36, q45_37, q45_38, q45_39, q45_43, q45_44, q45_45, q45_46, q45_47, q45_48, q45_52, q45_53, q45_54, q45_59, q45_60, q45_61, q45_62, q45_65, q45_67, q45_68, gi8, gj8, pi8, pz8, pj8, rc8, gi9, gj9, pi9, pz9, pj9, rc9, gi17, gj17, pi17, pz17, pj17, rc17, gi27, gj27, pi27, pz27, pj27, rc27, gi45, gj45, pi45, pz45, pj45, rc45, aln_si, aln_sj, aln_sq, rc_si, rc_sj, rc_sq, n0, n1, n10, n11, n12, n13, n14, n15, n16, n18, n19, n20, n21, n22, n23, n24, n25, n26, n29, n30, n31, n32, n33, n34, n35, n36, n37, n38, n39, n40, n42, n43, n44, n46, n47, n48, n49, n50, n51, n52, n53, n54, n55, n56, n57, n58, n59, n60, n61, n62, n63, n64, n65, n66, n67, n68, n69, n70, n71, n72, n73, n74, n75, n76, n77, n78, n79, n80, n81, n82, n83, n84, n85, n86, n87, r0, r1, r10, r11, r12, r13, r14, r15, r16, r18, r19, r20, r21, r22, r23, r24, r25, r26, r29, r30, r31, r32, r33, r34, r35, r36, r37, r38, r39, r40, r42, r43, r44, r46, r47, r48, r49, r50, r51, r52, r53, r54, r55, r56, r57, r58, r59, r60, r61, r62, r63, r64, r65, r66, r67, r68, r69, r70, r71, r72, r73, r74, r75, r76, r77, r78, r79, r80, r81, r82, r83, r84, r85, r86, r87, w10, w11, w12, w13, w18, w19, w20, w21, w22, w23, w24, w25, w26, w30, w31, w32, w33, w34, w35, w36, w38, w39, w40, w43, w44, w46, w47, w48, w49, w50, w51, w52, w53, w54, w55, w56, w57, w58, w59, w60, w61, w62, w63, w64, w65, w66, w67, w68, w69, w70, w71, w72, w73, w74, w75, w76, w77, w78, w79, w80, w81, w82, w83, w84, w85, w86, w87, hi_hit, hi_row, hi_col, hj_hit, hj_row, hj_col, hi_sj, hj_si, hq_si, hq_sj, hi_sq, hj_sq, hi_srh, hi_srm]
  · obtain ⟨g, a1, a2, a3⟩ := m_fails m (w := 2) (Or.inl rfl) (v := 2) (by unfold fk; rw [if_neg c]; rfl)
    have q' : ¬ hi h 45 8 = 1 := fun z => c (q.mp z)
    refine ⟨g, ?_, a2, a3⟩
    unfold f_X9_wrong
    simp (disch := (first | assumption | (simp only [FX_si, FX_sj, FX_sr, WX_si, WX_sj, WX_sr, FK_si, FK_sj, FK_sr]; assumption) | omega | decide)) only [q', m6, a1, ↓reduceIte, if_true, if_false, i10, i01, eq_self, wq7, wq8, wq9, wq10, wrc, wgi, wpi, wpz, wn1, wn2, wn3, wn4, wr1, wr2, wr3, wr4, ww1, ww2, ww3, ww4, fgi, fgq, fpi, frc, at18, at19, at21, at22, at23, at24, at25, at26, at_neg, wat1, wat2, wat3, wat4, reduceCtorEq, bd_some, b1_some, b2_some, b3_some, b4_some, c1_eq, elim_inl, elim_inr, zok0, zok1, getQ_si, getQ_sj, getQ_sr, q8_0, q8_1, q8_2, q8_4, q8_7, q8_8, q8_9, q8_10, q8_11, q9_0, q9_3, q9_4, q9_8, q17_0, q17_1, q17_2, q17_4, q17_5, q17_6, q17_9, q17_10, q17_11, q27_4, q27_5, q27_6, q27_7, q27_8, q27_11, q45_0, q45_1, q45_11, q45_12, q45_13, q45_14, q45_15, q45_16, q45_17, q45_18, q45_19, q45_20, q45_21, q45_22, q45_23, q45_24, q45_30, q45_31, q45_32, q45_33, q45_34, q45_35, q45_36, q45_37, q45_38, q45_39, q45_43, q45_44, q45_45, q45_46, q45_47, q45_48, q45_52, q45_53, q45_54, q45_59, q45_60, q45_61, q45_62, q45_65, q45_67, q45_68, gi8, gj8, pi8, pz8, pj8, rc8, gi9, gj9, pi9, pz9, pj9, rc9, gi17, gj17, pi17, pz17, pj17, rc17, gi27, gj27, pi27, pz27, pj27, rc27, gi45, gj45, pi45, pz45, pj45, rc45, aln_si, aln_sj, aln_sq, rc_si, rc_sj, rc_sq, n0, n1, n10, n11, n12, n13, n14, n15, n16, n18, n19, n20, n21, n22, n23, n24, n25, n26, n29, n30, n31, n32, n33, n34, n35, n36, n37, n38, n39, n40, n42, n43, n44, n46, n47, n48, n49, n50, n51, n52, n53, n54, n55, n56, n57, n58, n59, n60, n61, n62, n63, n64, n65, n66, n67, n68, n69, n70, n71, n72, n73, n74, n75, n76, n77, n78, n79, n80, n81, n82, n83, n84, n85, n86, n87, r0, r1, r10, r11, r12, r13, r14, r15, r16, r18, r19, r20, r21, r22, r23, r24, r25, r26, r29, r30, r31, r32, r33, r34, r35, r36, r37, r38, r39, r40, r42, r43, r44, r46, r47, r48, r49, r50, r51, r52, r53, r54, r55, r56, r57, r58, r59, r60, r61, r62, r63, r64, r65, r66, r67, r68, r69, r70, r71, r72, r73, r74, r75, r76, r77, r78, r79, r80, r81, r82, r83, r84, r85, r86, r87, w10, w11, w12, w13, w18, w19, w20, w21, w22, w23, w24, w25, w26, w30, w31, w32, w33, w34, w35, w36, w38, w39, w40, w43, w44, w46, w47, w48, w49, w50, w51, w52, w53, w54, w55, w56, w57, w58, w59, w60, w61, w62, w63, w64, w65, w66, w67, w68, w69, w70, w71, w72, w73, w74, w75, w76, w77, w78, w79, w80, w81, w82, w83, w84, w85, w86, w87, hi_hit, hi_row, hi_col, hj_hit, hj_row, hj_col, hi_sj, hj_si, hq_si, hq_sj, hi_sq, hj_sq, hi_srh, hi_srm]
theorem m_must1 (m : MR h B n i) {v : Int32} (hv : v = 1) : ∃ g, f_X9_must 45 v h = some g ∧ FrM [] BN h g ∧ MR g B n (i + 1) := by
  obtain ⟨g, a1, a2, a3⟩ := m_nextT m
  refine ⟨g, ?_, a2, a3⟩
  unfold f_X9_must
  rw [rc45 m.1.1, bd_some, m_good m, b1_some, if_neg (by decide), hv, if_neg (by decide), rc45 m.1.1, bd_some, a1, bd_some, bd_some]
theorem m_must0 (m : MR h B n i) {v : Int32} (hv : v = 0) : ∃ g, f_X9_must 45 v h = some g ∧ FrM [] [4, 5] h g ∧ MD g B n (i, 2) := by
  obtain ⟨g, a1, a2, a3⟩ := m_wrong m
  refine ⟨g, ?_, a2, a3⟩
  unfold f_X9_must
  rw [rc45 m.1.1, bd_some, m_good m, b1_some, if_neg (by decide), hv, if_pos rfl, rc45 m.1.1, bd_some, a1, bd_some, bd_some]
theorem m_mustD {e : Nat × Nat} (m : MD h B n e) (v : Int32) : f_X9_must 45 v h = some h := by
  unfold f_X9_must
  rw [rc45 m.1.1, bd_some, m_bad m, b1_some, if_pos rfl]
theorem m_isWord (m : MR h B n i) {w : Nat} (hw : w < 24) {W : Int64} (hW : W = lN (wNm w)) : f_X9_isWord 45 W h = some (if tT B n i = w then 1 else 0, h) := by
  have X := m.1.1
  have mt := m.2.2.2.2
  unfold f_X9_isWord
  rw [gi45 X, bd_some]
  by_cases c : tT B n i ≤ 24
  · have c2 : hi h 45 8 = 2 ∧ ∃ V, V < 2 ^ 63 ∧ tkw V = tT B n i ∧ hj h 45 10 = lN V := by
      rcases mt with ⟨e, f⟩ | ⟨e, f⟩ | ⟨e, f, g⟩ | ⟨e, -⟩ | ⟨e, f⟩
      · omega
      · omega
      · exact ⟨f, g⟩
      · omega
      · have := isS_iff.mp e; omega
    obtain ⟨e8, V, v1, v2, v3⟩ := c2
    rw [if_pos e8, gj45 X, bd_some, v3, hW]
    have q : lg_cmp (lN V) (lN (wNm w)) = 0 ↔ tT B n i = w := by
      rw [lgc_eq, pk_lEQ v1 (wNm_lt w hw), ← v2, tkw_iff hw]
    by_cases c3 : tT B n i = w
    · rw [if_pos (q.mpr c3), if_pos c3, b1_some, zok1, bd_some]
    · rw [if_neg (fun z => c3 (q.mp z)), if_neg c3, b1_some, zok0, bd_some]
  · have c2 : ¬ hi h 45 8 = 2 := by
      rcases mt with ⟨e, f⟩ | ⟨e, f⟩ | ⟨e, f, g⟩ | ⟨e, -, f, -⟩ | ⟨e, f, -⟩
      · rw [f]; decide
      · rw [f]; decide
      · omega
      · rw [f]; decide
      · rw [f]; decide
    rw [if_neg c2, if_neg (show ¬ tT B n i = w by omega), b1_some, zok0, bd_some]
theorem m_is (m : MR h B n i) {c : Nat} (hc : isS c = true) {v : Int32} (hv : v = nI c) : f_X9_is 45 v h = some (if tT B n i = c then 1 else 0, h) := by
  have X := m.1.1
  have mt := m.2.2.2.2
  have m6 := m.2.2.1
  have n9 := m.1.2.1.1
  have c256 : c < 256 := by have := isS_iff.mp hc; omega
  unfold f_X9_is
  rw [gi45 X, bd_some]
  by_cases c1 : isS (tT B n i) = true
  · have c2 : hi h 45 8 = 4 ∧ tP B n i < n ∧ B (tP B n i) = tT B n i := by
      have := isS_iff.mp c1
      rcases mt with ⟨e, f⟩ | ⟨e, f⟩ | ⟨e, f, g⟩ | ⟨e, -⟩ | ⟨e, f⟩
      · omega
      · omega
      · omega
      · omega
      · exact f
    obtain ⟨e8, e1, e2⟩ := c2
    have lt := isS_iff.mp c1
    rw [if_pos e8, gi45 X, bd_some, m6, rc45 X, bd_some, m_sign m.1 (by omega), b1_some, if_pos e1, e2, hv]
    by_cases c3 : tT B n i = c
    · rw [if_pos (by rw [c3]), if_pos c3, b1_some, zok1, bd_some]
    · rw [if_neg (fun z => c3 ((nI_eq (by omega) (by omega)).mp z)), if_neg c3, b1_some, zok0, bd_some]
  · have c2 : ¬ hi h 45 8 = 4 := by
      rcases mt with ⟨e, f⟩ | ⟨e, f⟩ | ⟨e, f, g⟩ | ⟨e, -, f, -⟩ | ⟨e, f, -⟩
      · rw [f]; decide
      · rw [f]; decide
      · rw [f]; decide
      · rw [f]; decide
      · exact absurd e c1
    rw [if_neg c2, if_neg (show ¬ tT B n i = c from fun z => c1 (by rw [z]; exact hc)), b1_some, zok0, bd_some]
/-- the words' numbers, written out -/
theorem wd_tab : lN (wNm 0) = 109330362692723 ∧ lN (wNm 1) = 435627783289 ∧ lN (wNm 2) = 512802253683 ∧ lN (wNm 3) = 1650549611 ∧ lN (wNm 4) = 1684109683 ∧ lN (wNm 5) = 426952976750 ∧ lN (wNm 6) = 1818326117 ∧ lN (wNm 7) = 1937010544 ∧ lN (wNm 8) = 7597137600480375668 ∧ lN (wNm 9) = 2003330414 ∧ lN (wNm 10) = 28530 ∧ lN (wNm 11) = 6385252 ∧ lN (wNm 12) = 7237492 := by decide +kernel
theorem wd_tab2 : lN (wNm 13) = 1650553701 ∧ lN (wNm 14) = 8031718527715601765 ∧ lN (wNm 15) = 495555732851 ∧ lN (wNm 16) = 128034610242924 ∧ lN (wNm 17) = 422776305011 ∧ lN (wNm 18) = 448546566771 ∧ lN (wNm 19) = 500086104428 ∧ lN (wNm 20) = 2003133803 ∧ lN (wNm 21) = 482854658917 ∧ lN (wNm 22) = 1952805485 ∧ lN (wNm 23) = 448310438260 := by decide +kernel
theorem m_kind (m : MR h B n i) : f_X9_kindHere 45 h = some (if 13 ≤ tT B n i ∧ tT B n i ≤ 17 then nI (tT B n i - 13) else -1, h) := by
  have X := m.1.1
  obtain ⟨t13, t14, t15, t16, t17, -⟩ := wd_tab2
  have w13 := m_isWord m (w := 13) (by decide) t13.symm
  have w14 := m_isWord m (w := 14) (by decide) t14.symm
  have w15 := m_isWord m (w := 15) (by decide) t15.symm
  have w16 := m_isWord m (w := 16) (by decide) t16.symm
  have w17 := m_isWord m (w := 17) (by decide) t17.symm
  unfold f_X9_kindHere
  rw [rc45 X, bd_some, w13, b1_some]
  by_cases c13 : tT B n i = 13
  · rw [if_pos c13, if_neg (by decide), b1_some, if_pos (by omega), c13]; rfl
  · rw [if_neg c13, if_pos rfl, rc45 X, bd_some, w14, b1_some]
    by_cases c14 : tT B n i = 14
    · rw [if_pos c14, if_neg (by decide), b1_some, if_pos (by omega), c14]; rfl
    · rw [if_neg c14, if_pos rfl, rc45 X, bd_some, w15, b1_some]
      by_cases c15 : tT B n i = 15
      · rw [if_pos c15, if_neg (by decide), b1_some, if_pos (by omega), c15]; rfl
      · rw [if_neg c15, if_pos rfl, rc45 X, bd_some, w16, b1_some]
        by_cases c16 : tT B n i = 16
        · rw [if_pos c16, if_neg (by decide), b1_some, if_pos (by omega), c16]; rfl
        · rw [if_neg c16, if_pos rfl, rc45 X, bd_some, w17, b1_some]
          by_cases c17 : tT B n i = 17
          · rw [if_pos c17, if_neg (by decide), b1_some, if_pos (by omega), c17]; rfl
          · rw [if_neg c17, if_pos rfl, b1_some, if_neg (by omega)]
theorem m_number (m : MR h B n i) : f_X9_numberHere 45 h = some (if 2 ≤ tT B n i ∧ tT B n i ≤ 8 then nI (tT B n i - 2) else -1, h) := by
  have X := m.1.1
  obtain ⟨-, -, t2, t3, t4, t5, t6, t7, t8, -⟩ := wd_tab
  have w2 := m_isWord m (w := 2) (by decide) t2.symm
  have w3 := m_isWord m (w := 3) (by decide) t3.symm
  have w4 := m_isWord m (w := 4) (by decide) t4.symm
  have w5 := m_isWord m (w := 5) (by decide) t5.symm
  have w6 := m_isWord m (w := 6) (by decide) t6.symm
  have w7 := m_isWord m (w := 7) (by decide) t7.symm
  have w8 := m_isWord m (w := 8) (by decide) t8.symm
  unfold f_X9_numberHere
  rw [rc45 X, bd_some, w2, b1_some]
  by_cases c2 : tT B n i = 2
  · rw [if_pos c2, if_neg (by decide), b1_some, if_pos (by omega), c2]; rfl
  · rw [if_neg c2, if_pos rfl, rc45 X, bd_some, w3, b1_some]
    by_cases c3 : tT B n i = 3
    · rw [if_pos c3, if_neg (by decide), b1_some, if_pos (by omega), c3]; rfl
    · rw [if_neg c3, if_pos rfl, rc45 X, bd_some, w4, b1_some]
      by_cases c4 : tT B n i = 4
      · rw [if_pos c4, if_neg (by decide), b1_some, if_pos (by omega), c4]; rfl
      · rw [if_neg c4, if_pos rfl, rc45 X, bd_some, w5, b1_some]
        by_cases c5 : tT B n i = 5
        · rw [if_pos c5, if_neg (by decide), b1_some, if_pos (by omega), c5]; rfl
        · rw [if_neg c5, if_pos rfl, rc45 X, bd_some, w6, b1_some]
          by_cases c6 : tT B n i = 6
          · rw [if_pos c6, if_neg (by decide), b1_some, if_pos (by omega), c6]; rfl
          · rw [if_neg c6, if_pos rfl, rc45 X, bd_some, w7, b1_some]
            by_cases c7 : tT B n i = 7
            · rw [if_pos c7, if_neg (by decide), b1_some, if_pos (by omega), c7]; rfl
            · rw [if_neg c7, if_pos rfl, rc45 X, bd_some, w8, b1_some]
              by_cases c8 : tT B n i = 8
              · rw [if_pos c8, if_neg (by decide), b1_some, if_pos (by omega), c8]; rfl
              · rw [if_neg c8, if_pos rfl, b1_some, if_neg (by omega)]
/-- the model's letter for a word that is a unit -/
def wdc (t : Nat) : Int32 := if 13 ≤ t ∧ t ≤ 17 then 107 else if t = 18 then 104 else if t = 19 then 116 else if t = 20 then 119 else if t = 21 then 112 else if t = 22 then 114 else if t = 23 then 98 else 0
theorem m_word (m : MR h B n i) : f_X9_wordHere 45 h = some (wdc (tT B n i), h) := by
  have X := m.1.1
  obtain ⟨-, -, -, -, -, t18, t19, t20, t21, t22, t23⟩ := wd_tab2
  have w18 := m_isWord m (w := 18) (by decide) t18.symm
  have w19 := m_isWord m (w := 19) (by decide) t19.symm
  have w20 := m_isWord m (w := 20) (by decide) t20.symm
  have w21 := m_isWord m (w := 21) (by decide) t21.symm
  have w22 := m_isWord m (w := 22) (by decide) t22.symm
  have w23 := m_isWord m (w := 23) (by decide) t23.symm
  unfold f_X9_wordHere wdc
  rw [rc45 X, bd_some, m_kind m, b1_some]
  by_cases ck : 13 ≤ tT B n i ∧ tT B n i ≤ 17
  · rw [if_pos ck, if_pos ck, if_neg (nI_pos (by omega))]
  · rw [if_neg ck, if_neg ck, if_pos (by decide), rc45 X, bd_some, w18, b1_some]
    by_cases c18 : tT B n i = 18
    · rw [if_pos c18, if_pos c18, if_neg (by decide)]
    · rw [if_neg c18, if_neg c18, if_pos rfl, rc45 X, bd_some, w19, b1_some]
      by_cases c19 : tT B n i = 19
      · rw [if_pos c19, if_pos c19, if_neg (by decide)]
      · rw [if_neg c19, if_neg c19, if_pos rfl, rc45 X, bd_some, w20, b1_some]
        by_cases c20 : tT B n i = 20
        · rw [if_pos c20, if_pos c20, if_neg (by decide)]
        · rw [if_neg c20, if_neg c20, if_pos rfl, rc45 X, bd_some, w21, b1_some]
          by_cases c21 : tT B n i = 21
          · rw [if_pos c21, if_pos c21, if_neg (by decide)]
          · rw [if_neg c21, if_neg c21, if_pos rfl, rc45 X, bd_some, w22, b1_some]
            by_cases c22 : tT B n i = 22
            · rw [if_pos c22, if_pos c22, if_neg (by decide)]
            · rw [if_neg c22, if_neg c22, if_pos rfl, rc45 X, bd_some, w23, b1_some]
              by_cases c23 : tT B n i = 23
              · rw [if_pos c23, if_pos c23, if_neg (by decide), b1_some]
              · rw [if_neg c23, if_neg c23, if_pos rfl, b1_some]
/-- the model's rank of a token that joins -/
def rkO (t : Nat) : Nat := if t = 11 then 2 else if t = 10 then 1 else if t = 60 then 4 else if t = 62 then 4 else if t = 61 then 4 else if t = 43 then 5 else if t = 45 then 5 else if t = 42 then 6 else if t = 47 then 6 else 0
theorem m_rank (m : MR h B n i) : f_X9_rankHere 45 h = some (nI (rkO (tT B n i)), h) := by
  have X := m.1.1
  obtain ⟨-, -, -, -, -, -, -, -, -, -, t10, t11, -⟩ := wd_tab
  have w11 := m_isWord m (w := 11) (by decide) t11.symm
  have w10 := m_isWord m (w := 10) (by decide) t10.symm
  have s60 := m_is m (c := 60) (by decide) (v := 60) rfl
  have s62 := m_is m (c := 62) (by decide) (v := 62) rfl
  have s61 := m_is m (c := 61) (by decide) (v := 61) rfl
  have s43 := m_is m (c := 43) (by decide) (v := 43) rfl
  have s45 := m_is m (c := 45) (by decide) (v := 45) rfl
  have s42 := m_is m (c := 42) (by decide) (v := 42) rfl
  have s47 := m_is m (c := 47) (by decide) (v := 47) rfl
  unfold f_X9_rankHere rkO
  rw [rc45 X, bd_some, w11, b1_some]
  by_cases c11 : tT B n i = 11
  · rw [if_pos c11, if_pos c11, if_neg (by decide)]; rfl
  · rw [if_neg c11, if_neg c11, if_pos rfl, rc45 X, bd_some, w10, b1_some]
    by_cases c10 : tT B n i = 10
    · rw [if_pos c10, if_pos c10, if_neg (by decide)]; rfl
    · rw [if_neg c10, if_neg c10, if_pos rfl, rc45 X, bd_some, s60, b1_some]
      by_cases c60 : tT B n i = 60
      · rw [if_pos c60, if_pos c60, if_neg (by decide)]; rfl
      · rw [if_neg c60, if_neg c60, if_pos rfl, rc45 X, bd_some, s62, b1_some]
        by_cases c62 : tT B n i = 62
        · rw [if_pos c62, if_pos c62, if_neg (by decide)]; rfl
        · rw [if_neg c62, if_neg c62, if_pos rfl, rc45 X, bd_some, s61, b1_some]
          by_cases c61 : tT B n i = 61
          · rw [if_pos c61, if_pos c61, if_neg (by decide)]; rfl
          · rw [if_neg c61, if_neg c61, if_pos rfl, rc45 X, bd_some, s43, b1_some]
            by_cases c43 : tT B n i = 43
            · rw [if_pos c43, if_pos c43, if_neg (by decide)]; rfl
            · rw [if_neg c43, if_neg c43, if_pos rfl, rc45 X, bd_some, s45, b1_some]
              by_cases c45 : tT B n i = 45
              · rw [if_pos c45, if_pos c45, if_neg (by decide)]; rfl
              · rw [if_neg c45, if_neg c45, if_pos rfl, rc45 X, bd_some, s42, b1_some]
                by_cases c42 : tT B n i = 42
                · rw [if_pos c42, if_pos c42, if_neg (by decide), b1_some]; rfl
                · rw [if_neg c42, if_neg c42, if_pos rfl, rc45 X, bd_some, s47, b1_some]
                  by_cases c47 : tT B n i = 47
                  · rw [if_pos c47, if_pos c47, if_neg (by decide), b1_some]; rfl
                  · rw [if_neg c47, if_neg c47, if_pos rfl, b1_some]; rfl
end Mb
theorem rkO_lv (t : Nat) : (lvO t = 0 ∧ rkO t = 1) ∨ (lvO t = 1 ∧ rkO t = 2) ∨ (lvO t = 2 ∧ rkO t = 4) ∨ (lvO t = 3 ∧ rkO t = 5) ∨ (lvO t = 4 ∧ rkO t = 6) ∨ (lvO t = 9 ∧ rkO t = 0) := by
  by_cases q : lvO t < 5
  · rcases lvO_lt q with ⟨-, r⟩ | ⟨-, r⟩ | ⟨-, r | r | r⟩ | ⟨-, r | r⟩ | ⟨-, r | r⟩ <;> subst r <;> decide
  · have q' : ¬ (t = 10 ∨ t = 11 ∨ t = 42 ∨ t = 43 ∨ t = 45 ∨ t = 47 ∨ t = 60 ∨ t = 61 ∨ t = 62) := fun z => q (by
      rcases z with r | r | r | r | r | r | r | r | r <;> subst r <;> decide)
    unfold lvO rkO
    rw [if_neg (by omega), if_neg (by omega), if_neg (by omega), if_neg (by omega), if_neg (by omega), if_neg (by omega), if_neg (by omega), if_neg (by omega), if_neg (by omega), if_neg (by omega), if_neg (by omega), if_neg (by omega), if_neg (by omega), if_neg (by omega)]
    simp
