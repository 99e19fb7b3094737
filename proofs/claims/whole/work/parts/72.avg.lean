/-! Averages: the class's and the model's. -/
section Av
variable (pd : Nat → Nat → Int32) (pl tm : Int32) (A : Ac) (lo top : Nat)
/-- from week w downwards: the sum, how many, their marks -/
def avS : Nat → Int32 × Nat × Nat → Int32 × Nat × Nat
  | 0, s => s
  | w + 1, s => if w < lo ∨ top ≤ s.2.1 then s else avS w (if empW pd pl tm A w = true then s else (s.1 + cntW pd pl tm A w, s.2.1 + 1, s.2.2 ||| mkwW pd pl tm A w))
end Av
/-- of a day's week: the sum, how many, their marks; the average -/
def AVR (pd : Nat → Nat → Int32) (pl tm : Int32) (A : Ac) (d : Nat) : Int32 × Nat × Nat := avS pd pl tm A (d - (A.1 1).toNatClampNeg) (A.1 0).toNatClampNeg d (0, 0, 0)
def AVG (pd : Nat → Nat → Int32) (pl tm : Int32) (A : Ac) (d : Nat) : Int32 := if (AVR pd pl tm A d).2.1 = 0 then 0 else (AVR pd pl tm A d).1 / nI (AVR pd pl tm A d).2.1
def wI (w : Nat) : Int32 := nI w - 1
theorem wI_s (m : Nat) : wI (m + 1) = nI m := nI_pred m
theorem wI_m (m : Nat) : nI m + (-1) = wI m := (Int32.sub_eq_add_neg _ _).symm
section Sb
variable {P : Nat → Prop} {g : Hp} {b : Nat} {A : Ac} {pd : Nat → Nat → Int32} {pl tm : Int32} {u : Nat}
theorem SHT.mk' (hP : ∀ x, P x → OKA x) {g' : Hp} (S : SHT P g b A pd pl tm) {L : List Nat} {B : List (Nat × Nat)} (fr : Fr L B g g') (hL : ∀ x ∈ L, 33 ≤ x ∧ x ≤ 36) (hB : ∀ p ∈ B, p.1 = 27 ∧ 9 ≤ p.2)
    (c : ∀ u, u < 104 → (hi g' 33 u = -1 ∨ hi g' 33 u = cntW pd pl tm A u ∧ hi g' 35 u = nI (mkwW pd pl tm A u)) ∧ (hi g' 34 u = -1 ∨ hi g' 34 u = if empW pd pl tm A u = true then 1 else 0)) : SHT P g' b A pd pl tm := by
  obtain ⟨S1, S2, S3, S4, -⟩ := S
  have k32 : ∀ j, hi g' 32 j = hi g 32 j := fun j => fr.ef (fun q => by have := hL _ q; omega) (fun q => by have := (hB _ q).1; simp only at this; omega)
  have k27 : ∀ j, j < 9 → hi g' 27 j = hi g 27 j := fun j hj => fr.ef (fun q => by have := hL _ q; omega) (fun q => by have := (hB _ q).2; simp only at this; omega)
  refine ⟨fr.fx S1, by rw [fr.2.1]; exact S2, S3.kp (KP_fr fr (fun x hx q => ?_) (fun p hp => Or.inl fun q => ?_)), ⟨fun i u hi' hu => by rw [k32]; exact S4.1 i u hi' hu, by rw [k27 2 (by decide)]; exact S4.2.1, by rw [k27 3 (by decide)]; exact S4.2.2⟩, c⟩
  · have := hP x q
    have := hL x hx
    unfold OKA at *
    omega
  · have := hP _ q
    rw [(hB p hp).1] at this
    unfold OKA at this
    omega
theorem c_countIn (hP : ∀ x, P x → OKA x) (S : SHT P g b A pd pl tm) (ok : AOK A) (hu : u < 104) (hpos : ∀ i, i < 5 → 0 ≤ pd i u) :
    ∃ g', f_X4_countIn 27 (nI u) g = some (cntW pd pl tm A u, g') ∧ Fr [33, 35, 36] [] g g' ∧ SHT P g' b A pd pl tm ∧ hi g' 35 u = nI (mkwW pd pl tm A u) := by
  have X := S.1
  have ew := c_isWeek hu g
  by_cases c : hi g 33 u = -1
  · obtain ⟨⟨x, y, g1⟩, a1, a2, a3, a4⟩ := c_countL hP S ok hu hpos
    simp only at a2 a3 a4
    subst a2
    subst a3
    have X1 := a4.fx X
    have fr : Fr [33, 35, 36] [] g (si (si g1 33 u (cntW pd pl tm A u)) 35 u (nI (mkwW pd pl tm A u))) := ((a4.wk (by decide) (by decide)).trans (Fr.row (by decide))).trans (Fr.row (by decide))
    refine ⟨_, ?_, fr, S.mk' hP fr (by simp) (by simp) (fun v hv => ?_), hi_hit _ _ _⟩
    · unfold f_X4_countIn
      simp (disch := (first | assumption | (simp only [FX_si, FX_sj, FX_sr, WX_si, WX_sj, WX_sr, FK_si, FK_sj, FK_sr]; assumption) | omega | decide)) only [ew, c, a1, ↓reduceIte, if_true, if_false, i10, i01, eq_self, wq7, wq8, wq9, wq10, wrc, wgi, wpi, wpz, wn1, wn2, wn3, wn4, wr1, wr2, wr3, wr4, ww1, ww2, ww3, ww4, fgi, fgq, fpi, frc, at18, at19, at21, at22, at23, at24, at25, at26, at_neg, wat1, wat2, wat3, wat4, reduceCtorEq, bd_some, b1_some, b2_some, b3_some, b4_some, c1_eq, elim_inl, elim_inr, zok0, zok1, getQ_si, getQ_sj, getQ_sr, q8_0, q8_1, q8_2, q8_4, q8_7, q8_8, q8_9, q8_10, q8_11, q9_0, q9_3, q9_4, q9_8, q17_0, q17_1, q17_2, q17_4, q17_5, q17_6, q17_9, q17_10, q17_11, q27_4, q27_5, q27_6, q27_7, q27_8, q27_11, q45_0, q45_1, q45_11, q45_12, q45_13, q45_14, q45_15, q45_16, q45_17, q45_18, q45_19, q45_20, q45_21, q45_22, q45_23, q45_24, q45_30, q45_31, q45_32, q45_33, q45_34, q45_35, q45_36, q45_37, q45_38, q45_39, q45_43, q45_44, q45_45, q45_46, q45_47, q45_48, q45_52, q45_53, q45_54, q45_59, q45_60, q45_61, q45_62, q45_65, q45_67, q45_68, gi8, gj8, pi8, pz8, pj8, rc8, gi9, gj9, pi9, pz9, pj9, rc9, gi17, gj17, pi17, pz17, pj17, rc17, gi27, gj27, pi27, pz27, pj27, rc27, gi45, gj45, pi45, pz45, pj45, rc45, aln_si, aln_sj, aln_sq, rc_si, rc_sj, rc_sq, n0, n1, n10, n11, n12, n13, n14, n15, n16, n18, n19, n20, n21, n22, n23, n24, n25, n26, n29, n30, n31, n32, n33, n34, n35, n36, n37, n38, n39, n40, n42, n43, n44, n46, n47, n48, n49, n50, n51, n52, n53, n54, n55, n56, n57, n58, n59, n60, n61, n62, n63, n64, n65, n66, n67, n68, n69, n70, n71, n72, n73, n74, n75, n76, n77, n78, n79, n80, n81, n82, n83, n84, n85, n86, n87, r0, r1, r10, r11, r12, r13, r14, r15, r16, r18, r19, r20, r21, r22, r23, r24, r25, r26, r29, r30, r31, r32, r33, r34, r35, r36, r37, r38, r39, r40, r42, r43, r44, r46, r47, r48, r49, r50, r51, r52, r53, r54, r55, r56, r57, r58, r59, r60, r61, r62, r63, r64, r65, r66, r67, r68, r69, r70, r71, r72, r73, r74, r75, r76, r77, r78, r79, r80, r81, r82, r83, r84, r85, r86, r87, w10, w11, w12, w13, w18, w19, w20, w21, w22, w23, w24, w25, w26, w30, w31, w32, w33, w34, w35, w36, w38, w39, w40, w43, w44, w46, w47, w48, w49, w50, w51, w52, w53, w54, w55, w56, w57, w58, w59, w60, w61, w62, w63, w64, w65, w66, w67, w68, w69, w70, w71, w72, w73, w74, w75, w76, w77, w78, w79, w80, w81, w82, w83, w84, w85, w86, w87, hi_hit, hi_row, hi_col, hj_hit, hj_row, hj_col, hi_sj, hj_si, hq_si, hq_sj, hi_sq, hj_sq, hi_srh, hi_srm]
    · have S5 := S.2.2.2.2 v hv
      rw [← a4.ei v (by decide) (by decide), ← a4.ei (x := 34) v (by decide) (by decide), ← a4.ei (x := 35) v (by decide) (by decide)] at S5
      by_cases z : v = u
      · subst z
        simp (disch := (first | assumption | omega | decide)) only [hi_hit, hi_row, hi_col, hj_hit, hj_row, hj_col, hi_sj, hj_si, hq_si, hq_sj, hi_sq, hj_sq, hi_srh, hi_srm, hj_sr, hq_sr, hq_hit, hq_row, hq_col]
        exact ⟨Or.inr ⟨trivial, trivial⟩, S5.2⟩
      · simp (disch := (first | assumption | omega | decide)) only [hi_hit, hi_row, hi_col, hj_hit, hj_row, hj_col, hi_sj, hj_si, hq_si, hq_sj, hi_sq, hj_sq, hi_srh, hi_srm, hj_sr, hq_sr, hq_hit, hq_row, hq_col]
        exact S5
  · refine ⟨g, ?_, Fr.rfl, S, ?_⟩
    · have S5 := (S.2.2.2.2 u hu).1.resolve_left c
      unfold f_X4_countIn
      simp (disch := (first | assumption | (simp only [FX_si, FX_sj, FX_sr, WX_si, WX_sj, WX_sr, FK_si, FK_sj, FK_sr]; assumption) | omega | decide)) only [ew, c, ↓reduceIte, if_true, if_false, i10, i01, eq_self, wq7, wq8, wq9, wq10, wrc, wgi, wpi, wpz, wn1, wn2, wn3, wn4, wr1, wr2, wr3, wr4, ww1, ww2, ww3, ww4, fgi, fgq, fpi, frc, at18, at19, at21, at22, at23, at24, at25, at26, at_neg, wat1, wat2, wat3, wat4, reduceCtorEq, bd_some, b1_some, b2_some, b3_some, b4_some, c1_eq, elim_inl, elim_inr, zok0, zok1, getQ_si, getQ_sj, getQ_sr, q8_0, q8_1, q8_2, q8_4, q8_7, q8_8, q8_9, q8_10, q8_11, q9_0, q9_3, q9_4, q9_8, q17_0, q17_1, q17_2, q17_4, q17_5, q17_6, q17_9, q17_10, q17_11, q27_4, q27_5, q27_6, q27_7, q27_8, q27_11, q45_0, q45_1, q45_11, q45_12, q45_13, q45_14, q45_15, q45_16, q45_17, q45_18, q45_19, q45_20, q45_21, q45_22, q45_23, q45_24, q45_30, q45_31, q45_32, q45_33, q45_34, q45_35, q45_36, q45_37, q45_38, q45_39, q45_43, q45_44, q45_45, q45_46, q45_47, q45_48, q45_52, q45_53, q45_54, q45_59, q45_60, q45_61, q45_62, q45_65, q45_67, q45_68, gi8, gj8, pi8, pz8, pj8, rc8, gi9, gj9, pi9, pz9, pj9, rc9, gi17, gj17, pi17, pz17, pj17, rc17, gi27, gj27, pi27, pz27, pj27, rc27, gi45, gj45, pi45, pz45, pj45, rc45, aln_si, aln_sj, aln_sq, rc_si, rc_sj, rc_sq, n0, n1, n10, n11, n12, n13, n14, n15, n16, n18, n19, n20, n21, n22, n23, n24, n25, n26, n29, n30, n31, n32, n33, n34, n35, n36, n37, n38, n39, n40, n42, n43, n44, n46, n47, n48, n49, n50, n51, n52, n53, n54, n55, n56, n57, n58, n59, n60, n61, n62, n63, n64, n65, n66, n67, n68, n69, n70, n71, n72, n73, n74, n75, n76, n77, n78, n79, n80, n81, n82, n83, n84, n85, n86, n87, r0, r1, r10, r11, r12, r13, r14, r15, r16, r18, r19, r20, r21, r22, r23, r24, r25, r26, r29, r30, r31, r32, r33, r34, r35, r36, r37, r38, r39, r40, r42, r43, r44, r46, r47, r48, r49, r50, r51, r52, r53, r54, r55, r56, r57, r58, r59, r60, r61, r62, r63, r64, r65, r66, r67, r68, r69, r70, r71, r72, r73, r74, r75, r76, r77, r78, r79, r80, r81, r82, r83, r84, r85, r86, r87, w10, w11, w12, w13, w18, w19, w20, w21, w22, w23, w24, w25, w26, w30, w31, w32, w33, w34, w35, w36, w38, w39, w40, w43, w44, w46, w47, w48, w49, w50, w51, w52, w53, w54, w55, w56, w57, w58, w59, w60, w61, w62, w63, w64, w65, w66, w67, w68, w69, w70, w71, w72, w73, w74, w75, w76, w77, w78, w79, w80, w81, w82, w83, w84, w85, w86, w87, hi_hit, hi_row, hi_col, hj_hit, hj_row, hj_col, hi_sj, hj_si, hq_si, hq_sj, hi_sq, hj_sq, hi_srh, hi_srm]
      rw [S5.1]
    · exact ((S.2.2.2.2 u hu).1.resolve_left c).2
theorem c_emptyIn (hP : ∀ x, P x → OKA x) (S : SHT P g b A pd pl tm) (ok : AOK A) (hu : u < 104) :
    ∃ g', f_X4_emptyIn 27 (nI u) g = some (if empW pd pl tm A u = true then 1 else 0, g') ∧ Fr [34, 36] [] g g' ∧ SHT P g' b A pd pl tm := by
  have X := S.1
  have ew := c_isWeek hu g
  by_cases c : hi g 34 u = -1
  · have S' := S
    obtain ⟨X1, q1, ⟨rb, nb, p1, p2, p3, p4, p5, p6, p7, p8, p9, p10, p11, p12, p13⟩, E1, -⟩ := S'
    have gq0 : getQ g (some 27) 4 0 = some (some b) := by rw [getQ_of 0 (k27 X), q1]
    have fin : ∀ g1, Fr [36] [] g g1 → f_X4_emptyIn 27 (nI u) g = some (if empW pd pl tm A u = true then 1 else 0, si g1 34 u (if empW pd pl tm A u = true then 1 else 0)) → ∃ g', f_X4_emptyIn 27 (nI u) g = some (if empW pd pl tm A u = true then 1 else 0, g') ∧ Fr [34, 36] [] g g' ∧ SHT P g' b A pd pl tm := by
      intro g1 a4 e
      have fr : Fr [34, 36] [] g (si g1 34 u (if empW pd pl tm A u = true then 1 else 0)) := (a4.wk (by decide) (by decide)).trans (Fr.row (by decide))
      refine ⟨_, e, fr, S.mk' hP fr (by simp) (by simp) (fun v hv => ?_)⟩
      have S5 := S.2.2.2.2 v hv
      rw [← a4.ei v (by decide) (by decide), ← a4.ei (x := 34) v (by decide) (by decide), ← a4.ei (x := 35) v (by decide) (by decide)] at S5
      by_cases z : v = u
      · subst z
        simp (disch := (first | assumption | omega | decide)) only [hi_hit, hi_row, hi_col, hj_hit, hj_row, hj_col, hi_sj, hj_si, hq_si, hq_sj, hi_sq, hj_sq, hi_srh, hi_srm, hj_sr, hq_sr, hq_hit, hq_row, hq_col]
        exact ⟨S5.1, Or.inr trivial⟩
      · simp (disch := (first | assumption | omega | decide)) only [hi_hit, hi_row, hi_col, hj_hit, hj_row, hj_col, hi_sj, hj_si, hq_si, hq_sj, hi_sq, hj_sq, hi_srh, hi_srm, hj_sr, hq_sr, hq_hit, hq_row, hq_col]
        exact S5
    unfold CE at p13
    cases hA : A.2.2.2 with
    | none =>
      rw [hA] at p13
      have p13' : hi g b 3 = 0 := p13
      have em : empW pd pl tm A u = false := by unfold empW; rw [hA]
      have gi3 : getI g (some b) 0 3 = some 0 := by rw [getI_of 3 p4, p13']
      refine fin g Fr.rfl ?_
      unfold f_X4_emptyIn
      rw [em]
      simp (disch := (first | assumption | (simp only [FX_si, FX_sj, FX_sr, WX_si, WX_sj, WX_sr, FK_si, FK_sj, FK_sr]; assumption) | omega | decide)) only [ew, c, gq0, gi3, Bool.false_eq_true, ↓reduceIte, if_true, if_false, i10, i01, eq_self, wq7, wq8, wq9, wq10, wrc, wgi, wpi, wpz, wn1, wn2, wn3, wn4, wr1, wr2, wr3, wr4, ww1, ww2, ww3, ww4, fgi, fgq, fpi, frc, at18, at19, at21, at22, at23, at24, at25, at26, at_neg, wat1, wat2, wat3, wat4, reduceCtorEq, bd_some, b1_some, b2_some, b3_some, b4_some, c1_eq, elim_inl, elim_inr, zok0, zok1, getQ_si, getQ_sj, getQ_sr, q8_0, q8_1, q8_2, q8_4, q8_7, q8_8, q8_9, q8_10, q8_11, q9_0, q9_3, q9_4, q9_8, q17_0, q17_1, q17_2, q17_4, q17_5, q17_6, q17_9, q17_10, q17_11, q27_4, q27_5, q27_6, q27_7, q27_8, q27_11, q45_0, q45_1, q45_11, q45_12, q45_13, q45_14, q45_15, q45_16, q45_17, q45_18, q45_19, q45_20, q45_21, q45_22, q45_23, q45_24, q45_30, q45_31, q45_32, q45_33, q45_34, q45_35, q45_36, q45_37, q45_38, q45_39, q45_43, q45_44, q45_45, q45_46, q45_47, q45_48, q45_52, q45_53, q45_54, q45_59, q45_60, q45_61, q45_62, q45_65, q45_67, q45_68, gi8, gj8, pi8, pz8, pj8, rc8, gi9, gj9, pi9, pz9, pj9, rc9, gi17, gj17, pi17, pz17, pj17, rc17, gi27, gj27, pi27, pz27, pj27, rc27, gi45, gj45, pi45, pz45, pj45, rc45, aln_si, aln_sj, aln_sq, rc_si, rc_sj, rc_sq, n0, n1, n10, n11, n12, n13, n14, n15, n16, n18, n19, n20, n21, n22, n23, n24, n25, n26, n29, n30, n31, n32, n33, n34, n35, n36, n37, n38, n39, n40, n42, n43, n44, n46, n47, n48, n49, n50, n51, n52, n53, n54, n55, n56, n57, n58, n59, n60, n61, n62, n63, n64, n65, n66, n67, n68, n69, n70, n71, n72, n73, n74, n75, n76, n77, n78, n79, n80, n81, n82, n83, n84, n85, n86, n87, r0, r1, r10, r11, r12, r13, r14, r15, r16, r18, r19, r20, r21, r22, r23, r24, r25, r26, r29, r30, r31, r32, r33, r34, r35, r36, r37, r38, r39, r40, r42, r43, r44, r46, r47, r48, r49, r50, r51, r52, r53, r54, r55, r56, r57, r58, r59, r60, r61, r62, r63, r64, r65, r66, r67, r68, r69, r70, r71, r72, r73, r74, r75, r76, r77, r78, r79, r80, r81, r82, r83, r84, r85, r86, r87, w10, w11, w12, w13, w18, w19, w20, w21, w22, w23, w24, w25, w26, w30, w31, w32, w33, w34, w35, w36, w38, w39, w40, w43, w44, w46, w47, w48, w49, w50, w51, w52, w53, w54, w55, w56, w57, w58, w59, w60, w61, w62, w63, w64, w65, w66, w67, w68, w69, w70, w71, w72, w73, w74, w75, w76, w77, w78, w79, w80, w81, w82, w83, w84, w85, w86, w87, hi_hit, hi_row, hi_col, hj_hit, hj_row, hj_col, hi_sj, hj_si, hq_si, hq_sj, hi_sq, hj_sq, hi_srh, hi_srm]
    | some C =>
      rw [hA] at p13
      obtain ⟨r1, eb, r2, r3, r4⟩ := p13
      have gi3 : getI g (some b) 0 3 = some 1 := by rw [getI_of 3 p4, r1]
      have gq2 : getQ g (some b) 0 2 = some (some eb) := by rw [getQ_of 2 p4, r2]
      obtain ⟨g2, v1, v2⟩ := c_value X E1 hu r4.1 (fun q => by have := hP _ r3; rw [q] at this; unfold OKA at this; omega) r4.2 (ok.2.1 C hA)
      have X2 := v2.fx X
      have em : empW pd pl tm A u = decide (¬ evV pd pl tm u C = 0) := by unfold empW; rw [hA]
      refine fin g2 v2 ?_
      unfold f_X4_emptyIn
      by_cases z : evV pd pl tm u C = 0
      · rw [em, decide_eq_false (fun q => q z)]
        simp (disch := (first | assumption | (simp only [FX_si, FX_sj, FX_sr, WX_si, WX_sj, WX_sr, FK_si, FK_sj, FK_sr]; assumption) | omega | decide)) only [ew, c, gq0, gi3, gq2, v1, z, Bool.false_eq_true, ↓reduceIte, if_true, if_false, i10, i01, eq_self, wq7, wq8, wq9, wq10, wrc, wgi, wpi, wpz, wn1, wn2, wn3, wn4, wr1, wr2, wr3, wr4, ww1, ww2, ww3, ww4, fgi, fgq, fpi, frc, at18, at19, at21, at22, at23, at24, at25, at26, at_neg, wat1, wat2, wat3, wat4, reduceCtorEq, bd_some, b1_some, b2_some, b3_some, b4_some, c1_eq, elim_inl, elim_inr, zok0, zok1, getQ_si, getQ_sj, getQ_sr, q8_0, q8_1, q8_2, q8_4, q8_7, q8_8, q8_9, q8_10, q8_11, q9_0, q9_3, q9_4, q9_8, q17_0, q17_1, q17_2, q17_4, q17_5, q17_6, q17_9, q17_10, q17_11, q27_4, q27_5, q27_6, q27_7, q27_8, q27_11, q45_0, q45_1, q45_11, q45_12, q45_13, q45_14, q45_15, q45_16, q45_17, q45_18, q45_19, q45_20, q45_21, q45_22, q45_23, q45_24, q45_30, q45_31, q45_32, q45_33, q45_34, q45_35, q45_36, q45_37, q45_38, q45_39, q45_43, q45_44, q45_45, q45_46, q45_47, q45_48, q45_52, q45_53, q45_54, q45_59, q45_60, q45_61, q45_62, q45_65, q45_67, q45_68, gi8, gj8, pi8, pz8, pj8, rc8, gi9, gj9, pi9, pz9, pj9, rc9, gi17, gj17, pi17, pz17, pj17, rc17, gi27, gj27, pi27, pz27, pj27, rc27, gi45, gj45, pi45, pz45, pj45, rc45, aln_si, aln_sj, aln_sq, rc_si, rc_sj, rc_sq, n0, n1, n10, n11, n12, n13, n14, n15, n16, n18, n19, n20, n21, n22, n23, n24, n25, n26, n29, n30, n31, n32, n33, n34, n35, n36, n37, n38, n39, n40, n42, n43, n44, n46, n47, n48, n49, n50, n51, n52, n53, n54, n55, n56, n57, n58, n59, n60, n61, n62, n63, n64, n65, n66, n67, n68, n69, n70, n71, n72, n73, n74, n75, n76, n77, n78, n79, n80, n81, n82, n83, n84, n85, n86, n87, r0, r1, r10, r11, r12, r13, r14, r15, r16, r18, r19, r20, r21, r22, r23, r24, r25, r26, r29, r30, r31, r32, r33, r34, r35, r36, r37, r38, r39, r40, r42, r43, r44, r46, r47, r48, r49, r50, r51, r52, r53, r54, r55, r56, r57, r58, r59, r60, r61, r62, r63, r64, r65, r66, r67, r68, r69, r70, r71, r72, r73, r74, r75, r76, r77, r78, r79, r80, r81, r82, r83, r84, r85, r86, r87, w10, w11, w12, w13, w18, w19, w20, w21, w22, w23, w24, w25, w26, w30, w31, w32, w33, w34, w35, w36, w38, w39, w40, w43, w44, w46, w47, w48, w49, w50, w51, w52, w53, w54, w55, w56, w57, w58, w59, w60, w61, w62, w63, w64, w65, w66, w67, w68, w69, w70, w71, w72, w73, w74, w75, w76, w77, w78, w79, w80, w81, w82, w83, w84, w85, w86, w87, hi_hit, hi_row, hi_col, hj_hit, hj_row, hj_col, hi_sj, hj_si, hq_si, hq_sj, hi_sq, hj_sq, hi_srh, hi_srm]
      · rw [em, decide_eq_true z]
        simp (disch := (first | assumption | (simp only [FX_si, FX_sj, FX_sr, WX_si, WX_sj, WX_sr, FK_si, FK_sj, FK_sr]; assumption) | omega | decide)) only [ew, c, gq0, gi3, gq2, v1, z, ↓reduceIte, if_true, if_false, i10, i01, eq_self, wq7, wq8, wq9, wq10, wrc, wgi, wpi, wpz, wn1, wn2, wn3, wn4, wr1, wr2, wr3, wr4, ww1, ww2, ww3, ww4, fgi, fgq, fpi, frc, at18, at19, at21, at22, at23, at24, at25, at26, at_neg, wat1, wat2, wat3, wat4, reduceCtorEq, bd_some, b1_some, b2_some, b3_some, b4_some, c1_eq, elim_inl, elim_inr, zok0, zok1, getQ_si, getQ_sj, getQ_sr, q8_0, q8_1, q8_2, q8_4, q8_7, q8_8, q8_9, q8_10, q8_11, q9_0, q9_3, q9_4, q9_8, q17_0, q17_1, q17_2, q17_4, q17_5, q17_6, q17_9, q17_10, q17_11, q27_4, q27_5, q27_6, q27_7, q27_8, q27_11, q45_0, q45_1, q45_11, q45_12, q45_13, q45_14, q45_15, q45_16, q45_17, q45_18, q45_19, q45_20, q45_21, q45_22, q45_23, q45_24, q45_30, q45_31, q45_32, q45_33, q45_34, q45_35, q45_36, q45_37, q45_38, q45_39, q45_43, q45_44, q45_45, q45_46, q45_47, q45_48, q45_52, q45_53, q45_54, q45_59, q45_60, q45_61, q45_62, q45_65, q45_67, q45_68, gi8, gj8, pi8, pz8, pj8, rc8, gi9, gj9, pi9, pz9, pj9, rc9, gi17, gj17, pi17, pz17, pj17, rc17, gi27, gj27, pi27, pz27, pj27, rc27, gi45, gj45, pi45, pz45, pj45, rc45, aln_si, aln_sj, aln_sq, rc_si, rc_sj, rc_sq, n0, n1, n10, n11, n12, n13, n14, n15, n16, n18, n19, n20, n21, n22, n23, n24, n25, n26, n29, n30, n31, n32, n33, n34, n35, n36, n37, n38, n39, n40, n42, n43, n44, n46, n47, n48, n49, n50, n51, n52, n53, n54, n55, n56, n57, n58, n59, n60, n61, n62, n63, n64, n65, n66, n67, n68, n69, n70, n71, n72, n73, n74, n75, n76, n77, n78, n79, n80, n81, n82, n83, n84, n85, n86, n87, r0, r1, r10, r11, r12, r13, r14, r15, r16, r18, r19, r20, r21, r22, r23, r24, r25, r26, r29, r30, r31, r32, r33, r34, r35, r36, r37, r38, r39, r40, r42, r43, r44, r46, r47, r48, r49, r50, r51, r52, r53, r54, r55, r56, r57, r58, r59, r60, r61, r62, r63, r64, r65, r66, r67, r68, r69, r70, r71, r72, r73, r74, r75, r76, r77, r78, r79, r80, r81, r82, r83, r84, r85, r86, r87, w10, w11, w12, w13, w18, w19, w20, w21, w22, w23, w24, w25, w26, w30, w31, w32, w33, w34, w35, w36, w38, w39, w40, w43, w44, w46, w47, w48, w49, w50, w51, w52, w53, w54, w55, w56, w57, w58, w59, w60, w61, w62, w63, w64, w65, w66, w67, w68, w69, w70, w71, w72, w73, w74, w75, w76, w77, w78, w79, w80, w81, w82, w83, w84, w85, w86, w87, hi_hit, hi_row, hi_col, hj_hit, hj_row, hj_col, hi_sj, hj_si, hq_si, hq_sj, hi_sq, hj_sq, hi_srh, hi_srm]
  · refine ⟨g, ?_, Fr.rfl, S⟩
    have S5 := (S.2.2.2.2 u hu).2.resolve_left c
    unfold f_X4_emptyIn
    simp (disch := (first | assumption | (simp only [FX_si, FX_sj, FX_sr, WX_si, WX_sj, WX_sr, FK_si, FK_sj, FK_sr]; assumption) | omega | decide)) only [ew, c, ↓reduceIte, if_true, if_false, i10, i01, eq_self, wq7, wq8, wq9, wq10, wrc, wgi, wpi, wpz, wn1, wn2, wn3, wn4, wr1, wr2, wr3, wr4, ww1, ww2, ww3, ww4, fgi, fgq, fpi, frc, at18, at19, at21, at22, at23, at24, at25, at26, at_neg, wat1, wat2, wat3, wat4, reduceCtorEq, bd_some, b1_some, b2_some, b3_some, b4_some, c1_eq, elim_inl, elim_inr, zok0, zok1, getQ_si, getQ_sj, getQ_sr, q8_0, q8_1, q8_2, q8_4, q8_7, q8_8, q8_9, q8_10, q8_11, q9_0, q9_3, q9_4, q9_8, q17_0, q17_1, q17_2, q17_4, q17_5, q17_6, q17_9, q17_10, q17_11, q27_4, q27_5, q27_6, q27_7, q27_8, q27_11, q45_0, q45_1, q45_11, q45_12, q45_13, q45_14, q45_15, q45_16, q45_17, q45_18, q45_19, q45_20, q45_21, q45_22, q45_23, q45_24, q45_30, q45_31, q45_32, q45_33, q45_34, q45_35, q45_36, q45_37, q45_38, q45_39, q45_43, q45_44, q45_45, q45_46, q45_47, q45_48, q45_52, q45_53, q45_54, q45_59, q45_60, q45_61, q45_62, q45_65, q45_67, q45_68, gi8, gj8, pi8, pz8, pj8, rc8, gi9, gj9, pi9, pz9, pj9, rc9, gi17, gj17, pi17, pz17, pj17, rc17, gi27, gj27, pi27, pz27, pj27, rc27, gi45, gj45, pi45, pz45, pj45, rc45, aln_si, aln_sj, aln_sq, rc_si, rc_sj, rc_sq, n0, n1, n10, n11, n12, n13, n14, n15, n16, n18, n19, n20, n21, n22, n23, n24, n25, n26, n29, n30, n31, n32, n33, n34, n35, n36, n37, n38, n39, n40, n42, n43, n44, n46, n47, n48, n49, n50, n51, n52, n53, n54, n55, n56, n57, n58, n59, n60, n61, n62, n63, n64, n65, n66, n67, n68, n69, n70, n71, n72, n73, n74, n75, n76, n77, n78, n79, n80, n81, n82, n83, n84, n85, n86, n87, r0, r1, r10, r11, r12, r13, r14, r15, r16, r18, r19, r20, r21, r22, r23, r24, r25, r26, r29, r30, r31, r32, r33, r34, r35, r36, r37, r38, r39, r40, r42, r43, r44, r46, r47, r48, r49, r50, r51, r52, r53, r54, r55, r56, r57, r58, r59, r60, r61, r62, r63, r64, r65, r66, r67, r68, r69, r70, r71, r72, r73, r74, r75, r76, r77, r78, r79, r80, r81, r82, r83, r84, r85, r86, r87, w10, w11, w12, w13, w18, w19, w20, w21, w22, w23, w24, w25, w26, w30, w31, w32, w33, w34, w35, w36, w38, w39, w40, w43, w44, w46, w47, w48, w49, w50, w51, w52, w53, w54, w55, w56, w57, w58, w59, w60, w61, w62, w63, w64, w65, w66, w67, w68, w69, w70, w71, w72, w73, w74, w75, w76, w77, w78, w79, w80, w81, w82, w83, w84, w85, w86, w87, hi_hit, hi_row, hi_col, hj_hit, hj_row, hj_col, hi_sj, hj_si, hq_si, hq_sj, hi_sq, hj_sq, hi_srh, hi_srm]
    rw [S5]
theorem c_avg52 (hP : ∀ x, P x → OKA x) (ok : AOK A) (hpos : ∀ i u, i < 5 → u < 104 → 0 ≤ pd i u) (S : SHT P g b A pd pl tm) {lo top d : Nat} (hd : d ≤ 104) (ht : top ≤ 52) (z1 : hi g 27 9 = 0) (z2 : hi g 27 10 = 0) (hlo : lo ≤ 104) :
    ∃ r, f_X4_averageFor_L52 fu 27 0 (nI top) (nI lo) (wI d) g = some r ∧ (r.1 = (avS pd pl tm A lo top d (0, 0, 0)).1 ∧ (avS pd pl tm A lo top d (0, 0, 0)).2.1 ≤ 52 ∧ hi r.2 27 9 = nI (avS pd pl tm A lo top d (0, 0, 0)).2.1 ∧ hi r.2 27 10 = nI (avS pd pl tm A lo top d (0, 0, 0)).2.2 ∧ Fr [33, 34, 35, 36] [(27, 9), (27, 10)] g r.2 ∧ SHT P r.2 b A pd pl tm) := by
  obtain ⟨res, eres⟩ : ∃ res, res = avS pd pl tm A lo top d (0, 0, 0) := ⟨_, rfl⟩
  rw [← eres]
  refine whl (fun n (p : Nat × Int32 × Hp) => f_X4_averageFor_L52 n 27 p.2.1 (nI top) (nI lo) (wI p.1) p.2.2) (fun p => p.1) (fun p => p.1 ≤ 104 ∧ ∃ pk mk, pk ≤ 52 ∧ avS pd pl tm A lo top p.1 (p.2.1, pk, mk) = res ∧ hi p.2.2 27 9 = nI pk ∧ hi p.2.2 27 10 = nI mk ∧ Fr [33, 34, 35, 36] [(27, 9), (27, 10)] g p.2.2 ∧ SHT P p.2.2 b A pd pl tm)
    (fun r => r.1 = res.1 ∧ res.2.1 ≤ 52 ∧ hi r.2 27 9 = nI res.2.1 ∧ hi r.2 27 10 = nI res.2.2 ∧ Fr [33, 34, 35, 36] [(27, 9), (27, 10)] g r.2 ∧ SHT P r.2 b A pd pl tm) ?_ fu (d, 0, g) ⟨hd, 0, 0, by omega, eres.symm, z1, z2, Fr.rfl, S⟩ (fu_gt (by show d ≤ _; omega))
  rintro n ⟨w, x, g1⟩ ⟨I0, pk, mk, I1, I2, I3, I4, I5, I6⟩
  simp only at I0 I2 I3 I4 I5 I6
  have X1 := I6.1
  have stop : (x, pk, mk) = res → f_X4_averageFor_L52 (n + 1) 27 x (nI top) (nI lo) (wI w) g1 = some (x, g1) → (∃ r, f_X4_averageFor_L52 (n + 1) 27 x (nI top) (nI lo) (wI w) g1 = some r ∧ (r.1 = res.1 ∧ res.2.1 ≤ 52 ∧ hi r.2 27 9 = nI res.2.1 ∧ hi r.2 27 10 = nI res.2.2 ∧ Fr [33, 34, 35, 36] [(27, 9), (27, 10)] g r.2 ∧ SHT P r.2 b A pd pl tm)) := by
    intro h1 h2
    rw [← h1]
    exact ⟨_, h2, rfl, I1, I3, I4, I5, I6⟩
  cases w with
  | zero =>
    left
    refine stop I2 ?_
    rw [f_X4_averageFor_L52.eq_2, if_pos]
    have : (-1 : Int32) < nI lo := by
      rw [Int32.lt_iff_toInt_lt, nI_toInt (by omega), show (-1 : Int32).toInt = -1 from rfl]
      omega
    exact this
  | succ m =>
    have I2' : (if m < lo ∨ top ≤ pk then (x, pk, mk) else avS pd pl tm A lo top m (if empW pd pl tm A m = true then (x, pk, mk) else (x + cntW pd pl tm A m, pk + 1, mk ||| mkwW pd pl tm A m))) = res := I2
    rw [wI_s] at stop ⊢
    by_cases c1 : m < lo
    · left
      rw [if_pos (Or.inl c1)] at I2'
      refine stop I2' ?_
      rw [f_X4_averageFor_L52.eq_2, if_pos (by rw [nI_ltI (by omega) (by omega)]; exact c1)]
    · have n1 : ¬ nI m < nI lo := by rw [nI_ltI (by omega) (by omega)]; exact c1
      by_cases c2 : top ≤ pk
      · left
        rw [if_pos (Or.inr c2)] at I2'
        refine stop I2' ?_
        have n2 : nI top ≤ nI pk := by rw [nI_leI (by omega) (by omega)]; exact c2
        rw [f_X4_averageFor_L52.eq_2]
        simp (disch := (first | assumption | (simp only [FX_si, FX_sj, FX_sr, WX_si, WX_sj, WX_sr, FK_si, FK_sj, FK_sr]; assumption) | omega | decide)) only [n1, I3, n2, ↓reduceIte, if_true, if_false, i10, i01, eq_self, wq7, wq8, wq9, wq10, wrc, wgi, wpi, wpz, wn1, wn2, wn3, wn4, wr1, wr2, wr3, wr4, ww1, ww2, ww3, ww4, fgi, fgq, fpi, frc, at18, at19, at21, at22, at23, at24, at25, at26, at_neg, wat1, wat2, wat3, wat4, reduceCtorEq, bd_some, b1_some, b2_some, b3_some, b4_some, c1_eq, elim_inl, elim_inr, zok0, zok1, getQ_si, getQ_sj, getQ_sr, q8_0, q8_1, q8_2, q8_4, q8_7, q8_8, q8_9, q8_10, q8_11, q9_0, q9_3, q9_4, q9_8, q17_0, q17_1, q17_2, q17_4, q17_5, q17_6, q17_9, q17_10, q17_11, q27_4, q27_5, q27_6, q27_7, q27_8, q27_11, q45_0, q45_1, q45_11, q45_12, q45_13, q45_14, q45_15, q45_16, q45_17, q45_18, q45_19, q45_20, q45_21, q45_22, q45_23, q45_24, q45_30, q45_31, q45_32, q45_33, q45_34, q45_35, q45_36, q45_37, q45_38, q45_39, q45_43, q45_44, q45_45, q45_46, q45_47, q45_48, q45_52, q45_53, q45_54, q45_59, q45_60, q45_61, q45_62, q45_65, q45_67, q45_68, gi8, gj8, pi8, pz8, pj8, rc8, gi9, gj9, pi9, pz9, pj9, rc9, gi17, gj17, pi17, pz17, pj17, rc17, gi27, gj27, pi27, pz27, pj27, rc27, gi45, gj45, pi45, pz45, pj45, rc45, aln_si, aln_sj, aln_sq, rc_si, rc_sj, rc_sq, n0, n1, n10, n11, n12, n13, n14, n15, n16, n18, n19, n20, n21, n22, n23, n24, n25, n26, n29, n30, n31, n32, n33, n34, n35, n36, n37, n38, n39, n40, n42, n43, n44, n46, n47, n48, n49, n50, n51, n52, n53, n54, n55, n56, n57, n58, n59, n60, n61, n62, n63, n64, n65, n66, n67, n68, n69, n70, n71, n72, n73, n74, n75, n76, n77, n78, n79, n80, n81, n82, n83, n84, n85, n86, n87, r0, r1, r10, r11, r12, r13, r14, r15, r16, r18, r19, r20, r21, r22, r23, r24, r25, r26, r29, r30, r31, r32, r33, r34, r35, r36, r37, r38, r39, r40, r42, r43, r44, r46, r47, r48, r49, r50, r51, r52, r53, r54, r55, r56, r57, r58, r59, r60, r61, r62, r63, r64, r65, r66, r67, r68, r69, r70, r71, r72, r73, r74, r75, r76, r77, r78, r79, r80, r81, r82, r83, r84, r85, r86, r87, w10, w11, w12, w13, w18, w19, w20, w21, w22, w23, w24, w25, w26, w30, w31, w32, w33, w34, w35, w36, w38, w39, w40, w43, w44, w46, w47, w48, w49, w50, w51, w52, w53, w54, w55, w56, w57, w58, w59, w60, w61, w62, w63, w64, w65, w66, w67, w68, w69, w70, w71, w72, w73, w74, w75, w76, w77, w78, w79, w80, w81, w82, w83, w84, w85, w86, w87, hi_hit, hi_row, hi_col, hj_hit, hj_row, hj_col, hi_sj, hj_si, hq_si, hq_sj, hi_sq, hj_sq, hi_srh, hi_srm]
      · right
        rw [if_neg (fun q => q.elim c1 c2)] at I2'
        have n2 : ¬ nI top ≤ nI pk := by rw [nI_leI (by omega) (by omega)]; exact c2
        obtain ⟨g2, b1', b2', b3'⟩ := c_emptyIn hP I6 ok (u := m) (by omega)
        have X2 := b3'.1
        have e9 : hi g2 27 9 = nI pk := (b2'.ei 9 (by decide) (by decide)).trans I3
        have e10 : hi g2 27 10 = nI mk := (b2'.ei 10 (by decide) (by decide)).trans I4
        have fr2 := I5.trans (b2'.wk (A' := [33, 34, 35, 36]) (B' := [(27, 9), (27, 10)]) (by decide) (by decide))
        by_cases e : empW pd pl tm A m = true
        · rw [if_pos e] at b1' I2'
          refine ⟨(m, x, g2), ?_, ⟨by simp only; omega, pk, mk, I1, I2', e9, e10, fr2, b3'⟩, by simp only; omega⟩
          simp only
          rw [f_X4_averageFor_L52.eq_2]
          simp (disch := (first | assumption | (simp only [FX_si, FX_sj, FX_sr, WX_si, WX_sj, WX_sr, FK_si, FK_sj, FK_sr]; assumption) | omega | decide)) only [n1, I3, n2, b1', wI_m, ↓reduceIte, if_true, if_false, i10, i01, eq_self, wq7, wq8, wq9, wq10, wrc, wgi, wpi, wpz, wn1, wn2, wn3, wn4, wr1, wr2, wr3, wr4, ww1, ww2, ww3, ww4, fgi, fgq, fpi, frc, at18, at19, at21, at22, at23, at24, at25, at26, at_neg, wat1, wat2, wat3, wat4, reduceCtorEq, bd_some, b1_some, b2_some, b3_some, b4_some, c1_eq, elim_inl, elim_inr, zok0, zok1, getQ_si, getQ_sj, getQ_sr, q8_0, q8_1, q8_2, q8_4, q8_7, q8_8, q8_9, q8_10, q8_11, q9_0, q9_3, q9_4, q9_8, q17_0, q17_1, q17_2, q17_4, q17_5, q17_6, q17_9, q17_10, q17_11, q27_4, q27_5, q27_6, q27_7, q27_8, q27_11, q45_0, q45_1, q45_11, q45_12, q45_13, q45_14, q45_15, q45_16, q45_17, q45_18, q45_19, q45_20, q45_21, q45_22, q45_23, q45_24, q45_30, q45_31, q45_32, q45_33, q45_34, q45_35, q45_36, q45_37, q45_38, q45_39, q45_43, q45_44, q45_45, q45_46, q45_47, q45_48, q45_52, q45_53, q45_54, q45_59, q45_60, q45_61, q45_62, q45_65, q45_67, q45_68, gi8, gj8, pi8, pz8, pj8, rc8, gi9, gj9, pi9, pz9, pj9, rc9, gi17, gj17, pi17, pz17, pj17, rc17, gi27, gj27, pi27, pz27, pj27, rc27, gi45, gj45, pi45, pz45, pj45, rc45, aln_si, aln_sj, aln_sq, rc_si, rc_sj, rc_sq, n0, n1, n10, n11, n12, n13, n14, n15, n16, n18, n19, n20, n21, n22, n23, n24, n25, n26, n29, n30, n31, n32, n33, n34, n35, n36, n37, n38, n39, n40, n42, n43, n44, n46, n47, n48, n49, n50, n51, n52, n53, n54, n55, n56, n57, n58, n59, n60, n61, n62, n63, n64, n65, n66, n67, n68, n69, n70, n71, n72, n73, n74, n75, n76, n77, n78, n79, n80, n81, n82, n83, n84, n85, n86, n87, r0, r1, r10, r11, r12, r13, r14, r15, r16, r18, r19, r20, r21, r22, r23, r24, r25, r26, r29, r30, r31, r32, r33, r34, r35, r36, r37, r38, r39, r40, r42, r43, r44, r46, r47, r48, r49, r50, r51, r52, r53, r54, r55, r56, r57, r58, r59, r60, r61, r62, r63, r64, r65, r66, r67, r68, r69, r70, r71, r72, r73, r74, r75, r76, r77, r78, r79, r80, r81, r82, r83, r84, r85, r86, r87, w10, w11, w12, w13, w18, w19, w20, w21, w22, w23, w24, w25, w26, w30, w31, w32, w33, w34, w35, w36, w38, w39, w40, w43, w44, w46, w47, w48, w49, w50, w51, w52, w53, w54, w55, w56, w57, w58, w59, w60, w61, w62, w63, w64, w65, w66, w67, w68, w69, w70, w71, w72, w73, w74, w75, w76, w77, w78, w79, w80, w81, w82, w83, w84, w85, w86, w87, hi_hit, hi_row, hi_col, hj_hit, hj_row, hj_col, hi_sj, hj_si, hq_si, hq_sj, hi_sq, hj_sq, hi_srh, hi_srm]
        · rw [if_neg e] at b1' I2'
          have hm : m < 104 := by omega
          obtain ⟨g3, d1', d2', d3', d4'⟩ := c_countIn hP b3' ok hm (fun i hi' => hpos i m hi' hm)
          have X3 := d3'.1
          have f9 : hi g3 27 9 = nI pk := (d2'.ei 9 (by decide) (by decide)).trans e9
          have f10 : hi g3 27 10 = nI mk := (d2'.ei 10 (by decide) (by decide)).trans e10
          have ea : f_X8_at (some 35) (nI m) g3 = some (nI (mkwW pd pl tm A m), g3) := by rw [at_in (X3.kd (a := 35) (by decide) (by decide) rfl) hm (by decide), d4']
          have fr4 : Fr [] [(27, 9), (27, 10)] g3 (si (si g3 27 10 (nI (mk ||| mkwW pd pl tm A m))) 27 9 (nI (pk + 1))) := (Fr.fld (by decide)).trans (Fr.fld (by decide))
          refine ⟨(m, x + cntW pd pl tm A m, si (si g3 27 10 (nI (mk ||| mkwW pd pl tm A m))) 27 9 (nI (pk + 1))), ?_, ⟨by simp only; omega, pk + 1, mk ||| mkwW pd pl tm A m, by omega, I2', hi_hit _ _ _, by simp (disch := (first | assumption | omega | decide)) only [hi_hit, hi_row, hi_col, hj_hit, hj_row, hj_col, hi_sj, hj_si, hq_si, hq_sj, hi_sq, hj_sq, hi_srh, hi_srm, hj_sr, hq_sr, hq_hit, hq_row, hq_col], (fr2.trans (d2'.wk (by decide) (by decide))).trans (fr4.wk (by decide) (by decide)), d3'.mk' hP fr4 (by simp) (by simp) (fun v hv => ?_)⟩, by simp only; omega⟩
          · simp only
            rw [f_X4_averageFor_L52.eq_2]
            simp (disch := (first | assumption | (simp only [FX_si, FX_sj, FX_sr, WX_si, WX_sj, WX_sr, FK_si, FK_sj, FK_sr]; assumption) | omega | decide)) only [n1, I3, n2, b1', d1', f10, ea, bor_of, f9, nI_1, wI_m, ↓reduceIte, if_true, if_false, i10, i01, eq_self, wq7, wq8, wq9, wq10, wrc, wgi, wpi, wpz, wn1, wn2, wn3, wn4, wr1, wr2, wr3, wr4, ww1, ww2, ww3, ww4, fgi, fgq, fpi, frc, at18, at19, at21, at22, at23, at24, at25, at26, at_neg, wat1, wat2, wat3, wat4, reduceCtorEq, bd_some, b1_some, b2_some, b3_some, b4_some, c1_eq, elim_inl, elim_inr, zok0, zok1, getQ_si, getQ_sj, getQ_sr, q8_0, q8_1, q8_2, q8_4, q8_7, q8_8, q8_9, q8_10, q8_11, q9_0, q9_3, q9_4, q9_8, q17_0, q17_1, q17_2, q17_4, q17_5, q17_6, q17_9, q17_10, q17_11, q27_4, q27_5, q27_6, q27_7, q27_8, q27_11, q45_0, q45_1, q45_11, q45_12, q45_13, q45_14, q45_15, q45_16, q45_17, q45_18, q45_19, q45_20, q45_21, q45_22, q45_23, q45_24, q45_30, q45_31, q45_32, q45_33, q45_34, q45_35, q45_36, q45_37, q45_38, q45_39, q45_43, q45_44, q45_45, q45_46, q45_47, q45_48, q45_52, q45_53, q45_54, q45_59, q45_60, q45_61, q45_62, q45_65, q45_67, q45_68, gi8, gj8, pi8, pz8, pj8, rc8, gi9, gj9, pi9, pz9, pj9, rc9, gi17, gj17, pi17, pz17, pj17, rc17, gi27, gj27, pi27, pz27, pj27, rc27, gi45, gj45, pi45, pz45, pj45, rc45, aln_si, aln_sj, aln_sq, rc_si, rc_sj, rc_sq, n0, n1, n10, n11, n12, n13, n14, n15, n16, n18, n19, n20, n21, n22, n23, n24, n25, n26, n29, n30, n31, n32, n33, n34, n35, n36, n37, n38, n39, n40, n42, n43, n44, n46, n47, n48, n49, n50, n51, n52, n53, n54, n55, n56, n57, n58, n59, n60, n61, n62, n63, n64, n65, n66, n67, n68, n69, n70, n71, n72, n73, n74, n75, n76, n77, n78, n79, n80, n81, n82, n83, n84, n85, n86, n87, r0, r1, r10, r11, r12, r13, r14, r15, r16, r18, r19, r20, r21, r22, r23, r24, r25, r26, r29, r30, r31, r32, r33, r34, r35, r36, r37, r38, r39, r40, r42, r43, r44, r46, r47, r48, r49, r50, r51, r52, r53, r54, r55, r56, r57, r58, r59, r60, r61, r62, r63, r64, r65, r66, r67, r68, r69, r70, r71, r72, r73, r74, r75, r76, r77, r78, r79, r80, r81, r82, r83, r84, r85, r86, r87, w10, w11, w12, w13, w18, w19, w20, w21, w22, w23, w24, w25, w26, w30, w31, w32, w33, w34, w35, w36, w38, w39, w40, w43, w44, w46, w47, w48, w49, w50, w51, w52, w53, w54, w55, w56, w57, w58, w59, w60, w61, w62, w63, w64, w65, w66, w67, w68, w69, w70, w71, w72, w73, w74, w75, w76, w77, w78, w79, w80, w81, w82, w83, w84, w85, w86, w87, hi_hit, hi_row, hi_col, hj_hit, hj_row, hj_col, hi_sj, hj_si, hq_si, hq_sj, hi_sq, hj_sq, hi_srh, hi_srm]
          · simp (disch := (first | assumption | omega | decide)) only [hi_hit, hi_row, hi_col, hj_hit, hj_row, hj_col, hi_sj, hj_si, hq_si, hq_sj, hi_sq, hj_sq, hi_srh, hi_srm, hj_sr, hq_sr, hq_hit, hq_row, hq_col]
            exact d3'.2.2.2.2 v hv
theorem c_avg (hP : ∀ x, P x → OKA x) (ok : AOK A) (hpos : ∀ i u, i < 5 → u < 104 → 0 ≤ pd i u) (S : SHT P g b A pd pl tm) {day : Nat} (hday : day < 728) :
    ∃ g', f_X4_averageFor 27 (nI day) g = some (AVG pd pl tm A (day / 7), g') ∧ hi g' 27 9 = nI (AVR pd pl tm A (day / 7)).2.1 ∧ hi g' 27 10 = nI (AVR pd pl tm A (day / 7)).2.2 ∧ Fr [33, 34, 35, 36] [(27, 9), (27, 10)] g g' ∧ SHT P g' b A pd pl tm := by
  have X := S.1
  have ok' := ok
  obtain ⟨-, -, ⟨wn, o1, o2, o3⟩, ⟨bn, o4, o5, o6⟩, -⟩ := ok'
  have dv7 : dvI (nI day) 7 = some (nI (day / 7)) := by
    unfold dvI
    rw [if_neg (by decide), show (7 : Int32) = nI 7 from rfl, pk_div (by omega) (by omega) (by omega)]
  obtain ⟨d, ed⟩ : ∃ d, d = day / 7 := ⟨_, rfl⟩
  have hd : d ≤ 103 := by omega
  rw [← ed] at dv7 ⊢
  clear ed
  have fr1 : Fr [33, 34, 35, 36] [(27, 9), (27, 10)] g (si (si g 27 9 0) 27 10 0) := (Fr.fld (by decide)).trans (Fr.fld (by decide))
  have S1 := S.mk' hP fr1 (by simp) (by simp) (fun v hv => by simp (disch := (first | assumption | omega | decide)) only [hi_hit, hi_row, hi_col, hj_hit, hj_row, hj_col, hi_sj, hj_si, hq_si, hq_sj, hi_sq, hj_sq, hi_srh, hi_srm, hj_sr, hq_sr, hq_hit, hq_row, hq_col]; exact S.2.2.2.2 v hv)
  have X1 := S1.1
  obtain ⟨⟨x, g2⟩, a1, a2, a3, a4, a5, a6, a7⟩ := c_avg52 hP ok hpos S1 (lo := d - bn) (top := wn) (d := d) (by omega) (by omega) (by simp (disch := (first | assumption | omega | decide)) only [hi_hit, hi_row, hi_col, hj_hit, hj_row, hj_col, hi_sj, hj_si, hq_si, hq_sj, hi_sq, hj_sq, hi_srh, hi_srm, hj_sr, hq_sr, hq_hit, hq_row, hq_col]) (by simp (disch := (first | assumption | omega | decide)) only [hi_hit, hi_row, hi_col, hj_hit, hj_row, hj_col, hi_sj, hj_si, hq_si, hq_sj, hi_sq, hj_sq, hi_srh, hi_srm, hj_sr, hq_sr, hq_hit, hq_row, hq_col]) (by omega)
  simp only at a1 a2 a4 a5 a6 a7
  have X2 := a7.1
  have eR : AVR pd pl tm A d = avS pd pl tm A (d - bn) wn d (0, 0, 0) := by
    unfold AVR
    rw [o3, o6, nI_tn (by omega), nI_tn (by omega)]
  have gq0 : getQ g (some 27) 4 0 = some (some b) := by rw [getQ_of 0 (k27 X), S.2.1]
  have rcb : rc g (some b) 0 = some b := by
    obtain ⟨rb, nb, p1, p2, p3, p4, -⟩ := S.2.2.1
    exact rc_eq p4
  have en0 : f_X0_number b 0 g = some (nI wn, g) := by have := f_num S.2.2.1 (n := 0) (by omega); rw [o3] at this; exact this
  have en1 : f_X0_number b 1 g = some (nI bn, g) := by have := f_num S.2.2.1 (n := 1) (by omega); rw [o6] at this; exact this
  have elo : mxI 0 (wI d + 1 - nI bn) = nI (d - bn) := by
    apply i_ext
    unfold wI
    rw [mxI_i, Int32.sub_add_cancel, pk_sub_toInt (by omega) (by omega), nI_toInt (by omega), show (0 : Int32).toInt = 0 from rfl]
    omega
  have ew : nI d - 1 = wI d := rfl
  rw [← eR] at a2 a3 a4 a5
  have eA : (if nI (AVR pd pl tm A d).2.1 ≤ 0 then some (0, g2) else (dvI x (nI (AVR pd pl tm A d).2.1)).bind fun x81 => some (x81, g2) : Option (Int32 × Hp)) = some (AVG pd pl tm A d, g2) := by
    unfold AVG
    by_cases z : (AVR pd pl tm A d).2.1 = 0
    · rw [if_pos z, z, if_pos (show nI 0 ≤ (0 : Int32) by decide)]
    · rw [if_neg z, if_neg (nI_nle (n := (AVR pd pl tm A d).2.1) (by omega) (by omega))]
      unfold dvI
      rw [if_neg (nI_ne0 (n := (AVR pd pl tm A d).2.1) (by omega) (by omega)), bd_some, a2]
  refine ⟨g2, ?_, a4, a5, fr1.trans a6, a7⟩
  unfold f_X4_averageFor
  simp (disch := (first | assumption | (simp only [FX_si, FX_sj, FX_sr, WX_si, WX_sj, WX_sr, FK_si, FK_sj, FK_sr]; assumption) | omega | decide)) only [gq0, rcb, en0, dv7, en1, elo, ew, a1, a4, ↓reduceIte, if_true, if_false, i10, i01, eq_self, wq7, wq8, wq9, wq10, wrc, wgi, wpi, wpz, wn1, wn2, wn3, wn4, wr1, wr2, wr3, wr4, ww1, ww2, ww3, ww4, fgi, fgq, fpi, frc, at18, at19, at21, at22, at23, at24, at25, at26, at_neg, wat1, wat2, wat3, wat4, reduceCtorEq, bd_some, b1_some, b2_some, b3_some, b4_some, c1_eq, elim_inl, elim_inr, zok0, zok1, getQ_si, getQ_sj, getQ_sr, q8_0, q8_1, q8_2, q8_4, q8_7, q8_8, q8_9, q8_10, q8_11, q9_0, q9_3, q9_4, q9_8, q17_0, q17_1, q17_2, q17_4, q17_5, q17_6, q17_9, q17_10, q17_11, q27_4, q27_5, q27_6, q27_7, q27_8, q27_11, q45_0, q45_1, q45_11, q45_12, q45_13, q45_14, q45_15, q45_16, q45_17, q45_18, q45_19, q45_20, q45_21, q45_22, q45_23, q45_24, q45_30, q45_31, q45_32, q45_33, q45_34, q45_35, q45_36, q45_37, q45_38, q45_39, q45_43, q45_44, q45_45, q45_46, q45_47, q45_48, q45_52, q45_53, q45_54, q45_59, q45_60, q45_61, q45_62, q45_65, q45_67, q45_68, gi8, gj8, pi8, pz8, pj8, rc8, gi9, gj9, pi9, pz9, pj9, rc9, gi17, gj17, pi17, pz17, pj17, rc17, gi27, gj27, pi27, pz27, pj27, rc27, gi45, gj45, pi45, pz45, pj45, rc45, aln_si, aln_sj, aln_sq, rc_si, rc_sj, rc_sq, n0, n1, n10, n11, n12, n13, n14, n15, n16, n18, n19, n20, n21, n22, n23, n24, n25, n26, n29, n30, n31, n32, n33, n34, n35, n36, n37, n38, n39, n40, n42, n43, n44, n46, n47, n48, n49, n50, n51, n52, n53, n54, n55, n56, n57, n58, n59, n60, n61, n62, n63, n64, n65, n66, n67, n68, n69, n70, n71, n72, n73, n74, n75, n76, n77, n78, n79, n80, n81, n82, n83, n84, n85, n86, n87, r0, r1, r10, r11, r12, r13, r14, r15, r16, r18, r19, r20, r21, r22, r23, r24, r25, r26, r29, r30, r31, r32, r33, r34, r35, r36, r37, r38, r39, r40, r42, r43, r44, r46, r47, r48, r49, r50, r51, r52, r53, r54, r55, r56, r57, r58, r59, r60, r61, r62, r63, r64, r65, r66, r67, r68, r69, r70, r71, r72, r73, r74, r75, r76, r77, r78, r79, r80, r81, r82, r83, r84, r85, r86, r87, w10, w11, w12, w13, w18, w19, w20, w21, w22, w23, w24, w25, w26, w30, w31, w32, w33, w34, w35, w36, w38, w39, w40, w43, w44, w46, w47, w48, w49, w50, w51, w52, w53, w54, w55, w56, w57, w58, w59, w60, w61, w62, w63, w64, w65, w66, w67, w68, w69, w70, w71, w72, w73, w74, w75, w76, w77, w78, w79, w80, w81, w82, w83, w84, w85, w86, w87, hi_hit, hi_row, hi_col, hj_hit, hj_row, hj_col, hi_sj, hj_si, hq_si, hq_sj, hi_sq, hj_sq, hi_srh, hi_srm]
  rw [eA, b1_some]
end Sb
/-- the model's loop of an average -/
theorem m_avg28 {g : Hp} {pd : Nat → Nat → Int32} {pl tm : Int32} {A : Ac} {s d wn bn : Nat} {res : Int32 × Nat × Nat} (X : FX g) (hs : s < 5) (K : RCK pd pl tm A g) (hd : d ≤ 103) (o2 : wn ≤ 52) (o5 : bn ≤ 104) (k48 : hi g 48 (7 * s) = nI wn) (k481 : hi g 48 (7 * s + 1) = nI bn) (eR : res = avS pd pl tm A (d - bn) wn d (0, 0, 0)) :
    ∃ r, f_X9_averageOf_L28 fu 45 (nI s) (nI d) 0 (wI d) (si (si g 45 57 0) 45 58 0) = some r ∧ (r.1 = res.1 ∧ res.2.1 ≤ 52 ∧ hi r.2 45 57 = nI res.2.1 ∧ hi r.2 45 58 = nI res.2.2 ∧ FrM [] [56, 57, 58] g r.2) := by
  have fr1 : FrM [] [56, 57, 58] g (si (si g 45 57 0) 45 58 0) := (FrM.fld (by decide)).trans (FrM.fld (by decide))
  have h71 : 7 * s + 1 < 35 := by omega
  have h70 : 7 * s < 35 := by omega
  have e70 : (7 : Int32) * nI s = nI (7 * s) := by rw [show (7 : Int32) = nI 7 from rfl, pk_mul]
  refine whl (fun n (p : Nat × Int32 × Hp) => f_X9_averageOf_L28 n 45 (nI s) (nI d) p.2.1 (wI p.1) p.2.2) (fun p => p.1) (fun p => p.1 ≤ 104 ∧ ∃ pk mk, pk ≤ 52 ∧ avS pd pl tm A (d - bn) wn p.1 (p.2.1, pk, mk) = res ∧ hi p.2.2 45 57 = nI pk ∧ hi p.2.2 45 58 = nI mk ∧ FrM [] [56, 57, 58] g p.2.2)
    (fun r => r.1 = res.1 ∧ res.2.1 ≤ 52 ∧ hi r.2 45 57 = nI res.2.1 ∧ hi r.2 45 58 = nI res.2.2 ∧ FrM [] [56, 57, 58] g r.2) ?_ fu (d, 0, si (si g 45 57 0) 45 58 0) ⟨by simp only; omega, 0, 0, by omega, eR.symm, by simp (disch := (first | assumption | omega | decide)) only [nI_0, hi_hit, hi_row, hi_col, hj_hit, hj_row, hj_col, hi_sj, hj_si, hq_si, hq_sj, hi_sq, hj_sq, hi_srh, hi_srm, hj_sr, hq_sr, hq_hit, hq_row, hq_col], by simp (disch := (first | assumption | omega | decide)) only [nI_0, hi_hit, hi_row, hi_col, hj_hit, hj_row, hj_col, hi_sj, hj_si, hq_si, hq_sj, hi_sq, hj_sq, hi_srh, hi_srm, hj_sr, hq_sr, hq_hit, hq_row, hq_col], fr1⟩ (fu_gt (by show d ≤ _; omega))
  rintro n ⟨w, x, g1⟩ ⟨I0, pk, mk, I1, I2, I3, I4, I5⟩
  simp only at I0 I2 I3 I4 I5
  have X2 := I5.fx X
  have stop : (x, pk, mk) = res → f_X9_averageOf_L28 (n + 1) 45 (nI s) (nI d) x (wI w) g1 = some (x, g1) → (∃ r, f_X9_averageOf_L28 (n + 1) 45 (nI s) (nI d) x (wI w) g1 = some r ∧ (r.1 = res.1 ∧ res.2.1 ≤ 52 ∧ hi r.2 45 57 = nI res.2.1 ∧ hi r.2 45 58 = nI res.2.2 ∧ FrM [] [56, 57, 58] g r.2)) := by
    intro h1 h2
    rw [← h1]
    exact ⟨_, h2, rfl, I1, I3, I4, I5⟩
  cases w with
  | zero =>
    left
    refine stop I2 ?_
    rw [f_X9_averageOf_L28.eq_2, if_pos (show wI 0 < 0 by decide)]
  | succ m =>
    have I2' : (if m < d - bn ∨ wn ≤ pk then (x, pk, mk) else avS pd pl tm A (d - bn) wn m (if empW pd pl tm A m = true then (x, pk, mk) else (x + cntW pd pl tm A m, pk + 1, mk ||| mkwW pd pl tm A m))) = res := I2
    rw [wI_s] at stop ⊢
    have m0 : ¬ nI m < 0 := nI_pos (by omega)
    have q0 : hi g1 48 (7 * s) = nI wn := (I5.ei _ (by decide) (by decide)).trans k48
    have q1 : hi g1 48 (7 * s + 1) = nI bn := (I5.ei _ (by decide) (by decide)).trans k481
    have clt : nI m < nI d - nI bn ↔ m < d - bn := by
      rw [Int32.lt_iff_toInt_lt, pk_sub_toInt (by omega) (by omega), nI_toInt (by omega)]
      omega
    by_cases c1 : m < d - bn
    · left
      rw [if_pos (Or.inl c1)] at I2'
      refine stop I2' ?_
      have c1' := clt.mpr c1
      rw [f_X9_averageOf_L28.eq_2]
      simp (disch := (first | assumption | (simp only [FX_si, FX_sj, FX_sr, WX_si, WX_sj, WX_sr, FK_si, FK_sj, FK_sr]; assumption) | omega | decide)) only [m0, e70, nI_1, q1, c1', ↓reduceIte, if_true, if_false, i10, i01, eq_self, wq7, wq8, wq9, wq10, wrc, wgi, wpi, wpz, wn1, wn2, wn3, wn4, wr1, wr2, wr3, wr4, ww1, ww2, ww3, ww4, fgi, fgq, fpi, frc, at18, at19, at21, at22, at23, at24, at25, at26, at_neg, wat1, wat2, wat3, wat4, reduceCtorEq, bd_some, b1_some, b2_some, b3_some, b4_some, c1_eq, elim_inl, elim_inr, zok0, zok1, getQ_si, getQ_sj, getQ_sr, q8_0, q8_1, q8_2, q8_4, q8_7, q8_8, q8_9, q8_10, q8_11, q9_0, q9_3, q9_4, q9_8, q17_0, q17_1, q17_2, q17_4, q17_5, q17_6, q17_9, q17_10, q17_11, q27_4, q27_5, q27_6, q27_7, q27_8, q27_11, q45_0, q45_1, q45_11, q45_12, q45_13, q45_14, q45_15, q45_16, q45_17, q45_18, q45_19, q45_20, q45_21, q45_22, q45_23, q45_24, q45_30, q45_31, q45_32, q45_33, q45_34, q45_35, q45_36, q45_37, q45_38, q45_39, q45_43, q45_44, q45_45, q45_46, q45_47, q45_48, q45_52, q45_53, q45_54, q45_59, q45_60, q45_61, q45_62, q45_65, q45_67, q45_68, gi8, gj8, pi8, pz8, pj8, rc8, gi9, gj9, pi9, pz9, pj9, rc9, gi17, gj17, pi17, pz17, pj17, rc17, gi27, gj27, pi27, pz27, pj27, rc27, gi45, gj45, pi45, pz45, pj45, rc45, aln_si, aln_sj, aln_sq, rc_si, rc_sj, rc_sq, n0, n1, n10, n11, n12, n13, n14, n15, n16, n18, n19, n20, n21, n22, n23, n24, n25, n26, n29, n30, n31, n32, n33, n34, n35, n36, n37, n38, n39, n40, n42, n43, n44, n46, n47, n48, n49, n50, n51, n52, n53, n54, n55, n56, n57, n58, n59, n60, n61, n62, n63, n64, n65, n66, n67, n68, n69, n70, n71, n72, n73, n74, n75, n76, n77, n78, n79, n80, n81, n82, n83, n84, n85, n86, n87, r0, r1, r10, r11, r12, r13, r14, r15, r16, r18, r19, r20, r21, r22, r23, r24, r25, r26, r29, r30, r31, r32, r33, r34, r35, r36, r37, r38, r39, r40, r42, r43, r44, r46, r47, r48, r49, r50, r51, r52, r53, r54, r55, r56, r57, r58, r59, r60, r61, r62, r63, r64, r65, r66, r67, r68, r69, r70, r71, r72, r73, r74, r75, r76, r77, r78, r79, r80, r81, r82, r83, r84, r85, r86, r87, w10, w11, w12, w13, w18, w19, w20, w21, w22, w23, w24, w25, w26, w30, w31, w32, w33, w34, w35, w36, w38, w39, w40, w43, w44, w46, w47, w48, w49, w50, w51, w52, w53, w54, w55, w56, w57, w58, w59, w60, w61, w62, w63, w64, w65, w66, w67, w68, w69, w70, w71, w72, w73, w74, w75, w76, w77, w78, w79, w80, w81, w82, w83, w84, w85, w86, w87, hi_hit, hi_row, hi_col, hj_hit, hj_row, hj_col, hi_sj, hj_si, hq_si, hq_sj, hi_sq, hj_sq, hi_srh, hi_srm]
    · have c1' : ¬ nI m < nI d - nI bn := fun q => c1 (clt.mp q)
      by_cases c2 : wn ≤ pk
      · left
        rw [if_pos (Or.inr c2)] at I2'
        refine stop I2' ?_
        have n2 : nI wn ≤ nI pk := by rw [nI_leI (by omega) (by omega)]; exact c2
        rw [f_X9_averageOf_L28.eq_2]
        simp (disch := (first | assumption | (simp only [FX_si, FX_sj, FX_sr, WX_si, WX_sj, WX_sr, FK_si, FK_sj, FK_sr]; assumption) | omega | decide)) only [m0, e70, nI_1, q1, c1', I3, q0, n2, ↓reduceIte, if_true, if_false, i10, i01, eq_self, wq7, wq8, wq9, wq10, wrc, wgi, wpi, wpz, wn1, wn2, wn3, wn4, wr1, wr2, wr3, wr4, ww1, ww2, ww3, ww4, fgi, fgq, fpi, frc, at18, at19, at21, at22, at23, at24, at25, at26, at_neg, wat1, wat2, wat3, wat4, reduceCtorEq, bd_some, b1_some, b2_some, b3_some, b4_some, c1_eq, elim_inl, elim_inr, zok0, zok1, getQ_si, getQ_sj, getQ_sr, q8_0, q8_1, q8_2, q8_4, q8_7, q8_8, q8_9, q8_10, q8_11, q9_0, q9_3, q9_4, q9_8, q17_0, q17_1, q17_2, q17_4, q17_5, q17_6, q17_9, q17_10, q17_11, q27_4, q27_5, q27_6, q27_7, q27_8, q27_11, q45_0, q45_1, q45_11, q45_12, q45_13, q45_14, q45_15, q45_16, q45_17, q45_18, q45_19, q45_20, q45_21, q45_22, q45_23, q45_24, q45_30, q45_31, q45_32, q45_33, q45_34, q45_35, q45_36, q45_37, q45_38, q45_39, q45_43, q45_44, q45_45, q45_46, q45_47, q45_48, q45_52, q45_53, q45_54, q45_59, q45_60, q45_61, q45_62, q45_65, q45_67, q45_68, gi8, gj8, pi8, pz8, pj8, rc8, gi9, gj9, pi9, pz9, pj9, rc9, gi17, gj17, pi17, pz17, pj17, rc17, gi27, gj27, pi27, pz27, pj27, rc27, gi45, gj45, pi45, pz45, pj45, rc45, aln_si, aln_sj, aln_sq, rc_si, rc_sj, rc_sq, n0, n1, n10, n11, n12, n13, n14, n15, n16, n18, n19, n20, n21, n22, n23, n24, n25, n26, n29, n30, n31, n32, n33, n34, n35, n36, n37, n38, n39, n40, n42, n43, n44, n46, n47, n48, n49, n50, n51, n52, n53, n54, n55, n56, n57, n58, n59, n60, n61, n62, n63, n64, n65, n66, n67, n68, n69, n70, n71, n72, n73, n74, n75, n76, n77, n78, n79, n80, n81, n82, n83, n84, n85, n86, n87, r0, r1, r10, r11, r12, r13, r14, r15, r16, r18, r19, r20, r21, r22, r23, r24, r25, r26, r29, r30, r31, r32, r33, r34, r35, r36, r37, r38, r39, r40, r42, r43, r44, r46, r47, r48, r49, r50, r51, r52, r53, r54, r55, r56, r57, r58, r59, r60, r61, r62, r63, r64, r65, r66, r67, r68, r69, r70, r71, r72, r73, r74, r75, r76, r77, r78, r79, r80, r81, r82, r83, r84, r85, r86, r87, w10, w11, w12, w13, w18, w19, w20, w21, w22, w23, w24, w25, w26, w30, w31, w32, w33, w34, w35, w36, w38, w39, w40, w43, w44, w46, w47, w48, w49, w50, w51, w52, w53, w54, w55, w56, w57, w58, w59, w60, w61, w62, w63, w64, w65, w66, w67, w68, w69, w70, w71, w72, w73, w74, w75, w76, w77, w78, w79, w80, w81, w82, w83, w84, w85, w86, w87, hi_hit, hi_row, hi_col, hj_hit, hj_row, hj_col, hi_sj, hj_si, hq_si, hq_sj, hi_sq, hj_sq, hi_srh, hi_srm]
      · right
        rw [if_neg (fun q => q.elim c1 c2)] at I2'
        have n2 : ¬ nI wn ≤ nI pk := by rw [nI_leI (by omega) (by omega)]; exact c2
        have hm : m < 104 := by omega
        obtain ⟨k1, k2, k3⟩ := K m hm
        rw [← I5.ei m (by decide) (by decide)] at k1
        rw [← I5.ei m (by decide) (by decide)] at k2
        rw [← I5.ei m (by decide) (by decide)] at k3
        by_cases e : empW pd pl tm A m = true
        · rw [if_pos e] at k3 I2'
          refine ⟨(m, x, g1), ?_, ⟨by simp only; omega, pk, mk, I1, I2', I3, I4, I5⟩, by simp only; omega⟩
          simp only
          rw [f_X9_averageOf_L28.eq_2]
          simp (disch := (first | assumption | (simp only [FX_si, FX_sj, FX_sr, WX_si, WX_sj, WX_sr, FK_si, FK_sj, FK_sr]; assumption) | omega | decide)) only [m0, e70, nI_1, q1, c1', I3, q0, n2, k3, wI_m, ↓reduceIte, if_true, if_false, i10, i01, eq_self, wq7, wq8, wq9, wq10, wrc, wgi, wpi, wpz, wn1, wn2, wn3, wn4, wr1, wr2, wr3, wr4, ww1, ww2, ww3, ww4, fgi, fgq, fpi, frc, at18, at19, at21, at22, at23, at24, at25, at26, at_neg, wat1, wat2, wat3, wat4, reduceCtorEq, bd_some, b1_some, b2_some, b3_some, b4_some, c1_eq, elim_inl, elim_inr, zok0, zok1, getQ_si, getQ_sj, getQ_sr, q8_0, q8_1, q8_2, q8_4, q8_7, q8_8, q8_9, q8_10, q8_11, q9_0, q9_3, q9_4, q9_8, q17_0, q17_1, q17_2, q17_4, q17_5, q17_6, q17_9, q17_10, q17_11, q27_4, q27_5, q27_6, q27_7, q27_8, q27_11, q45_0, q45_1, q45_11, q45_12, q45_13, q45_14, q45_15, q45_16, q45_17, q45_18, q45_19, q45_20, q45_21, q45_22, q45_23, q45_24, q45_30, q45_31, q45_32, q45_33, q45_34, q45_35, q45_36, q45_37, q45_38, q45_39, q45_43, q45_44, q45_45, q45_46, q45_47, q45_48, q45_52, q45_53, q45_54, q45_59, q45_60, q45_61, q45_62, q45_65, q45_67, q45_68, gi8, gj8, pi8, pz8, pj8, rc8, gi9, gj9, pi9, pz9, pj9, rc9, gi17, gj17, pi17, pz17, pj17, rc17, gi27, gj27, pi27, pz27, pj27, rc27, gi45, gj45, pi45, pz45, pj45, rc45, aln_si, aln_sj, aln_sq, rc_si, rc_sj, rc_sq, n0, n1, n10, n11, n12, n13, n14, n15, n16, n18, n19, n20, n21, n22, n23, n24, n25, n26, n29, n30, n31, n32, n33, n34, n35, n36, n37, n38, n39, n40, n42, n43, n44, n46, n47, n48, n49, n50, n51, n52, n53, n54, n55, n56, n57, n58, n59, n60, n61, n62, n63, n64, n65, n66, n67, n68, n69, n70, n71, n72, n73, n74, n75, n76, n77, n78, n79, n80, n81, n82, n83, n84, n85, n86, n87, r0, r1, r10, r11, r12, r13, r14, r15, r16, r18, r19, r20, r21, r22, r23, r24, r25, r26, r29, r30, r31, r32, r33, r34, r35, r36, r37, r38, r39, r40, r42, r43, r44, r46, r47, r48, r49, r50, r51, r52, r53, r54, r55, r56, r57, r58, r59, r60, r61, r62, r63, r64, r65, r66, r67, r68, r69, r70, r71, r72, r73, r74, r75, r76, r77, r78, r79, r80, r81, r82, r83, r84, r85, r86, r87, w10, w11, w12, w13, w18, w19, w20, w21, w22, w23, w24, w25, w26, w30, w31, w32, w33, w34, w35, w36, w38, w39, w40, w43, w44, w46, w47, w48, w49, w50, w51, w52, w53, w54, w55, w56, w57, w58, w59, w60, w61, w62, w63, w64, w65, w66, w67, w68, w69, w70, w71, w72, w73, w74, w75, w76, w77, w78, w79, w80, w81, w82, w83, w84, w85, w86, w87, hi_hit, hi_row, hi_col, hj_hit, hj_row, hj_col, hi_sj, hj_si, hq_si, hq_sj, hi_sq, hj_sq, hi_srh, hi_srm]
        · rw [if_neg e] at k3 I2'
          refine ⟨(m, x + cntW pd pl tm A m, si (si g1 45 58 (nI (mk ||| mkwW pd pl tm A m))) 45 57 (nI (pk + 1))), ?_, ⟨by simp only; omega, pk + 1, mk ||| mkwW pd pl tm A m, by omega, I2', hi_hit _ _ _, by simp (disch := (first | assumption | omega | decide)) only [hi_hit, hi_row, hi_col, hj_hit, hj_row, hj_col, hi_sj, hj_si, hq_si, hq_sj, hi_sq, hj_sq, hi_srh, hi_srm, hj_sr, hq_sr, hq_hit, hq_row, hq_col], I5.trans ((FrM.fld (by decide)).trans (FrM.fld (by decide)))⟩, by simp only; omega⟩
          simp only
          rw [f_X9_averageOf_L28.eq_2]
          simp (disch := (first | assumption | (simp only [FX_si, FX_sj, FX_sr, WX_si, WX_sj, WX_sr, FK_si, FK_sj, FK_sr]; assumption) | omega | decide)) only [m0, e70, nI_1, q1, c1', I3, q0, n2, k3, k1, I4, k2, bor_of, wI_m, ↓reduceIte, if_true, if_false, i10, i01, eq_self, wq7, wq8, wq9, wq10, wrc, wgi, wpi, wpz, wn1, wn2, wn3, wn4, wr1, wr2, wr3, wr4, ww1, ww2, ww3, ww4, fgi, fgq, fpi, frc, at18, at19, at21, at22, at23, at24, at25, at26, at_neg, wat1, wat2, wat3, wat4, reduceCtorEq, bd_some, b1_some, b2_some, b3_some, b4_some, c1_eq, elim_inl, elim_inr, zok0, zok1, getQ_si, getQ_sj, getQ_sr, q8_0, q8_1, q8_2, q8_4, q8_7, q8_8, q8_9, q8_10, q8_11, q9_0, q9_3, q9_4, q9_8, q17_0, q17_1, q17_2, q17_4, q17_5, q17_6, q17_9, q17_10, q17_11, q27_4, q27_5, q27_6, q27_7, q27_8, q27_11, q45_0, q45_1, q45_11, q45_12, q45_13, q45_14, q45_15, q45_16, q45_17, q45_18, q45_19, q45_20, q45_21, q45_22, q45_23, q45_24, q45_30, q45_31, q45_32, q45_33, q45_34, q45_35, q45_36, q45_37, q45_38, q45_39, q45_43, q45_44, q45_45, q45_46, q45_47, q45_48, q45_52, q45_53, q45_54, q45_59, q45_60, q45_61, q45_62, q45_65, q45_67, q45_68, gi8, gj8, pi8, pz8, pj8, rc8, gi9, gj9, pi9, pz9, pj9, rc9, gi17, gj17, pi17, pz17, pj17, rc17, gi27, gj27, pi27, pz27, pj27, rc27, gi45, gj45, pi45, pz45, pj45, rc45, aln_si, aln_sj, aln_sq, rc_si, rc_sj, rc_sq, n0, n1, n10, n11, n12, n13, n14, n15, n16, n18, n19, n20, n21, n22, n23, n24, n25, n26, n29, n30, n31, n32, n33, n34, n35, n36, n37, n38, n39, n40, n42, n43, n44, n46, n47, n48, n49, n50, n51, n52, n53, n54, n55, n56, n57, n58, n59, n60, n61, n62, n63, n64, n65, n66, n67, n68, n69, n70, n71, n72, n73, n74, n75, n76, n77, n78, n79, n80, n81, n82, n83, n84, n85, n86, n87, r0, r1, r10, r11, r12, r13, r14, r15, r16, r18, r19, r20, r21, r22, r23, r24, r25, r26, r29, r30, r31, r32, r33, r34, r35, r36, r37, r38, r39, r40, r42, r43, r44, r46, r47, r48, r49, r50, r51, r52, r53, r54, r55, r56, r57, r58, r59, r60, r61, r62, r63, r64, r65, r66, r67, r68, r69, r70, r71, r72, r73, r74, r75, r76, r77, r78, r79, r80, r81, r82, r83, r84, r85, r86, r87, w10, w11, w12, w13, w18, w19, w20, w21, w22, w23, w24, w25, w26, w30, w31, w32, w33, w34, w35, w36, w38, w39, w40, w43, w44, w46, w47, w48, w49, w50, w51, w52, w53, w54, w55, w56, w57, w58, w59, w60, w61, w62, w63, w64, w65, w66, w67, w68, w69, w70, w71, w72, w73, w74, w75, w76, w77, w78, w79, w80, w81, w82, w83, w84, w85, w86, w87, hi_hit, hi_row, hi_col, hj_hit, hj_row, hj_col, hi_sj, hj_si, hq_si, hq_sj, hi_sq, hj_sq, hi_srh, hi_srm]
/-- the model's numbers of an average -/
theorem m_avg {g : Hp} {pd : Nat → Nat → Int32} {pl tm : Int32} {A : Ac} {s f day : Nat} (X : FX g) (hs : s < 5) (D : MA g s A) (ok : AOK A) (K : RCK pd pl tm A g) (hf : f < 250) (hday : day < 728) (e66 : hi g 66 f = nI day) :
    ∃ g', f_X9_averageOf 45 (nI s) (nI f) g = some g' ∧ FrM [] [56, 57, 58] g g' ∧ hi g' 45 56 = AVG pd pl tm A (day / 7) ∧ hi g' 45 57 = nI (AVR pd pl tm A (day / 7)).2.1 ∧ hi g' 45 58 = nI (AVR pd pl tm A (day / 7)).2.2 := by
  obtain ⟨-, -, ⟨wn, o1, o2, o3⟩, ⟨bn, o4, o5, o6⟩, -⟩ := ok
  have dv7 : dvI (nI day) 7 = some (nI (day / 7)) := by
    unfold dvI
    rw [if_neg (by decide), show (7 : Int32) = nI 7 from rfl, pk_div (by omega) (by omega) (by omega)]
  obtain ⟨d, ed⟩ : ∃ d, d = day / 7 := ⟨_, rfl⟩
  have hd : d ≤ 103 := by omega
  rw [← ed] at dv7 ⊢
  clear ed
  have fr1 : FrM [] [56, 57, 58] g (si (si g 45 57 0) 45 58 0) := (FrM.fld (by decide)).trans (FrM.fld (by decide))
  have X1 := fr1.fx X
  have k48 : hi g 48 (7 * s) = nI wn := by have := D.1 0 (by omega); rw [o3] at this; exact this
  have k481 : hi g 48 (7 * s + 1) = nI bn := by have := D.1 1 (by omega); rw [o6] at this; exact this
  obtain ⟨res, eres⟩ : ∃ res, res = AVR pd pl tm A d := ⟨_, rfl⟩
  have eR : res = avS pd pl tm A (d - bn) wn d (0, 0, 0) := by
    rw [eres]
    unfold AVR
    rw [o3, o6, nI_tn (by omega), nI_tn (by omega)]
  have key := m_avg28 X hs K hd o2 o5 k48 k481 eR
  obtain ⟨⟨x, g2⟩, a1, a2, a3, a4, a5, a6⟩ := key
  simp only at a2 a4 a5 a6
  have X2 := a6.fx X
  have ew : nI d - 1 = wI d := rfl
  rw [eres] at a2 a3 a4 a5
  have eA : (if nI (AVR pd pl tm A d).2.1 = 0 then some (0, g2) else (dvI x (nI (AVR pd pl tm A d).2.1)).bind fun x75 => some (x75, g2) : Option (Int32 × Hp)) = some (AVG pd pl tm A d, g2) := by
    unfold AVG
    by_cases z : (AVR pd pl tm A d).2.1 = 0
    · rw [if_pos z, z, if_pos (show nI 0 = (0 : Int32) from rfl)]
    · have nz := nI_ne0 (n := (AVR pd pl tm A d).2.1) (by omega) (by omega)
      rw [if_neg z, if_neg nz]
      unfold dvI
      rw [if_neg nz, bd_some, a2]
  refine ⟨si g2 45 56 (AVG pd pl tm A d), ?_, a6.trans (FrM.fld (by decide)), hi_hit _ _ _, by simp (disch := (first | assumption | omega | decide)) only [hi_hit, hi_row, hi_col, hj_hit, hj_row, hj_col, hi_sj, hj_si, hq_si, hq_sj, hi_sq, hj_sq, hi_srh, hi_srm, hj_sr, hq_sr, hq_hit, hq_row, hq_col]; exact a4, by simp (disch := (first | assumption | omega | decide)) only [hi_hit, hi_row, hi_col, hj_hit, hj_row, hj_col, hi_sj, hj_si, hq_si, hq_sj, hi_sq, hj_sq, hi_srh, hi_srm, hj_sr, hq_sr, hq_hit, hq_row, hq_col]; exact a5⟩
  have X0 : FX (si g 45 57 0) := X
  unfold f_X9_averageOf
  rw [q45_34 X, bd_some, r66 X hf, bd_some, e66, dv7, bd_some, pi45 X, bd_some, pi45 X0, bd_some, ew, a1, b1_some, gi45 X2, bd_some, a4, bd_some, eA, b1_some, pi45 X2, bd_some]
