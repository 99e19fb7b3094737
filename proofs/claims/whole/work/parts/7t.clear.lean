/-! The model clears a shelf. -/
/-- the numbers of an act with no lines -/
def pln (n : Nat) : Int32 := if n = 0 then 12 else if n = 1 then 104 else if n = 2 then 5 else if n = 3 then 90 else if n = 4 then 90 else if n = 5 then 9999 else 0
theorem m_plain {n : Nat} (hn : n < 7) (g : Hp) : f_X9_plain (nI n) g = some (pln n, g) := by
  rcases (show n = 0 ∨ n = 1 ∨ n = 2 ∨ n = 3 ∨ n = 4 ∨ n = 5 ∨ n = 6 by omega) with rfl | rfl | rfl | rfl | rfl | rfl | rfl <;> rfl
section Cl
variable {h : Hp} {s : Nat}
theorem m_clear (X : FX h) (hs : s < 5) : ∃ g, f_X9_clear 45 (nI s) h = some g ∧ FrM [48, 49, 50, 60, 61] [] h g ∧ (∀ n, n < 7 → hi g 48 (7 * s + n) = pln n ∧ hi g 60 (7 * s + n) = 0) ∧ (∀ j, ¬ (7 * s ≤ j ∧ j < 7 * s + 7) → hi g 48 j = hi h 48 j ∧ hi g 60 j = hi h 60 j) ∧ hi g 49 s = 0 ∧ hi g 50 s = 0 ∧ hi g 61 s = 0 ∧ ∀ j, j ≠ s → hi g 49 j = hi h 49 j ∧ hi g 50 j = hi h 50 j ∧ hi g 61 j = hi h 61 j := by
  have e7 : ∀ i, (7 : Int32) * nI s + nI i = nI (7 * s + i) := fun i => by
    rw [show (7 : Int32) = nI 7 from rfl, pk_mul, nI_add]
  have key : ∃ g, f_X9_clear_L2 fu 45 (nI s) 0 h = some g ∧ (FrM [48, 60] [] h g ∧ (∀ n, n < 7 → hi g 48 (7 * s + n) = pln n ∧ hi g 60 (7 * s + n) = 0) ∧ ∀ j, ¬ (7 * s ≤ j ∧ j < 7 * s + 7) → hi g 48 j = hi h 48 j ∧ hi g 60 j = hi h 60 j) := by
    refine forN (fun n i g => f_X9_clear_L2 n 45 (nI s) i g) 7 (by omega) (fun m g => FrM [48, 60] [] h g ∧ (∀ n, n < m → hi g 48 (7 * s + n) = pln n ∧ hi g 60 (7 * s + n) = 0) ∧ ∀ j, ¬ (7 * s ≤ j ∧ j < 7 * s + 7) → hi g 48 j = hi h 48 j ∧ hi g 60 j = hi h 60 j) (fun g => FrM [48, 60] [] h g ∧ (∀ n, n < 7 → hi g 48 (7 * s + n) = pln n ∧ hi g 60 (7 * s + n) = 0) ∧ ∀ j, ¬ (7 * s ≤ j ∧ j < 7 * s + 7) → hi g 48 j = hi h 48 j ∧ hi g 60 j = hi h 60 j) ?_ ?_ (i0 := 0) (Nat.zero_le _) ⟨FrM.rfl, fun n hn => absurd hn (Nat.not_lt_zero _), fun _ _ => ⟨rfl, rfl⟩⟩
    · rintro n g I
      refine ⟨g, ?_, I⟩
      rw [f_X9_clear_L2.eq_2, if_pos (show (7 : Int32) ≤ nI 7 from Int32.le_refl _)]
    · rintro n i g hi' ⟨I1, I2, I3⟩
      right
      have Xg := I1.fx X
      have q1 : ¬ (7 : Int32) ≤ nI i := by rw [show (7 : Int32) = nI 7 from rfl, nI_leI (by omega) (by omega)]; omega
      have pl := m_plain hi' g
      have q2 : 7 * s + i < 35 := by omega
      have ei := e7 i
      refine ⟨si (si g 48 (7 * s + i) (pln i)) 60 (7 * s + i) 0, ?_, (I1.trans (FrM.row (by decide) (by decide))).trans (FrM.row (by decide) (by decide)), fun m hm => ?_, fun j hj => ?_⟩
      · rw [f_X9_clear_L2.eq_2]
        simp (disch := (first | assumption | (simp only [FX_si, FX_sj, FX_sr, WX_si, WX_sj, WX_sr, FK_si, FK_sj, FK_sr]; assumption) | omega | decide)) only [q1, pl, ei, nI_1, ↓reduceIte, if_true, if_false, i10, i01, eq_self, wq7, wq8, wq9, wq10, wrc, wgi, wpi, wpz, wn1, wn2, wn3, wn4, wr1, wr2, wr3, wr4, ww1, ww2, ww3, ww4, fgi, fgq, fpi, frc, at18, at19, at21, at22, at23, at24, at25, at26, at_neg, wat1, wat2, wat3, wat4, reduceCtorEq, bd_some, b1_some, b2_some, b3_some, b4_some, c1_eq, elim_inl, elim_inr, zok0, zok1, getQ_si, getQ_sj, getQ_sr, q8_0, q8_1, q8_2, q8_4, q8_7, q8_8, q8_9, q8_10, q8_11, q9_0, q9_3, q9_4, q9_8, q17_0, q17_1, q17_2, q17_4, q17_5, q17_6, q17_9, q17_10, q17_11, q27_4, q27_5, q27_6, q27_7, q27_8, q27_11, q45_0, q45_1, q45_11, q45_12, q45_13, q45_14, q45_15, q45_16, q45_17, q45_18, q45_19, q45_20, q45_21, q45_22, q45_23, q45_24, q45_30, q45_31, q45_32, q45_33, q45_34, q45_35, q45_36, q45_37, q45_38, q45_39, q45_43, q45_44, q45_45, q45_46, q45_47, q45_48, q45_52, q45_53, q45_54, q45_59, q45_60, q45_61, q45_62, q45_65, q45_67, q45_68, gi8, gj8, pi8, pz8, pj8, rc8, gi9, gj9, pi9, pz9, pj9, rc9, gi17, gj17, pi17, pz17, pj17, rc17, gi27, gj27, pi27, pz27, pj27, rc27, gi45, gj45, pi45, pz45, pj45, rc45, aln_si, aln_sj, aln_sq, rc_si, rc_sj, rc_sq, n0, n1, n10, n11, n12, n13, n14, n15, n16, n18, n19, n20, n21, n22, n23, n24, n25, n26, n29, n30, n31, n32, n33, n34, n35, n36, n37, n38, n39, n40, n42, n43, n44, n46, n47, n48, n49, n50, n51, n52, n53, n54, n55, n56, n57, n58, n59, n60, n61, n62, n63, n64, n65, n66, n67, n68, n69, n70, n71, n72, n73, n74, n75, n76, n77, n78, n79, n80, n81, n82, n83, n84, n85, n86, n87, r0, r1, r10, r11, r12, r13, r14, r15, r16, r18, r19, r20, r21, r22, r23, r24, r25, r26, r29, r30, r31, r32, r33, r34, r35, r36, r37, r38, r39, r40, r42, r43, r44, r46, r47, r48, r49, r50, r51, r52, r53, r54, r55, r56, r57, r58, r59, r60, r61, r62, r63, r64, r65, r66, r67, r68, r69, r70, r71, r72, r73, r74, r75, r76, r77, r78, r79, r80, r81, r82, r83, r84, r85, r86, r87, w10, w11, w12, w13, w18, w19, w20, w21, w22, w23, w24, w25, w26, w30, w31, w32, w33, w34, w35, w36, w38, w39, w40, w43, w44, w46, w47, w48, w49, w50, w51, w52, w53, w54, w55, w56, w57, w58, w59, w60, w61, w62, w63, w64, w65, w66, w67, w68, w69, w70, w71, w72, w73, w74, w75, w76, w77, w78, w79, w80, w81, w82, w83, w84, w85, w86, w87, hi_hit, hi_row, hi_col, hj_hit, hj_row, hj_col, hi_sj, hj_si, hq_si, hq_sj, hi_sq, hj_sq, hi_srh, hi_srm]
      · by_cases q : m = i
        · subst q
          rw [hi_row _ _ _ (by decide), hi_hit, hi_hit]
          exact ⟨rfl, rfl⟩
        · rw [hi_row _ _ _ (by decide), hi_col _ _ (by omega), hi_col _ _ (by omega), hi_row _ _ _ (by decide)]
          exact I2 m (by omega)
      · rw [hi_row _ _ _ (by decide), hi_col _ _ (by omega), hi_col _ _ (by omega), hi_row _ _ _ (by decide)]
        exact I3 j hj
  obtain ⟨g, a1, a2, a3, a4⟩ := key
  have Xg := a2.fx X
  refine ⟨si (si (si g 49 s 0) 50 s 0) 61 s 0, ?_, ((a2.wk (by decide) (by decide)).trans (FrM.row (by decide) (by decide))).trans ((FrM.row (by decide) (by decide)).trans (FrM.row (by decide) (by decide))), fun n hn => ?_, fun j hj => ?_, ?_, ?_, hi_hit _ _ _, fun j hj => ?_⟩
  · unfold f_X9_clear
    simp (disch := (first | assumption | (simp only [FX_si, FX_sj, FX_sr, WX_si, WX_sj, WX_sr, FK_si, FK_sj, FK_sr]; assumption) | omega | decide)) only [a1, ↓reduceIte, if_true, if_false, i10, i01, eq_self, wq7, wq8, wq9, wq10, wrc, wgi, wpi, wpz, wn1, wn2, wn3, wn4, wr1, wr2, wr3, wr4, ww1, ww2, ww3, ww4, fgi, fgq, fpi, frc, at18, at19, at21, at22, at23, at24, at25, at26, at_neg, wat1, wat2, wat3, wat4, reduceCtorEq, bd_some, b1_some, b2_some, b3_some, b4_some, c1_eq, elim_inl, elim_inr, zok0, zok1, getQ_si, getQ_sj, getQ_sr, q8_0, q8_1, q8_2, q8_4, q8_7, q8_8, q8_9, q8_10, q8_11, q9_0, q9_3, q9_4, q9_8, q17_0, q17_1, q17_2, q17_4, q17_5, q17_6, q17_9, q17_10, q17_11, q27_4, q27_5, q27_6, q27_7, q27_8, q27_11, q45_0, q45_1, q45_11, q45_12, q45_13, q45_14, q45_15, q45_16, q45_17, q45_18, q45_19, q45_20, q45_21, q45_22, q45_23, q45_24, q45_30, q45_31, q45_32, q45_33, q45_34, q45_35, q45_36, q45_37, q45_38, q45_39, q45_43, q45_44, q45_45, q45_46, q45_47, q45_48, q45_52, q45_53, q45_54, q45_59, q45_60, q45_61, q45_62, q45_65, q45_67, q45_68, gi8, gj8, pi8, pz8, pj8, rc8, gi9, gj9, pi9, pz9, pj9, rc9, gi17, gj17, pi17, pz17, pj17, rc17, gi27, gj27, pi27, pz27, pj27, rc27, gi45, gj45, pi45, pz45, pj45, rc45, aln_si, aln_sj, aln_sq, rc_si, rc_sj, rc_sq, n0, n1, n10, n11, n12, n13, n14, n15, n16, n18, n19, n20, n21, n22, n23, n24, n25, n26, n29, n30, n31, n32, n33, n34, n35, n36, n37, n38, n39, n40, n42, n43, n44, n46, n47, n48, n49, n50, n51, n52, n53, n54, n55, n56, n57, n58, n59, n60, n61, n62, n63, n64, n65, n66, n67, n68, n69, n70, n71, n72, n73, n74, n75, n76, n77, n78, n79, n80, n81, n82, n83, n84, n85, n86, n87, r0, r1, r10, r11, r12, r13, r14, r15, r16, r18, r19, r20, r21, r22, r23, r24, r25, r26, r29, r30, r31, r32, r33, r34, r35, r36, r37, r38, r39, r40, r42, r43, r44, r46, r47, r48, r49, r50, r51, r52, r53, r54, r55, r56, r57, r58, r59, r60, r61, r62, r63, r64, r65, r66, r67, r68, r69, r70, r71, r72, r73, r74, r75, r76, r77, r78, r79, r80, r81, r82, r83, r84, r85, r86, r87, w10, w11, w12, w13, w18, w19, w20, w21, w22, w23, w24, w25, w26, w30, w31, w32, w33, w34, w35, w36, w38, w39, w40, w43, w44, w46, w47, w48, w49, w50, w51, w52, w53, w54, w55, w56, w57, w58, w59, w60, w61, w62, w63, w64, w65, w66, w67, w68, w69, w70, w71, w72, w73, w74, w75, w76, w77, w78, w79, w80, w81, w82, w83, w84, w85, w86, w87, hi_hit, hi_row, hi_col, hj_hit, hj_row, hj_col, hi_sj, hj_si, hq_si, hq_sj, hi_sq, hj_sq, hi_srh, hi_srm]
  · rw [hi_row _ _ _ (by decide), hi_row _ _ _ (by decide), hi_row _ _ _ (by decide), hi_row _ _ _ (by decide), hi_row _ _ _ (by decide), hi_row _ _ _ (by decide)]
    exact a3 n hn
  · rw [hi_row _ _ _ (by decide), hi_row _ _ _ (by decide), hi_row _ _ _ (by decide), hi_row _ _ _ (by decide), hi_row _ _ _ (by decide), hi_row _ _ _ (by decide)]
    exact a4 j hj
  · rw [hi_row _ _ _ (by decide), hi_row _ _ _ (by decide), hi_hit]
  · rw [hi_row _ _ _ (by decide), hi_hit]
  · rw [hi_row _ _ _ (by decide), hi_row _ _ _ (by decide), hi_col _ _ hj, hi_row _ _ _ (by decide), hi_col _ _ hj, hi_row _ _ _ (by decide), hi_col _ _ hj, hi_row _ _ _ (by decide), hi_row _ _ _ (by decide), a2.ei j (by decide) (by decide), a2.ei j (by decide) (by decide), a2.ei j (by decide) (by decide)]
    exact ⟨rfl, rfl, rfl⟩
/-- all five shelves -/
theorem m_clears (X : FX h) : ∃ g, f_X9_init_L361 fu 45 0 h = some g ∧ FrM [48, 49, 50, 60, 61] [] h g ∧ (∀ s n, s < 5 → n < 7 → hi g 48 (7 * s + n) = pln n) ∧ ∀ s, s < 5 → hi g 49 s = 0 ∧ hi g 50 s = 0 ∧ hi g 61 s = 0 := by
  refine forN (fun n i g => f_X9_init_L361 n 45 i g) 5 (by omega) (fun m g => FrM [48, 49, 50, 60, 61] [] h g ∧ (∀ s n, s < m → n < 7 → hi g 48 (7 * s + n) = pln n) ∧ ∀ s, s < m → hi g 49 s = 0 ∧ hi g 50 s = 0 ∧ hi g 61 s = 0) (fun g => FrM [48, 49, 50, 60, 61] [] h g ∧ (∀ s n, s < 5 → n < 7 → hi g 48 (7 * s + n) = pln n) ∧ ∀ s, s < 5 → hi g 49 s = 0 ∧ hi g 50 s = 0 ∧ hi g 61 s = 0) ?_ ?_ (i0 := 0) (Nat.zero_le _) ⟨FrM.rfl, fun s n hs => absurd hs (Nat.not_lt_zero _), fun s hs => absurd hs (Nat.not_lt_zero _)⟩
  · rintro n g I
    refine ⟨g, ?_, I⟩
    rw [f_X9_init_L361.eq_2, if_pos (show (4 : Int32) < nI 5 by decide)]
  · rintro n i g hi' ⟨I1, I2, I3⟩
    right
    have Xg := I1.fx X
    have q1 : ¬ (4 : Int32) < nI i := by rw [show (4 : Int32) = nI 4 from rfl, nI_ltI (by omega) (by omega)]; omega
    obtain ⟨g', b1', b2', b3', b4', b5', b6', b7', b8'⟩ := m_clear Xg hi'
    refine ⟨g', ?_, I1.trans b2', fun s n hs hn => ?_, fun s hs => ?_⟩
    · rw [f_X9_init_L361.eq_2]
      simp (disch := (first | assumption | (simp only [FX_si, FX_sj, FX_sr, WX_si, WX_sj, WX_sr, FK_si, FK_sj, FK_sr]; assumption) | omega | decide)) only [q1, b1', nI_1, ↓reduceIte, if_true, if_false, i10, i01, eq_self, wq7, wq8, wq9, wq10, wrc, wgi, wpi, wpz, wn1, wn2, wn3, wn4, wr1, wr2, wr3, wr4, ww1, ww2, ww3, ww4, fgi, fgq, fpi, frc, at18, at19, at21, at22, at23, at24, at25, at26, at_neg, wat1, wat2, wat3, wat4, reduceCtorEq, bd_some, b1_some, b2_some, b3_some, b4_some, c1_eq, elim_inl, elim_inr, zok0, zok1, getQ_si, getQ_sj, getQ_sr, q8_0, q8_1, q8_2, q8_4, q8_7, q8_8, q8_9, q8_10, q8_11, q9_0, q9_3, q9_4, q9_8, q17_0, q17_1, q17_2, q17_4, q17_5, q17_6, q17_9, q17_10, q17_11, q27_4, q27_5, q27_6, q27_7, q27_8, q27_11, q45_0, q45_1, q45_11, q45_12, q45_13, q45_14, q45_15, q45_16, q45_17, q45_18, q45_19, q45_20, q45_21, q45_22, q45_23, q45_24, q45_30, q45_31, q45_32, q45_33, q45_34, q45_35, q45_36, q45_37, q45_38, q45_39, q45_43, q45_44, q45_45, q45_46, q45_47, q45_48, q45_52, q45_53, q45_54, q45_59, q45_60, q45_61, q45_62, q45_65, q45_67, q45_68, gi8, gj8, pi8, pz8, pj8, rc8, gi9, gj9, pi9, pz9, pj9, rc9, gi17, gj17, pi17, pz17, pj17, rc17, gi27, gj27, pi27, pz27, pj27, rc27, gi45, gj45, pi45, pz45, pj45, rc45, aln_si, aln_sj, aln_sq, rc_si, rc_sj, rc_sq, n0, n1, n10, n11, n12, n13, n14, n15, n16, n18, n19, n20, n21, n22, n23, n24, n25, n26, n29, n30, n31, n32, n33, n34, n35, n36, n37, n38, n39, n40, n42, n43, n44, n46, n47, n48, n49, n50, n51, n52, n53, n54, n55, n56, n57, n58, n59, n60, n61, n62, n63, n64, n65, n66, n67, n68, n69, n70, n71, n72, n73, n74, n75, n76, n77, n78, n79, n80, n81, n82, n83, n84, n85, n86, n87, r0, r1, r10, r11, r12, r13, r14, r15, r16, r18, r19, r20, r21, r22, r23, r24, r25, r26, r29, r30, r31, r32, r33, r34, r35, r36, r37, r38, r39, r40, r42, r43, r44, r46, r47, r48, r49, r50, r51, r52, r53, r54, r55, r56, r57, r58, r59, r60, r61, r62, r63, r64, r65, r66, r67, r68, r69, r70, r71, r72, r73, r74, r75, r76, r77, r78, r79, r80, r81, r82, r83, r84, r85, r86, r87, w10, w11, w12, w13, w18, w19, w20, w21, w22, w23, w24, w25, w26, w30, w31, w32, w33, w34, w35, w36, w38, w39, w40, w43, w44, w46, w47, w48, w49, w50, w51, w52, w53, w54, w55, w56, w57, w58, w59, w60, w61, w62, w63, w64, w65, w66, w67, w68, w69, w70, w71, w72, w73, w74, w75, w76, w77, w78, w79, w80, w81, w82, w83, w84, w85, w86, w87, hi_hit, hi_row, hi_col, hj_hit, hj_row, hj_col, hi_sj, hj_si, hq_si, hq_sj, hi_sq, hj_sq, hi_srh, hi_srm]
    · by_cases q : s = i
      · subst q
        exact (b3' n hn).1
      · rw [(b4' (7 * s + n) (by omega)).1]
        exact I2 s n (by omega) hn
    · by_cases q : s = i
      · subst q
        exact ⟨b5', b6', b7'⟩
      · obtain ⟨y1, y2, y3⟩ := b8' s q
        rw [y1, y2, y3]
        exact I3 s (by omega)
end Cl
