/-! The model's know: the rows that the facts of a worker make. -/
section Mb
variable {h : Hp}
theorem vF_fr {A B : List Nat} {h' : Hp} (fr : FrM A B h h') (q : [64, 65, 66, 67, 68, 69, 70].all (fun x => !A.contains x) = true) (j f : Nat) (hj : j < 7) : vF h' j f = vF h j f := by
  rw [vF_at _ f hj, vF_at _ f hj]
  refine fr.ei f ?_ (by omega)
  intro hm
  rcases (by omega : j = 0 ∨ j = 1 ∨ j = 2 ∨ j = 3 ∨ j = 4 ∨ j = 5 ∨ j = 6) with e | e | e | e | e | e | e <;> subst e <;> simp at q <;> simp_all
theorem vF_frE {A B : List Nat} {h' : Hp} (fr : FrM A B h h') (q : [64, 65, 66, 67, 68, 69, 70].all (fun x => !A.contains x) = true) : vF h' = vF h := by
  funext j f
  by_cases hj : j < 7
  · exact vF_fr fr q j f hj
  · unfold vF
    rw [if_neg hj, if_neg hj]
theorem cnts_congr {F G : Nat → Nat → Int32} {s w k : Int32} {f : Nat} (e : ∀ j, j < 7 → F j f = G j f) : cnts F s w k f = cnts G s w k f := by
  unfold cnts ctk
  rw [e 0 (by omega), e 1 (by omega), e 5 (by omega), e 6 (by omega)]
theorem m_know2 (F : FX h) (w k : Int32) : ∃ g, f_X9_know_L2 fu 45 w k 0 h = some g ∧ FrM [72] [] h g ∧ ∀ j, j < 624 → hi g 72 j = 0 := by
  refine forN (fun n v g => f_X9_know_L2 n 45 w k v g) 624 (by omega) (fun i g => FrM [72] [] h g ∧ ∀ j, j < i → hi g 72 j = 0) (fun g => FrM [72] [] h g ∧ ∀ j, j < 624 → hi g 72 j = 0) ?_ ?_ (i0 := 0) (Nat.zero_le _) ⟨FrM.rfl, fun j hj => absurd hj (Nat.not_lt_zero _)⟩
  · intro n g I
    exact ⟨g, by simp only [f_X9_know_L2.eq_2]; rw [if_pos (by decide)], I⟩
  · rintro n i g hi' ⟨I1, I2⟩
    have Fg := I1.fx F
    refine Or.inr ⟨si g 72 i 0, ?_, I1.trans (FrM.row (by decide) (by decide)), ?_⟩
    · simp only [f_X9_know_L2.eq_2]
      rw [if_neg (by rw [L624, nI_leI (by omega) (by omega)]; omega)]
      simp (disch := (first | assumption | (simp only [FX_si, FX_sj, FX_sr]; assumption) | omega | decide)) only [nI_1, bd_some, b1_some, b2_some, b3_some, b4_some, c1_eq, elim_inl, elim_inr, zok0, zok1, getQ_si, getQ_sj, getQ_sr, q8_0, q8_1, q8_2, q8_4, q8_7, q8_8, q8_9, q8_10, q8_11, q9_0, q9_3, q9_4, q9_8, q17_0, q17_1, q17_2, q17_4, q17_5, q17_6, q17_9, q17_10, q17_11, q27_4, q27_5, q27_6, q27_7, q27_8, q27_11, q45_0, q45_1, q45_11, q45_12, q45_13, q45_14, q45_15, q45_16, q45_17, q45_18, q45_19, q45_20, q45_21, q45_22, q45_23, q45_24, q45_30, q45_31, q45_32, q45_33, q45_34, q45_35, q45_36, q45_37, q45_38, q45_39, q45_43, q45_44, q45_45, q45_46, q45_47, q45_48, q45_52, q45_53, q45_54, q45_59, q45_60, q45_61, q45_62, q45_65, q45_67, q45_68, gi8, gj8, pi8, pz8, pj8, rc8, gi9, gj9, pi9, pz9, pj9, rc9, gi17, gj17, pi17, pz17, pj17, rc17, gi27, gj27, pi27, pz27, pj27, rc27, gi45, gj45, pi45, pz45, pj45, rc45, aln_si, aln_sj, aln_sq, rc_si, rc_sj, rc_sq, n0, n1, n10, n11, n12, n13, n14, n15, n16, n18, n19, n20, n21, n22, n23, n24, n25, n26, n29, n30, n31, n32, n33, n34, n35, n36, n37, n38, n39, n40, n42, n43, n44, n46, n47, n48, n49, n50, n51, n52, n53, n54, n55, n56, n57, n58, n59, n60, n61, n62, n63, n64, n65, n66, n67, n68, n69, n70, n71, n72, n73, n74, n75, n76, n77, n78, n79, n80, n81, n82, n83, n84, n85, n86, n87, r0, r1, r10, r11, r12, r13, r14, r15, r16, r18, r19, r20, r21, r22, r23, r24, r25, r26, r29, r30, r31, r32, r33, r34, r35, r36, r37, r38, r39, r40, r42, r43, r44, r46, r47, r48, r49, r50, r51, r52, r53, r54, r55, r56, r57, r58, r59, r60, r61, r62, r63, r64, r65, r66, r67, r68, r69, r70, r71, r72, r73, r74, r75, r76, r77, r78, r79, r80, r81, r82, r83, r84, r85, r86, r87, w10, w11, w12, w13, w18, w19, w20, w21, w22, w23, w24, w25, w26, w30, w31, w32, w33, w34, w35, w36, w38, w39, w40, w43, w44, w46, w47, w48, w49, w50, w51, w52, w53, w54, w55, w56, w57, w58, w59, w60, w61, w62, w63, w64, w65, w66, w67, w68, w69, w70, w71, w72, w73, w74, w75, w76, w77, w78, w79, w80, w81, w82, w83, w84, w85, w86, w87, hi_hit, hi_row, hi_col, hj_hit, hj_row, hj_col, hi_sj, hj_si, hq_si, hq_sj, hi_sq, hj_sq, hi_srh, hi_srm]
    · intro j hj
      by_cases e : j = i
      · subst e; exact hi_hit _ _ _
      · rw [hi_col 72 _ e]; exact I2 j (by omega)
theorem m_know24 (F : FX h) (w k : Int32) : ∃ g, f_X9_know_L24 fu 45 w k 0 h = some g ∧ FrM [76] [] h g ∧ ∀ j, j < 104 → hi g 76 j = 0 := by
  refine forN (fun n v g => f_X9_know_L24 n 45 w k v g) 104 (by omega) (fun i g => FrM [76] [] h g ∧ ∀ j, j < i → hi g 76 j = 0) (fun g => FrM [76] [] h g ∧ ∀ j, j < 104 → hi g 76 j = 0) ?_ ?_ (i0 := 0) (Nat.zero_le _) ⟨FrM.rfl, fun j hj => absurd hj (Nat.not_lt_zero _)⟩
  · intro n g I
    exact ⟨g, by simp only [f_X9_know_L24.eq_2]; rw [if_pos (by decide)], I⟩
  · rintro n i g hi' ⟨I1, I2⟩
    have Fg := I1.fx F
    refine Or.inr ⟨si g 76 i 0, ?_, I1.trans (FrM.row (by decide) (by decide)), ?_⟩
    · simp only [f_X9_know_L24.eq_2]
      rw [if_neg (by rw [L104, nI_leI (by omega) (by omega)]; omega)]
      have z01 : (0 : Int32) = 0 ∨ (0 : Int32) = 1 := Or.inl rfl
      simp (disch := (first | assumption | (simp only [FX_si, FX_sj, FX_sr]; assumption) | omega | decide)) only [nI_1, bd_some, b1_some, b2_some, b3_some, b4_some, c1_eq, elim_inl, elim_inr, zok0, zok1, getQ_si, getQ_sj, getQ_sr, q8_0, q8_1, q8_2, q8_4, q8_7, q8_8, q8_9, q8_10, q8_11, q9_0, q9_3, q9_4, q9_8, q17_0, q17_1, q17_2, q17_4, q17_5, q17_6, q17_9, q17_10, q17_11, q27_4, q27_5, q27_6, q27_7, q27_8, q27_11, q45_0, q45_1, q45_11, q45_12, q45_13, q45_14, q45_15, q45_16, q45_17, q45_18, q45_19, q45_20, q45_21, q45_22, q45_23, q45_24, q45_30, q45_31, q45_32, q45_33, q45_34, q45_35, q45_36, q45_37, q45_38, q45_39, q45_43, q45_44, q45_45, q45_46, q45_47, q45_48, q45_52, q45_53, q45_54, q45_59, q45_60, q45_61, q45_62, q45_65, q45_67, q45_68, gi8, gj8, pi8, pz8, pj8, rc8, gi9, gj9, pi9, pz9, pj9, rc9, gi17, gj17, pi17, pz17, pj17, rc17, gi27, gj27, pi27, pz27, pj27, rc27, gi45, gj45, pi45, pz45, pj45, rc45, aln_si, aln_sj, aln_sq, rc_si, rc_sj, rc_sq, n0, n1, n10, n11, n12, n13, n14, n15, n16, n18, n19, n20, n21, n22, n23, n24, n25, n26, n29, n30, n31, n32, n33, n34, n35, n36, n37, n38, n39, n40, n42, n43, n44, n46, n47, n48, n49, n50, n51, n52, n53, n54, n55, n56, n57, n58, n59, n60, n61, n62, n63, n64, n65, n66, n67, n68, n69, n70, n71, n72, n73, n74, n75, n76, n77, n78, n79, n80, n81, n82, n83, n84, n85, n86, n87, r0, r1, r10, r11, r12, r13, r14, r15, r16, r18, r19, r20, r21, r22, r23, r24, r25, r26, r29, r30, r31, r32, r33, r34, r35, r36, r37, r38, r39, r40, r42, r43, r44, r46, r47, r48, r49, r50, r51, r52, r53, r54, r55, r56, r57, r58, r59, r60, r61, r62, r63, r64, r65, r66, r67, r68, r69, r70, r71, r72, r73, r74, r75, r76, r77, r78, r79, r80, r81, r82, r83, r84, r85, r86, r87, w10, w11, w12, w13, w18, w19, w20, w21, w22, w23, w24, w25, w26, w30, w31, w32, w33, w34, w35, w36, w38, w39, w40, w43, w44, w46, w47, w48, w49, w50, w51, w52, w53, w54, w55, w56, w57, w58, w59, w60, w61, w62, w63, w64, w65, w66, w67, w68, w69, w70, w71, w72, w73, w74, w75, w76, w77, w78, w79, w80, w81, w82, w83, w84, w85, w86, w87, hi_hit, hi_row, hi_col, hj_hit, hj_row, hj_col, hi_sj, hj_si, hq_si, hq_sj, hi_sq, hj_sq, hi_srh, hi_srm]
    · intro j hj
      by_cases e : j = i
      · subst e; exact hi_hit _ _ _
      · rw [hi_col 76 _ e]; exact I2 j (by omega)
/-- the rows as the facts ahead of f make them -/
def KI (F : Nat → Nat → Int32) (wk k : Int32) (f : Nat) (g : Hp) : Prop :=
  (∀ i w, i < 6 → w < 104 → hi g 72 (6 * w + i) = PDn F wk k f i w) ∧ (∀ w, w < 104 → hi g 76 w = if LSn F wk k f w = true then 1 else 0) ∧
  hi g 45 49 = nI (BKn F wk k f).length ∧ ∀ j (hj : j < (BKn F wk k f).length), hi g 75 j = nI ((BKn F wk k f)[j])
theorem BCn_mono (F : Nat → Nat → Int32) (wk : Int32) {n m : Nat} (hnm : n ≤ m) : BCn F wk n ≤ BCn F wk m := by
  induction m with
  | zero => rw [Nat.le_zero.mp hnm]; exact Nat.le_refl _
  | succ m ih =>
    rcases Nat.lt_or_ge m n with q | q
    · rw [show n = m + 1 by omega]; exact Nat.le_refl _
    · refine Nat.le_trans (ih q) ?_
      show _ ≤ BCn F wk (m + 1)
      rw [BCn.eq_2]
      split <;> omega
theorem m_know50 (F : FX h) {nw nf w : Nat} (hw : w < nw) (hw' : nw ≤ 10) (hnf : nf ≤ 250) (e41 : hi h 45 41 = nI nf) (R : RG (vF h) nw nf) (k : Int32)
    (z1 : ∀ j, j < 624 → hi h 72 j = 0) (z2 : ∀ j, j < 104 → hi h 76 j = 0) (z3 : hi h 45 49 = 0) :
    ∃ g, f_X9_know_L50 fu 45 (nI w) k 0 h = some g ∧ FrM [72, 75, 76] [49] h g ∧ KI (vF h) (nI w) k nf g := by
  have z01 : (1 : Int32) = 0 ∨ (1 : Int32) = 1 := Or.inr rfl
  refine forN (fun n v g => f_X9_know_L50 n 45 (nI w) k v g) nf (by omega) (fun f g => FrM [72, 75, 76] [49] h g ∧ KI (vF h) (nI w) k f g) (fun g => FrM [72, 75, 76] [49] h g ∧ KI (vF h) (nI w) k nf g) ?_ ?_ (i0 := 0) (Nat.zero_le _) ⟨FrM.rfl, fun i w hi' hw => z1 _ (by omega), fun w hw => z2 w hw, z3, fun j hj => absurd hj (Nat.not_lt_zero _)⟩
  · rintro n g ⟨I1, I2⟩
    have Fg := I1.fx F
    refine ⟨g, ?_, I1, I2⟩
    have e : hi g 45 41 = nI nf := (I1.ef (by decide)).trans e41
    simp only [f_X9_know_L50.eq_2]
    simp (disch := (first | assumption | (simp only [FX_si, FX_sj, FX_sr]; assumption) | omega | decide)) only [e, bd_some, b1_some, b2_some, b3_some, b4_some, c1_eq, elim_inl, elim_inr, zok0, zok1, getQ_si, getQ_sj, getQ_sr, q8_0, q8_1, q8_2, q8_4, q8_7, q8_8, q8_9, q8_10, q8_11, q9_0, q9_3, q9_4, q9_8, q17_0, q17_1, q17_2, q17_4, q17_5, q17_6, q17_9, q17_10, q17_11, q27_4, q27_5, q27_6, q27_7, q27_8, q27_11, q45_0, q45_1, q45_11, q45_12, q45_13, q45_14, q45_15, q45_16, q45_17, q45_18, q45_19, q45_20, q45_21, q45_22, q45_23, q45_24, q45_30, q45_31, q45_32, q45_33, q45_34, q45_35, q45_36, q45_37, q45_38, q45_39, q45_43, q45_44, q45_45, q45_46, q45_47, q45_48, q45_52, q45_53, q45_54, q45_59, q45_60, q45_61, q45_62, q45_65, q45_67, q45_68, gi8, gj8, pi8, pz8, pj8, rc8, gi9, gj9, pi9, pz9, pj9, rc9, gi17, gj17, pi17, pz17, pj17, rc17, gi27, gj27, pi27, pz27, pj27, rc27, gi45, gj45, pi45, pz45, pj45, rc45, aln_si, aln_sj, aln_sq, rc_si, rc_sj, rc_sq, n0, n1, n10, n11, n12, n13, n14, n15, n16, n18, n19, n20, n21, n22, n23, n24, n25, n26, n29, n30, n31, n32, n33, n34, n35, n36, n37, n38, n39, n40, n42, n43, n44, n46, n47, n48, n49, n50, n51, n52, n53, n54, n55, n56, n57, n58, n59, n60, n61, n62, n63, n64, n65, n66, n67, n68, n69, n70, n71, n72, n73, n74, n75, n76, n77, n78, n79, n80, n81, n82, n83, n84, n85, n86, n87, r0, r1, r10, r11, r12, r13, r14, r15, r16, r18, r19, r20, r21, r22, r23, r24, r25, r26, r29, r30, r31, r32, r33, r34, r35, r36, r37, r38, r39, r40, r42, r43, r44, r46, r47, r48, r49, r50, r51, r52, r53, r54, r55, r56, r57, r58, r59, r60, r61, r62, r63, r64, r65, r66, r67, r68, r69, r70, r71, r72, r73, r74, r75, r76, r77, r78, r79, r80, r81, r82, r83, r84, r85, r86, r87, w10, w11, w12, w13, w18, w19, w20, w21, w22, w23, w24, w25, w26, w30, w31, w32, w33, w34, w35, w36, w38, w39, w40, w43, w44, w46, w47, w48, w49, w50, w51, w52, w53, w54, w55, w56, w57, w58, w59, w60, w61, w62, w63, w64, w65, w66, w67, w68, w69, w70, w71, w72, w73, w74, w75, w76, w77, w78, w79, w80, w81, w82, w83, w84, w85, w86, w87, hi_hit, hi_row, hi_col, hj_hit, hj_row, hj_col, hi_sj, hj_si, hq_si, hq_sj, hi_sq, hj_sq, hi_srh, hi_srm]
    rw [if_pos (by rw [nI_leI (by omega) (by omega)]; omega)]
  · rintro n f g hf ⟨I1, I2, I3, I4, I5⟩
    have Fg := I1.fx F
    have hf' : f < 250 := by omega
    have e : hi g 45 41 = nI nf := (I1.ef (by decide)).trans e41
    have V : ∀ j, j < 7 → vF g j f = vF h j f := fun j hj => vF_fr I1 (by decide) j f hj
    have hne : ¬ nI nf ≤ nI f := by rw [nI_leI (by omega) (by omega)]; omega
    have C0 := cnts_congr (s := 0) (w := nI w) (k := k) V
    have C1 := cnts_congr (s := 1) (w := nI w) (k := k) V
    have C2 := cnts_congr (s := 2) (w := nI w) (k := k) V
    have bl : (BKn (vF h) (nI w) k f).length + (if cnts (vF h) 2 (nI w) k f = true then 1 else 0) ≤ 10 := by
      have a := BKn_len (vF h) (nI w) k (f + 1)
      have b := BCn_mono (vF h) (nI w) (show f + 1 ≤ nf from hf)
      have c := R.2 w hw
      rw [BKn.eq_2] at a
      split
      · rename_i q; rw [if_pos q, List.length_append, List.length_singleton] at a; omega
      · rename_i q; rw [if_neg q] at a; omega
    obtain ⟨R1, R2, R3, R4, -⟩ := R.1 f hf
    right
    by_cases c0 : cnts (vF h) 0 (nI w) k f = true
    · have s0 := (cnts_iff.mp c0).1
      have c1 : cnts (vF h) 1 (nI w) k f = false := by
        rw [Bool.eq_false_iff]; intro q; have := (cnts_iff.mp q).1; rw [s0] at this; exact absurd this (by decide)
      have c2 : cnts (vF h) 2 (nI w) k f = false := by
        rw [Bool.eq_false_iff]; intro q; have := (cnts_iff.mp q).1; rw [s0] at this; exact absurd this (by decide)
      obtain ⟨⟨w0, hw0, r1⟩, ⟨i0, hi0, r2⟩, v0, hv0, r3⟩ := R2 s0
      have r1' : hi g 66 f = nI w0 := (V 2 (by omega)).trans r1
      have r2' : hi g 67 f = nI i0 := (V 3 (by omega)).trans r2
      have V2 : ∀ j, j < 7 → vF (si g 72 (6 * w0 + i0) (hi g 68 f)) j f = vF h j f := fun j hj => (vF_row (by omega) j f hj).trans (V j hj)
      have C1' := cnts_congr (s := 1) (w := nI w) (k := k) V2
      have C2' := cnts_congr (s := 2) (w := nI w) (k := k) V2
      refine ⟨si g 72 (6 * w0 + i0) (hi g 68 f), ?_, I1.trans (FrM.row (by decide) (by decide)), ?_, ?_, ?_, ?_⟩
      · simp only [f_X9_know_L50.eq_2]
        simp (disch := (first | assumption | (simp only [FX_si, FX_sj, FX_sr]; assumption) | omega | decide)) only [e, m_counts, C0, c0, if_true, hne, if_false, if_neg, r1', r2', nI_6, C1', C2', c1, c2, nI_1, ↓reduceIte, Bool.false_eq_true, (by decide : ¬ (1 : Int32) = 0), bd_some, b1_some, b2_some, b3_some, b4_some, c1_eq, elim_inl, elim_inr, zok0, zok1, getQ_si, getQ_sj, getQ_sr, q8_0, q8_1, q8_2, q8_4, q8_7, q8_8, q8_9, q8_10, q8_11, q9_0, q9_3, q9_4, q9_8, q17_0, q17_1, q17_2, q17_4, q17_5, q17_6, q17_9, q17_10, q17_11, q27_4, q27_5, q27_6, q27_7, q27_8, q27_11, q45_0, q45_1, q45_11, q45_12, q45_13, q45_14, q45_15, q45_16, q45_17, q45_18, q45_19, q45_20, q45_21, q45_22, q45_23, q45_24, q45_30, q45_31, q45_32, q45_33, q45_34, q45_35, q45_36, q45_37, q45_38, q45_39, q45_43, q45_44, q45_45, q45_46, q45_47, q45_48, q45_52, q45_53, q45_54, q45_59, q45_60, q45_61, q45_62, q45_65, q45_67, q45_68, gi8, gj8, pi8, pz8, pj8, rc8, gi9, gj9, pi9, pz9, pj9, rc9, gi17, gj17, pi17, pz17, pj17, rc17, gi27, gj27, pi27, pz27, pj27, rc27, gi45, gj45, pi45, pz45, pj45, rc45, aln_si, aln_sj, aln_sq, rc_si, rc_sj, rc_sq, n0, n1, n10, n11, n12, n13, n14, n15, n16, n18, n19, n20, n21, n22, n23, n24, n25, n26, n29, n30, n31, n32, n33, n34, n35, n36, n37, n38, n39, n40, n42, n43, n44, n46, n47, n48, n49, n50, n51, n52, n53, n54, n55, n56, n57, n58, n59, n60, n61, n62, n63, n64, n65, n66, n67, n68, n69, n70, n71, n72, n73, n74, n75, n76, n77, n78, n79, n80, n81, n82, n83, n84, n85, n86, n87, r0, r1, r10, r11, r12, r13, r14, r15, r16, r18, r19, r20, r21, r22, r23, r24, r25, r26, r29, r30, r31, r32, r33, r34, r35, r36, r37, r38, r39, r40, r42, r43, r44, r46, r47, r48, r49, r50, r51, r52, r53, r54, r55, r56, r57, r58, r59, r60, r61, r62, r63, r64, r65, r66, r67, r68, r69, r70, r71, r72, r73, r74, r75, r76, r77, r78, r79, r80, r81, r82, r83, r84, r85, r86, r87, w10, w11, w12, w13, w18, w19, w20, w21, w22, w23, w24, w25, w26, w30, w31, w32, w33, w34, w35, w36, w38, w39, w40, w43, w44, w46, w47, w48, w49, w50, w51, w52, w53, w54, w55, w56, w57, w58, w59, w60, w61, w62, w63, w64, w65, w66, w67, w68, w69, w70, w71, w72, w73, w74, w75, w76, w77, w78, w79, w80, w81, w82, w83, w84, w85, w86, w87, hi_hit, hi_row, hi_col, hj_hit, hj_row, hj_col, hi_sj, hj_si, hq_si, hq_sj, hi_sq, hj_sq, hi_srh, hi_srm]
      · intro i w1 hi1 hw1
        rw [PDn.eq_2]
        by_cases q : w1 = w0 ∧ i = i0
        · obtain ⟨rfl, rfl⟩ := q
          rw [hi_hit, if_pos ⟨c0, r1, r2⟩]
          exact V 4 (by omega)
        · rw [hi_col 72 _ (by omega), if_neg, I2 i w1 hi1 hw1]
          rintro ⟨-, q1, q2⟩
          rw [r1] at q1
          rw [r2] at q2
          exact q ⟨((nI_eq (by omega) (by omega)).mp q1).symm, ((nI_eq (by omega) (by omega)).mp q2).symm⟩
      · intro w1 hw1
        rw [LSn.eq_2, c1, hi_row _ _ _ (by decide), I3 w1 hw1, Bool.false_and, Bool.false_or]
      · rw [BKn.eq_2, if_neg (by rw [c2]; decide), hi_row _ _ _ (by decide), I4]
      · rw [BKn.eq_2, if_neg (by rw [c2]; decide)]
        intro j hj
        rw [hi_row _ _ _ (by decide)]
        exact I5 j hj
    · have p0 : ∀ i w1, PDn (vF h) (nI w) k (f + 1) i w1 = PDn (vF h) (nI w) k f i w1 := fun i w1 => by
        rw [PDn.eq_2, if_neg (fun q => c0 q.1)]
      by_cases c1 : cnts (vF h) 1 (nI w) k f = true
      · have s0 := (cnts_iff.mp c1).1
        have c2 : cnts (vF h) 2 (nI w) k f = false := by
          rw [Bool.eq_false_iff]; intro q; have := (cnts_iff.mp q).1; rw [s0] at this; exact absurd this (by decide)
        obtain ⟨w0, hw0, r1⟩ := R3 s0
        have r1' : hi g 66 f = nI w0 := (V 2 (by omega)).trans r1
        have V2 : ∀ j, j < 7 → vF (si g 76 w0 1) j f = vF h j f := fun j hj => (vF_row (by omega) j f hj).trans (V j hj)
        have C2' := cnts_congr (s := 2) (w := nI w) (k := k) V2
        refine ⟨si g 76 w0 1, ?_, I1.trans (FrM.row (by decide) (by decide)), ?_, ?_, ?_, ?_⟩
        · simp only [f_X9_know_L50.eq_2]
          simp (disch := (first | assumption | (simp only [FX_si, FX_sj, FX_sr]; assumption) | omega | decide)) only [e, m_counts, C0, C1, c0, if_true, hne, if_false, r1', C2', c1, c2, nI_1, ↓reduceIte, Bool.false_eq_true, (by decide : ¬ (1 : Int32) = 0), bd_some, b1_some, b2_some, b3_some, b4_some, c1_eq, elim_inl, elim_inr, zok0, zok1, getQ_si, getQ_sj, getQ_sr, q8_0, q8_1, q8_2, q8_4, q8_7, q8_8, q8_9, q8_10, q8_11, q9_0, q9_3, q9_4, q9_8, q17_0, q17_1, q17_2, q17_4, q17_5, q17_6, q17_9, q17_10, q17_11, q27_4, q27_5, q27_6, q27_7, q27_8, q27_11, q45_0, q45_1, q45_11, q45_12, q45_13, q45_14, q45_15, q45_16, q45_17, q45_18, q45_19, q45_20, q45_21, q45_22, q45_23, q45_24, q45_30, q45_31, q45_32, q45_33, q45_34, q45_35, q45_36, q45_37, q45_38, q45_39, q45_43, q45_44, q45_45, q45_46, q45_47, q45_48, q45_52, q45_53, q45_54, q45_59, q45_60, q45_61, q45_62, q45_65, q45_67, q45_68, gi8, gj8, pi8, pz8, pj8, rc8, gi9, gj9, pi9, pz9, pj9, rc9, gi17, gj17, pi17, pz17, pj17, rc17, gi27, gj27, pi27, pz27, pj27, rc27, gi45, gj45, pi45, pz45, pj45, rc45, aln_si, aln_sj, aln_sq, rc_si, rc_sj, rc_sq, n0, n1, n10, n11, n12, n13, n14, n15, n16, n18, n19, n20, n21, n22, n23, n24, n25, n26, n29, n30, n31, n32, n33, n34, n35, n36, n37, n38, n39, n40, n42, n43, n44, n46, n47, n48, n49, n50, n51, n52, n53, n54, n55, n56, n57, n58, n59, n60, n61, n62, n63, n64, n65, n66, n67, n68, n69, n70, n71, n72, n73, n74, n75, n76, n77, n78, n79, n80, n81, n82, n83, n84, n85, n86, n87, r0, r1, r10, r11, r12, r13, r14, r15, r16, r18, r19, r20, r21, r22, r23, r24, r25, r26, r29, r30, r31, r32, r33, r34, r35, r36, r37, r38, r39, r40, r42, r43, r44, r46, r47, r48, r49, r50, r51, r52, r53, r54, r55, r56, r57, r58, r59, r60, r61, r62, r63, r64, r65, r66, r67, r68, r69, r70, r71, r72, r73, r74, r75, r76, r77, r78, r79, r80, r81, r82, r83, r84, r85, r86, r87, w10, w11, w12, w13, w18, w19, w20, w21, w22, w23, w24, w25, w26, w30, w31, w32, w33, w34, w35, w36, w38, w39, w40, w43, w44, w46, w47, w48, w49, w50, w51, w52, w53, w54, w55, w56, w57, w58, w59, w60, w61, w62, w63, w64, w65, w66, w67, w68, w69, w70, w71, w72, w73, w74, w75, w76, w77, w78, w79, w80, w81, w82, w83, w84, w85, w86, w87, hi_hit, hi_row, hi_col, hj_hit, hj_row, hj_col, hi_sj, hj_si, hq_si, hq_sj, hi_sq, hj_sq, hi_srh, hi_srm]
        · intro i w1 hi1 hw1
          rw [p0, hi_row _ _ _ (by decide)]
          exact I2 i w1 hi1 hw1
        · intro w1 hw1
          rw [LSn.eq_2, c1, Bool.true_and]
          by_cases q : w1 = w0
          · subst q
            rw [hi_hit, if_pos (by rw [decide_eq_true r1, Bool.true_or])]
          · rw [hi_col 76 _ q, I3 w1 hw1, show decide (vF h 2 f = nI w1) = false from decide_eq_false (fun z => q (by rw [r1] at z; exact ((nI_eq (by omega) (by omega)).mp z).symm)), Bool.false_or]
        · rw [BKn.eq_2, if_neg (by rw [c2]; decide), hi_row _ _ _ (by decide), I4]
        · rw [BKn.eq_2, if_neg (by rw [c2]; decide)]
          intro j hj
          rw [hi_row _ _ _ (by decide)]
          exact I5 j hj
      · have l0 : ∀ w1, LSn (vF h) (nI w) k (f + 1) w1 = LSn (vF h) (nI w) k f w1 := fun w1 => by
          rw [LSn.eq_2, Bool.eq_false_iff.mpr c1, Bool.false_and, Bool.false_or]
        by_cases c2 : cnts (vF h) 2 (nI w) k f = true
        · rw [if_pos c2] at bl
          have bl' : (BKn (vF h) (nI w) k f).length < 10 := by omega
          refine ⟨si (si g 75 (BKn (vF h) (nI w) k f).length (nI f)) 45 49 (nI ((BKn (vF h) (nI w) k f).length + 1)), ?_, (I1.trans (FrM.row (by decide) (by decide))).trans (FrM.fld (by decide)), ?_, ?_, ?_, ?_⟩
          · simp only [f_X9_know_L50.eq_2]
            simp (disch := (first | assumption | (simp only [FX_si, FX_sj, FX_sr]; assumption) | omega | decide)) only [e, m_counts, C0, C1, C2, c0, c1, c2, if_true, hne, if_false, nI_1, I4, ↓reduceIte, Bool.false_eq_true, (by decide : ¬ (1 : Int32) = 0), bd_some, b1_some, b2_some, b3_some, b4_some, c1_eq, elim_inl, elim_inr, zok0, zok1, getQ_si, getQ_sj, getQ_sr, q8_0, q8_1, q8_2, q8_4, q8_7, q8_8, q8_9, q8_10, q8_11, q9_0, q9_3, q9_4, q9_8, q17_0, q17_1, q17_2, q17_4, q17_5, q17_6, q17_9, q17_10, q17_11, q27_4, q27_5, q27_6, q27_7, q27_8, q27_11, q45_0, q45_1, q45_11, q45_12, q45_13, q45_14, q45_15, q45_16, q45_17, q45_18, q45_19, q45_20, q45_21, q45_22, q45_23, q45_24, q45_30, q45_31, q45_32, q45_33, q45_34, q45_35, q45_36, q45_37, q45_38, q45_39, q45_43, q45_44, q45_45, q45_46, q45_47, q45_48, q45_52, q45_53, q45_54, q45_59, q45_60, q45_61, q45_62, q45_65, q45_67, q45_68, gi8, gj8, pi8, pz8, pj8, rc8, gi9, gj9, pi9, pz9, pj9, rc9, gi17, gj17, pi17, pz17, pj17, rc17, gi27, gj27, pi27, pz27, pj27, rc27, gi45, gj45, pi45, pz45, pj45, rc45, aln_si, aln_sj, aln_sq, rc_si, rc_sj, rc_sq, n0, n1, n10, n11, n12, n13, n14, n15, n16, n18, n19, n20, n21, n22, n23, n24, n25, n26, n29, n30, n31, n32, n33, n34, n35, n36, n37, n38, n39, n40, n42, n43, n44, n46, n47, n48, n49, n50, n51, n52, n53, n54, n55, n56, n57, n58, n59, n60, n61, n62, n63, n64, n65, n66, n67, n68, n69, n70, n71, n72, n73, n74, n75, n76, n77, n78, n79, n80, n81, n82, n83, n84, n85, n86, n87, r0, r1, r10, r11, r12, r13, r14, r15, r16, r18, r19, r20, r21, r22, r23, r24, r25, r26, r29, r30, r31, r32, r33, r34, r35, r36, r37, r38, r39, r40, r42, r43, r44, r46, r47, r48, r49, r50, r51, r52, r53, r54, r55, r56, r57, r58, r59, r60, r61, r62, r63, r64, r65, r66, r67, r68, r69, r70, r71, r72, r73, r74, r75, r76, r77, r78, r79, r80, r81, r82, r83, r84, r85, r86, r87, w10, w11, w12, w13, w18, w19, w20, w21, w22, w23, w24, w25, w26, w30, w31, w32, w33, w34, w35, w36, w38, w39, w40, w43, w44, w46, w47, w48, w49, w50, w51, w52, w53, w54, w55, w56, w57, w58, w59, w60, w61, w62, w63, w64, w65, w66, w67, w68, w69, w70, w71, w72, w73, w74, w75, w76, w77, w78, w79, w80, w81, w82, w83, w84, w85, w86, w87, hi_hit, hi_row, hi_col, hj_hit, hj_row, hj_col, hi_sj, hj_si, hq_si, hq_sj, hi_sq, hj_sq, hi_srh, hi_srm]
          · intro i w1 hi1 hw1
            rw [p0, hi_row _ _ _ (by decide), hi_row _ _ _ (by decide)]
            exact I2 i w1 hi1 hw1
          · intro w1 hw1
            rw [l0, hi_row _ _ _ (by decide), hi_row _ _ _ (by decide)]
            exact I3 w1 hw1
          · rw [BKn.eq_2, if_pos c2, hi_hit, List.length_append, List.length_singleton]
          · rw [BKn.eq_2, if_pos c2]
            intro j hj
            rw [hi_row _ _ _ (by decide)]
            rw [List.length_append, List.length_singleton] at hj
            by_cases q : j = (BKn (vF h) (nI w) k f).length
            · subst q
              rw [hi_hit, List.getElem_append_right (Nat.le_refl _)]
              simp
            · rw [hi_col 75 _ q, List.getElem_append_left (by omega)]
              exact I5 j (by omega)
        · refine ⟨g, ?_, I1, ?_, ?_, ?_, ?_⟩
          · simp only [f_X9_know_L50.eq_2]
            simp (disch := (first | assumption | (simp only [FX_si, FX_sj, FX_sr]; assumption) | omega | decide)) only [e, m_counts, C0, C1, C2, c0, c1, c2, if_true, hne, if_false, nI_1, ↓reduceIte, Bool.false_eq_true, bd_some, b1_some, b2_some, b3_some, b4_some, c1_eq, elim_inl, elim_inr, zok0, zok1, getQ_si, getQ_sj, getQ_sr, q8_0, q8_1, q8_2, q8_4, q8_7, q8_8, q8_9, q8_10, q8_11, q9_0, q9_3, q9_4, q9_8, q17_0, q17_1, q17_2, q17_4, q17_5, q17_6, q17_9, q17_10, q17_11, q27_4, q27_5, q27_6, q27_7, q27_8, q27_11, q45_0, q45_1, q45_11, q45_12, q45_13, q45_14, q45_15, q45_16, q45_17, q45_18, q45_19, q45_20, q45_21, q45_22, q45_23, q45_24, q45_30, q45_31, q45_32, q45_33, q45_34, q45_35, q45_36, q45_37, q45_38, q45_39, q45_43, q45_44, q45_45, q45_46, q45_47, q45_48, q45_52, q45_53, q45_54, q45_59, q45_60, q45_61, q45_62, q45_65, q45_67, q45_68, gi8, gj8, pi8, pz8, pj8, rc8, gi9, gj9, pi9, pz9, pj9, rc9, gi17, gj17, pi17, pz17, pj17, rc17, gi27, gj27, pi27, pz27, pj27, rc27, gi45, gj45, pi45, pz45, pj45, rc45, aln_si, aln_sj, aln_sq, rc_si, rc_sj, rc_sq, n0, n1, n10, n11, n12, n13, n14, n15, n16, n18, n19, n20, n21, n22, n23, n24, n25, n26, n29, n30, n31, n32, n33, n34, n35, n36, n37, n38, n39, n40, n42, n43, n44, n46, n47, n48, n49, n50, n51, n52, n53, n54, n55, n56, n57, n58, n59, n60, n61, n62, n63, n64, n65, n66, n67, n68, n69, n70, n71, n72, n73, n74, n75, n76, n77, n78, n79, n80, n81, n82, n83, n84, n85, n86, n87, r0, r1, r10, r11, r12, r13, r14, r15, r16, r18, r19, r20, r21, r22, r23, r24, r25, r26, r29, r30, r31, r32, r33, r34, r35, r36, r37, r38, r39, r40, r42, r43, r44, r46, r47, r48, r49, r50, r51, r52, r53, r54, r55, r56, r57, r58, r59, r60, r61, r62, r63, r64, r65, r66, r67, r68, r69, r70, r71, r72, r73, r74, r75, r76, r77, r78, r79, r80, r81, r82, r83, r84, r85, r86, r87, w10, w11, w12, w13, w18, w19, w20, w21, w22, w23, w24, w25, w26, w30, w31, w32, w33, w34, w35, w36, w38, w39, w40, w43, w44, w46, w47, w48, w49, w50, w51, w52, w53, w54, w55, w56, w57, w58, w59, w60, w61, w62, w63, w64, w65, w66, w67, w68, w69, w70, w71, w72, w73, w74, w75, w76, w77, w78, w79, w80, w81, w82, w83, w84, w85, w86, w87, hi_hit, hi_row, hi_col, hj_hit, hj_row, hj_col, hi_sj, hj_si, hq_si, hq_sj, hi_sq, hj_sq, hi_srh, hi_srm]
          · intro i w1 hi1 hw1
            rw [p0]
            exact I2 i w1 hi1 hw1
          · intro w1 hw1
            rw [l0]
            exact I3 w1 hw1
          · rw [BKn.eq_2, if_neg c2, I4]
          · rw [BKn.eq_2, if_neg c2]
            exact I5
theorem m_know170 (F : FX h) {w : Nat} (hw : w < 104) (b : Bool) (e76 : hi h 76 w = if b = true then 1 else 0) :
    ∃ g, f_X9_know_L170 fu 45 (nI w) 0 h = some g ∧ FrM [72] [] h g ∧ (∀ j, j < 6 * w ∨ 6 * w + 6 ≤ j → hi g 72 j = hi h 72 j) ∧ ∀ i, i < 6 → hi g 72 (6 * w + i) = if b = true then 0 else hi h 72 (6 * w + i) := by
  cases b with
  | false =>
    refine ⟨h, ?_, FrM.rfl, fun _ _ => rfl, fun i _ => by rw [if_neg (by decide)]⟩
    obtain ⟨N, hN⟩ := fu_ex 1 (by omega)
    rw [if_neg (by decide)] at e76
    rw [hN, f_X9_know_L170.eq_2, if_neg (by decide)]
    simp (disch := (first | assumption | (simp only [FX_si, FX_sj, FX_sr]; assumption) | omega | decide)) only [e76, bd_some, b1_some, b2_some, b3_some, b4_some, c1_eq, elim_inl, elim_inr, zok0, zok1, getQ_si, getQ_sj, getQ_sr, q8_0, q8_1, q8_2, q8_4, q8_7, q8_8, q8_9, q8_10, q8_11, q9_0, q9_3, q9_4, q9_8, q17_0, q17_1, q17_2, q17_4, q17_5, q17_6, q17_9, q17_10, q17_11, q27_4, q27_5, q27_6, q27_7, q27_8, q27_11, q45_0, q45_1, q45_11, q45_12, q45_13, q45_14, q45_15, q45_16, q45_17, q45_18, q45_19, q45_20, q45_21, q45_22, q45_23, q45_24, q45_30, q45_31, q45_32, q45_33, q45_34, q45_35, q45_36, q45_37, q45_38, q45_39, q45_43, q45_44, q45_45, q45_46, q45_47, q45_48, q45_52, q45_53, q45_54, q45_59, q45_60, q45_61, q45_62, q45_65, q45_67, q45_68, gi8, gj8, pi8, pz8, pj8, rc8, gi9, gj9, pi9, pz9, pj9, rc9, gi17, gj17, pi17, pz17, pj17, rc17, gi27, gj27, pi27, pz27, pj27, rc27, gi45, gj45, pi45, pz45, pj45, rc45, aln_si, aln_sj, aln_sq, rc_si, rc_sj, rc_sq, n0, n1, n10, n11, n12, n13, n14, n15, n16, n18, n19, n20, n21, n22, n23, n24, n25, n26, n29, n30, n31, n32, n33, n34, n35, n36, n37, n38, n39, n40, n42, n43, n44, n46, n47, n48, n49, n50, n51, n52, n53, n54, n55, n56, n57, n58, n59, n60, n61, n62, n63, n64, n65, n66, n67, n68, n69, n70, n71, n72, n73, n74, n75, n76, n77, n78, n79, n80, n81, n82, n83, n84, n85, n86, n87, r0, r1, r10, r11, r12, r13, r14, r15, r16, r18, r19, r20, r21, r22, r23, r24, r25, r26, r29, r30, r31, r32, r33, r34, r35, r36, r37, r38, r39, r40, r42, r43, r44, r46, r47, r48, r49, r50, r51, r52, r53, r54, r55, r56, r57, r58, r59, r60, r61, r62, r63, r64, r65, r66, r67, r68, r69, r70, r71, r72, r73, r74, r75, r76, r77, r78, r79, r80, r81, r82, r83, r84, r85, r86, r87, w10, w11, w12, w13, w18, w19, w20, w21, w22, w23, w24, w25, w26, w30, w31, w32, w33, w34, w35, w36, w38, w39, w40, w43, w44, w46, w47, w48, w49, w50, w51, w52, w53, w54, w55, w56, w57, w58, w59, w60, w61, w62, w63, w64, w65, w66, w67, w68, w69, w70, w71, w72, w73, w74, w75, w76, w77, w78, w79, w80, w81, w82, w83, w84, w85, w86, w87, hi_hit, hi_row, hi_col, hj_hit, hj_row, hj_col, hi_sj, hj_si, hq_si, hq_sj, hi_sq, hj_sq, hi_srh, hi_srm]
    rw [if_pos trivial]
  | true =>
    rw [if_pos rfl] at e76
    refine forN (fun n v g => f_X9_know_L170 n 45 (nI w) v g) 6 (by omega) (fun i g => FrM [72] [] h g ∧ (∀ j, j < 6 * w ∨ 6 * w + 6 ≤ j → hi g 72 j = hi h 72 j) ∧ ∀ j, j < i → hi g 72 (6 * w + j) = 0) (fun g => FrM [72] [] h g ∧ (∀ j, j < 6 * w ∨ 6 * w + 6 ≤ j → hi g 72 j = hi h 72 j) ∧ ∀ i, i < 6 → hi g 72 (6 * w + i) = if true = true then 0 else hi h 72 (6 * w + i)) ?_ ?_ (i0 := 0) (Nat.zero_le _) ⟨FrM.rfl, fun _ _ => rfl, fun j hj => absurd hj (Nat.not_lt_zero _)⟩
    · rintro n g ⟨I1, I2, I3⟩
      refine ⟨g, by simp only [f_X9_know_L170.eq_2]; rw [if_pos (by decide)], I1, I2, fun i hi6 => ?_⟩
      rw [if_pos rfl]
      exact I3 i hi6
    · rintro n i g hi6 ⟨I1, I2, I3⟩
      have Fg := I1.fx F
      have e : hi g 76 w = 1 := (I1.ei w (by decide) (by decide)).trans e76
      refine Or.inr ⟨si g 72 (6 * w + i) 0, ?_, I1.trans (FrM.row (by decide) (by decide)), ?_, ?_⟩
      · simp only [f_X9_know_L170.eq_2]
        rw [if_neg (by rw [L6, nI_leI (by omega) (by omega)]; omega)]
        simp (disch := (first | assumption | (simp only [FX_si, FX_sj, FX_sr]; assumption) | omega | decide)) only [e, nI_6, nI_1, ↓reduceIte, (by decide : ¬ (1 : Int32) = 0), bd_some, b1_some, b2_some, b3_some, b4_some, c1_eq, elim_inl, elim_inr, zok0, zok1, getQ_si, getQ_sj, getQ_sr, q8_0, q8_1, q8_2, q8_4, q8_7, q8_8, q8_9, q8_10, q8_11, q9_0, q9_3, q9_4, q9_8, q17_0, q17_1, q17_2, q17_4, q17_5, q17_6, q17_9, q17_10, q17_11, q27_4, q27_5, q27_6, q27_7, q27_8, q27_11, q45_0, q45_1, q45_11, q45_12, q45_13, q45_14, q45_15, q45_16, q45_17, q45_18, q45_19, q45_20, q45_21, q45_22, q45_23, q45_24, q45_30, q45_31, q45_32, q45_33, q45_34, q45_35, q45_36, q45_37, q45_38, q45_39, q45_43, q45_44, q45_45, q45_46, q45_47, q45_48, q45_52, q45_53, q45_54, q45_59, q45_60, q45_61, q45_62, q45_65, q45_67, q45_68, gi8, gj8, pi8, pz8, pj8, rc8, gi9, gj9, pi9, pz9, pj9, rc9, gi17, gj17, pi17, pz17, pj17, rc17, gi27, gj27, pi27, pz27, pj27, rc27, gi45, gj45, pi45, pz45, pj45, rc45, aln_si, aln_sj, aln_sq, rc_si, rc_sj, rc_sq, n0, n1, n10, n11, n12, n13, n14, n15, n16, n18, n19, n20, n21, n22, n23, n24, n25, n26, n29, n30, n31, n32, n33, n34, n35, n36, n37, n38, n39, n40, n42, n43, n44, n46, n47, n48, n49, n50, n51, n52, n53, n54, n55, n56, n57, n58, n59, n60, n61, n62, n63, n64, n65, n66, n67, n68, n69, n70, n71, n72, n73, n74, n75, n76, n77, n78, n79, n80, n81, n82, n83, n84, n85, n86, n87, r0, r1, r10, r11, r12, r13, r14, r15, r16, r18, r19, r20, r21, r22, r23, r24, r25, r26, r29, r30, r31, r32, r33, r34, r35, r36, r37, r38, r39, r40, r42, r43, r44, r46, r47, r48, r49, r50, r51, r52, r53, r54, r55, r56, r57, r58, r59, r60, r61, r62, r63, r64, r65, r66, r67, r68, r69, r70, r71, r72, r73, r74, r75, r76, r77, r78, r79, r80, r81, r82, r83, r84, r85, r86, r87, w10, w11, w12, w13, w18, w19, w20, w21, w22, w23, w24, w25, w26, w30, w31, w32, w33, w34, w35, w36, w38, w39, w40, w43, w44, w46, w47, w48, w49, w50, w51, w52, w53, w54, w55, w56, w57, w58, w59, w60, w61, w62, w63, w64, w65, w66, w67, w68, w69, w70, w71, w72, w73, w74, w75, w76, w77, w78, w79, w80, w81, w82, w83, w84, w85, w86, w87, hi_hit, hi_row, hi_col, hj_hit, hj_row, hj_col, hi_sj, hj_si, hq_si, hq_sj, hi_sq, hj_sq, hi_srh, hi_srm]
      · intro j hj
        rw [hi_col 72 _ (by omega)]
        exact I2 j hj
      · intro j hj
        by_cases q : j = i
        · subst q; exact hi_hit _ _ _
        · rw [hi_col 72 _ (by omega)]; exact I3 j (by omega)
theorem m_know161 (F : FX h) (b : Nat → Bool) (e76 : ∀ w, w < 104 → hi h 76 w = if b w = true then 1 else 0) :
    ∃ g, f_X9_know_L161 fu 45 0 h = some g ∧ FrM [72] [] h g ∧ ∀ i w, i < 6 → w < 104 → hi g 72 (6 * w + i) = if b w = true then 0 else hi h 72 (6 * w + i) := by
  refine forN (fun n v g => f_X9_know_L161 n 45 v g) 104 (by omega) (fun u g => FrM [72] [] h g ∧ (∀ i w, i < 6 → w < u → hi g 72 (6 * w + i) = if b w = true then 0 else hi h 72 (6 * w + i)) ∧ ∀ i w, i < 6 → u ≤ w → hi g 72 (6 * w + i) = hi h 72 (6 * w + i)) (fun g => FrM [72] [] h g ∧ ∀ i w, i < 6 → w < 104 → hi g 72 (6 * w + i) = if b w = true then 0 else hi h 72 (6 * w + i)) ?_ ?_ (i0 := 0) (Nat.zero_le _) ⟨FrM.rfl, fun i w _ hw => absurd hw (Nat.not_lt_zero _), fun _ _ _ _ => rfl⟩
  · rintro n g ⟨I1, I2, -⟩
    exact ⟨g, by simp only [f_X9_know_L161.eq_2]; rw [if_pos (by decide)], I1, I2⟩
  · rintro n u g hu ⟨I1, I2, I3⟩
    have Fg := I1.fx F
    obtain ⟨g', e1, e2, e3, e4⟩ := m_know170 Fg hu (b u) ((I1.ei u (by decide) (by decide)).trans (e76 u hu))
    refine Or.inr ⟨g', ?_, I1.trans e2, ?_, ?_⟩
    · simp only [f_X9_know_L161.eq_2]
      rw [if_neg (by rw [L104, nI_leI (by omega) (by omega)]; omega), e1, bd_some, nI_1]
    · intro i w hi6 hw
      by_cases q : w = u
      · subst q
        rw [e4 i hi6, I3 i w hi6 (Nat.le_refl _)]
      · rw [e3 _ (by omega)]
        exact I2 i w hi6 (by omega)
    · intro i w hi6 hw
      rw [e3 _ (by omega)]
      exact I3 i w hi6 (by omega)
end Mb
