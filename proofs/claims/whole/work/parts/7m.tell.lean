/-! Telling: the class's cells and the model's rows. -/
section Te
variable {h : Hp} {kw nf : Nat} {F : Nat → Nat → Int32} {A : Nat → Ac} {pls tms : Nat → Int32} {tme : Nat} {wa fa : Nat → Nat}
theorem c_keep0 {g : Hp} {a n : Nat} (W : hk g a = some (6, 0)) (q3 : hq g a 3 = none) : f_X7_keep a (some n) g = some (si (sq (sq g a 2 (some n)) a 3 (some n)) a 5 0) := by
  unfold f_X7_keep
  rw [getQ_of 3 W, q3, bd_some, if_pos rfl, putQ_of 2 _ W, bd_some, bd_some, putQ_of (h := sq g a 2 (some n)) 3 _ W, bd_some, putZ_of (h := sq (sq g a 2 (some n)) a 3 (some n)) 5 W (Or.inl rfl), bd_some]
theorem c_keep1 {g : Hp} {a n l : Nat} (W : hk g a = some (6, 0)) (q3 : hq g a 3 = some l) (K : hk g l = some (1, 0)) : f_X7_keep a (some n) g = some (si (sq (sq g l 8 (some n)) a 3 (some n)) a 5 0) := by
  unfold f_X7_keep
  rw [getQ_of 3 W, q3, bd_some, if_neg (fun z => by cases z), bd_some, putQ_of 8 _ K, bd_some, bd_some, putQ_of (h := sq g l 8 (some n)) 3 _ W, bd_some, putZ_of (h := sq (sq g l 8 (some n)) a 3 (some n)) 5 W (Or.inl rfl), bd_some]
theorem hq_put (a b k j : Nat) (v : Option Nat) {g : Hp} : hq (sq g a k v) b j = if b = a ∧ j = k then v else hq g b j := rfl
theorem fx_far {g : Hp} (X : FX g) {g' : Hp} (e : g'.1 = g.1) (q : ∀ a k, a < 88 → a ≠ 16 → hq g' a k = hq g a k) : FX g' := FX_of X e (fun p hp => by
  have : rfT.all (fun p => decide (p.1 < 46 ∧ p.1 ≠ 16)) = true := by decide
  have h3 := of_decide_eq_true (List.all_eq_true.mp this p hp)
  exact q _ _ (by omega) h3.2)
theorem c_tell (I : INVp h kw nf F A pls tms tme wa fa) (hn : nf < 250) {w : Nat} (hw : w < kw) (v1 v3 v4 v5 : Int32) :
    ∃ g, f_X8_tell 8 v1 (nI w) v3 v4 v5 h = some (nI nf, g) ∧ FX g ∧ (∀ a y, hk h a = some y → hk g a = some y) ∧ hk g h.1.length = some (1, 0) ∧
      (∀ a k, a ≠ h.1.length → ¬ (a = 8 ∧ k = 5) → ¬ (a = wa w ∧ k = 5) → hi g a k = hi h a k) ∧ hi g 8 5 = nI (nf + 1) ∧ hi g (wa w) 5 = 0 ∧
      (hi g h.1.length 0 = nI nf ∧ hi g h.1.length 1 = v1 ∧ hi g h.1.length 2 = v3 ∧ hi g h.1.length 3 = v4 ∧ hi g h.1.length 4 = v5 ∧ hi g h.1.length 5 = nI tme ∧ hi g h.1.length 6 = nI w ∧ hi g h.1.length 7 = -1) ∧
      (∀ a k, a ≠ h.1.length → ¬ (a = 16 ∧ k = nf) → ¬ (a = wa w ∧ (k = 2 ∨ k = 3)) → (∀ l, lx F (nI w) nf = some l → ¬ (a = fa l ∧ k = 8)) → hq g a k = hq h a k) ∧
      hq g 16 nf = some h.1.length ∧ hq g (wa w) 3 = some h.1.length ∧ (lx F (nI w) nf = none → hq g (wa w) 2 = some h.1.length) ∧ (lx F (nI w) nf ≠ none → hq g (wa w) 2 = hq h (wa w) 2) ∧ (∀ l, lx F (nI w) nf = some l → hq g (fa l) 8 = some h.1.length) ∧ hq g h.1.length 8 = none := by
  obtain ⟨X, M, T, c, tp⟩ := I
  have hw10 := M.2.1
  have n88 := X.len
  have w88 := T.ge hw
  have W := (T.2.2.2.1 w hw).2.1.2.1
  have q3 := (T.2.2.2.1 w hw).2.2.2.2.2.2
  have cwk := c_workerAt X T hw10 hw
  have e5 := T.2.1
  have e6 := T.2.2.1
  have m0 : ¬ nI nf < 0 := nI_pos (by omega)
  have m1 : nI nf < nI 250 := by rw [nI_ltI (by omega) (by omega)]; exact hn
  have lt : ∀ a y, hk h a = some y → a < h.1.length := fun a y e => by
    rcases Nat.lt_or_ge a h.1.length with q | q
    · exact q
    · have : hk h a = none := List.getElem?_eq_none q
      rw [this] at e
      cases e
  have wn := lt _ _ W
  obtain ⟨n, en⟩ : ∃ n, n = h.1.length := ⟨_, rfl⟩
  have K0 : ∀ a y, hk h a = some y → hk (nw h 1 0) a = some y := fun a y e => by
    have := lt a y e
    unfold hk at e ⊢
    show (h.1 ++ [(1, 0)])[a]? = _
    rw [List.getElem?_append_left this]
    exact e
  have Kn : hk (nw h 1 0) n = some (1, 0) := by
    rw [en]
    unfold hk
    show (h.1 ++ [(1, 0)])[h.1.length]? = _
    rw [List.getElem?_append_right (Nat.le_refl _), Nat.sub_self]
    rfl
  have X0 : FX (nw h 1 0) := FX_nw X 1 0
  obtain ⟨G0, eG0⟩ : ∃ G0, G0 = si (si (si (si (si (si (si (nw h 1 0) n 7 (-1)) n 0 (nI nf)) n 1 v1) n 2 v3) n 3 v4) n 4 v5) n 5 (nI tme) := ⟨_, rfl⟩
  have k0 : ∀ a y, hk (nw h 1 0) a = some y → hk G0 a = some y := fun a y e => by rw [eG0]; exact e
  have eI : f_X1_init n (nI nf) v1 v3 v4 v5 (nI tme) (nw h 1 0) = some G0 := by
    have K : FK (nw h 1 0) n := Kn
    unfold f_X1_init
    rw [eG0]
    simp (disch := (first | assumption | (simp only [FX_si, FX_sj, FX_sr, WX_si, WX_sj, WX_sr, FK_si, FK_sj, FK_sr]; assumption) | omega | decide)) only [↓reduceIte, if_true, if_false, i10, i01, eq_self, wq7, wq8, wq9, wq10, wrc, wgi, wpi, wpz, wn1, wn2, wn3, wn4, wr1, wr2, wr3, wr4, ww1, ww2, ww3, ww4, fgi, fgq, fpi, frc, at18, at19, at21, at22, at23, at24, at25, at26, at_neg, wat1, wat2, wat3, wat4, reduceCtorEq, bd_some, b1_some, b2_some, b3_some, b4_some, c1_eq, elim_inl, elim_inr, zok0, zok1, getQ_si, getQ_sj, getQ_sr, q8_0, q8_1, q8_2, q8_4, q8_7, q8_8, q8_9, q8_10, q8_11, q9_0, q9_3, q9_4, q9_8, q17_0, q17_1, q17_2, q17_4, q17_5, q17_6, q17_9, q17_10, q17_11, q27_4, q27_5, q27_6, q27_7, q27_8, q27_11, q45_0, q45_1, q45_11, q45_12, q45_13, q45_14, q45_15, q45_16, q45_17, q45_18, q45_19, q45_20, q45_21, q45_22, q45_23, q45_24, q45_30, q45_31, q45_32, q45_33, q45_34, q45_35, q45_36, q45_37, q45_38, q45_39, q45_43, q45_44, q45_45, q45_46, q45_47, q45_48, q45_52, q45_53, q45_54, q45_59, q45_60, q45_61, q45_62, q45_65, q45_67, q45_68, gi8, gj8, pi8, pz8, pj8, rc8, gi9, gj9, pi9, pz9, pj9, rc9, gi17, gj17, pi17, pz17, pj17, rc17, gi27, gj27, pi27, pz27, pj27, rc27, gi45, gj45, pi45, pz45, pj45, rc45, aln_si, aln_sj, aln_sq, rc_si, rc_sj, rc_sq, n0, n1, n10, n11, n12, n13, n14, n15, n16, n18, n19, n20, n21, n22, n23, n24, n25, n26, n29, n30, n31, n32, n33, n34, n35, n36, n37, n38, n39, n40, n42, n43, n44, n46, n47, n48, n49, n50, n51, n52, n53, n54, n55, n56, n57, n58, n59, n60, n61, n62, n63, n64, n65, n66, n67, n68, n69, n70, n71, n72, n73, n74, n75, n76, n77, n78, n79, n80, n81, n82, n83, n84, n85, n86, n87, r0, r1, r10, r11, r12, r13, r14, r15, r16, r18, r19, r20, r21, r22, r23, r24, r25, r26, r29, r30, r31, r32, r33, r34, r35, r36, r37, r38, r39, r40, r42, r43, r44, r46, r47, r48, r49, r50, r51, r52, r53, r54, r55, r56, r57, r58, r59, r60, r61, r62, r63, r64, r65, r66, r67, r68, r69, r70, r71, r72, r73, r74, r75, r76, r77, r78, r79, r80, r81, r82, r83, r84, r85, r86, r87, w10, w11, w12, w13, w18, w19, w20, w21, w22, w23, w24, w25, w26, w30, w31, w32, w33, w34, w35, w36, w38, w39, w40, w43, w44, w46, w47, w48, w49, w50, w51, w52, w53, w54, w55, w56, w57, w58, w59, w60, w61, w62, w63, w64, w65, w66, w67, w68, w69, w70, w71, w72, w73, w74, w75, w76, w77, w78, w79, w80, w81, w82, w83, w84, w85, w86, w87, hi_hit, hi_row, hi_col, hj_hit, hj_row, hj_col, hi_sj, hj_si, hq_si, hq_sj, hi_sq, hj_sq, hi_srh, hi_srm]
  obtain ⟨G1, eG1⟩ : ∃ G1, G1 = si G0 n 6 (nI w) := ⟨_, rfl⟩
  have k1 : ∀ a y, hk (nw h 1 0) a = some y → hk G1 a = some y := fun a y e => by rw [eG1]; exact k0 a y e
  have X1 : FX G1 := by rw [eG1, eG0]; exact X0
  have p6 : putI G0 (some n) 1 6 (nI w) = some G1 := by rw [eG1]; exact putI_of 6 _ (k0 _ _ Kn)
  have r85 : ∀ a k, a ≠ n → hi G1 a k = hi h a k := fun a k ha => by
    rw [eG1, hi_row _ _ _ ha, eG0, hi_row _ _ _ ha, hi_row _ _ _ ha, hi_row _ _ _ ha, hi_row _ _ _ ha, hi_row _ _ _ ha, hi_row _ _ _ ha, hi_row _ _ _ ha, hi_nw, if_neg (by rw [← en]; exact ha)]
  have i85 : getI G1 (some 8) 7 5 = some (nI nf) := by rw [getI_of 5 (k8 X1), r85 _ _ (by omega), e5]
  have q84 : getQ G1 (some 8) 7 4 = some (some 16) := by simp (disch := (first | assumption | (simp only [FX_si, FX_sj, FX_sr, WX_si, WX_sj, WX_sr, FK_si, FK_sj, FK_sr]; assumption) | omega | decide)) only [↓reduceIte, if_true, if_false, i10, i01, eq_self, wq7, wq8, wq9, wq10, wrc, wgi, wpi, wpz, wn1, wn2, wn3, wn4, wr1, wr2, wr3, wr4, ww1, ww2, ww3, ww4, fgi, fgq, fpi, frc, at18, at19, at21, at22, at23, at24, at25, at26, at_neg, wat1, wat2, wat3, wat4, reduceCtorEq, bd_some, b1_some, b2_some, b3_some, b4_some, c1_eq, elim_inl, elim_inr, zok0, zok1, getQ_si, getQ_sj, getQ_sr, q8_0, q8_1, q8_2, q8_4, q8_7, q8_8, q8_9, q8_10, q8_11, q9_0, q9_3, q9_4, q9_8, q17_0, q17_1, q17_2, q17_4, q17_5, q17_6, q17_9, q17_10, q17_11, q27_4, q27_5, q27_6, q27_7, q27_8, q27_11, q45_0, q45_1, q45_11, q45_12, q45_13, q45_14, q45_15, q45_16, q45_17, q45_18, q45_19, q45_20, q45_21, q45_22, q45_23, q45_24, q45_30, q45_31, q45_32, q45_33, q45_34, q45_35, q45_36, q45_37, q45_38, q45_39, q45_43, q45_44, q45_45, q45_46, q45_47, q45_48, q45_52, q45_53, q45_54, q45_59, q45_60, q45_61, q45_62, q45_65, q45_67, q45_68, gi8, gj8, pi8, pz8, pj8, rc8, gi9, gj9, pi9, pz9, pj9, rc9, gi17, gj17, pi17, pz17, pj17, rc17, gi27, gj27, pi27, pz27, pj27, rc27, gi45, gj45, pi45, pz45, pj45, rc45, aln_si, aln_sj, aln_sq, rc_si, rc_sj, rc_sq, n0, n1, n10, n11, n12, n13, n14, n15, n16, n18, n19, n20, n21, n22, n23, n24, n25, n26, n29, n30, n31, n32, n33, n34, n35, n36, n37, n38, n39, n40, n42, n43, n44, n46, n47, n48, n49, n50, n51, n52, n53, n54, n55, n56, n57, n58, n59, n60, n61, n62, n63, n64, n65, n66, n67, n68, n69, n70, n71, n72, n73, n74, n75, n76, n77, n78, n79, n80, n81, n82, n83, n84, n85, n86, n87, r0, r1, r10, r11, r12, r13, r14, r15, r16, r18, r19, r20, r21, r22, r23, r24, r25, r26, r29, r30, r31, r32, r33, r34, r35, r36, r37, r38, r39, r40, r42, r43, r44, r46, r47, r48, r49, r50, r51, r52, r53, r54, r55, r56, r57, r58, r59, r60, r61, r62, r63, r64, r65, r66, r67, r68, r69, r70, r71, r72, r73, r74, r75, r76, r77, r78, r79, r80, r81, r82, r83, r84, r85, r86, r87, w10, w11, w12, w13, w18, w19, w20, w21, w22, w23, w24, w25, w26, w30, w31, w32, w33, w34, w35, w36, w38, w39, w40, w43, w44, w46, w47, w48, w49, w50, w51, w52, w53, w54, w55, w56, w57, w58, w59, w60, w61, w62, w63, w64, w65, w66, w67, w68, w69, w70, w71, w72, w73, w74, w75, w76, w77, w78, w79, w80, w81, w82, w83, w84, w85, w86, w87, hi_hit, hi_row, hi_col, hj_hit, hj_row, hj_col, hi_sj, hj_si, hq_si, hq_sj, hi_sq, hj_sq, hi_srh, hi_srm]
  obtain ⟨G2, eG2⟩ : ∃ G2, G2 = sq G1 16 nf (some n) := ⟨_, rfl⟩
  have wq : wrQ G1 (some 16) 14 (nI nf) (some n) = some G2 := by
    rw [eG2]
    exact wrQ_eq (X1.kd (a := 16) (by decide) (by decide) rfl) (k1 _ _ Kn) hn (by decide)
  have k2 : ∀ a y, hk (nw h 1 0) a = some y → hk G2 a = some y := fun a y e => by rw [eG2]; exact k1 a y e
  have X2 : FX G2 := fx_far X1 (by rw [eG2]; rfl) (fun a k h1 h2 => by rw [eG2, hq_put, if_neg (by omega)])
  have i85' : getI G2 (some 8) 7 5 = some (nI nf) := by
    rw [getI_of 5 (k8 X2), eG2]
    show some (hi G1 8 5) = _
    rw [r85 _ _ (by omega), e5]
  obtain ⟨G3, eG3⟩ : ∃ G3, G3 = si G2 8 5 (nI (nf + 1)) := ⟨_, rfl⟩
  have p85 : putI G2 (some 8) 7 5 (nI (nf + 1)) = some G3 := by rw [eG3]; exact putI_of 5 _ (k8 X2)
  have k3 : ∀ a y, hk (nw h 1 0) a = some y → hk G3 a = some y := fun a y e => by rw [eG3]; exact k2 a y e
  have X3 : FX G3 := by rw [eG3]; exact X2
  have rw3 : rc G3 (some (wa w)) 6 = some (wa w) := rc_eq (k3 _ _ (K0 _ _ W))
  have h3 : ∀ a k, a ≠ n → ¬ (a = 8 ∧ k = 5) → hi G3 a k = hi h a k := fun a k h1 h2 => by
    rw [eG3, hi_put, if_neg h2, eG2]
    exact r85 a k h1
  have n3 : ∀ k, hi G3 n k = hi G1 n k := fun k => by
    rw [eG3, hi_put, if_neg (by omega), eG2]
    rfl
  have z3 : ∀ a k, a ≠ n → ¬ (a = 16 ∧ k = nf) → hq G3 a k = hq h a k := fun a k h1 h2 => by
    rw [eG3]
    show hq G2 a k = _
    rw [eG2, hq_put, if_neg h2, eG1, eG0]
    show hq (nw h 1 0) a k = _
    rw [hq_nw, if_neg (by rw [← en]; exact h1)]
  have z16 : hq G3 16 nf = some n := by
    rw [eG3]
    show hq G2 16 nf = _
    rw [eG2, hq_put, if_pos ⟨rfl, rfl⟩]
  have zn : hq G3 n 8 = none := by
    rw [eG3]
    show hq G2 n 8 = _
    rw [eG2, hq_put, if_neg (by omega), eG1, eG0]
    show hq (nw h 1 0) n 8 = _
    rw [hq_nw, if_pos en]
  have v0 : hi G1 n 0 = nI nf ∧ hi G1 n 1 = v1 ∧ hi G1 n 2 = v3 ∧ hi G1 n 3 = v4 ∧ hi G1 n 4 = v5 ∧ hi G1 n 5 = nI tme ∧ hi G1 n 6 = nI w ∧ hi G1 n 7 = -1 := by
    rw [eG1, eG0]
    simp (disch := (first | assumption | omega | decide)) only [hi_hit, hi_row, hi_col, hj_hit, hj_row, hj_col, hi_sj, hj_si, hq_si, hq_sj, hi_sq, hj_sq, hi_srh, hi_srm, hj_sr, hq_sr, hq_hit, hq_row, hq_col]
    simp only [and_self]
  have z3w : hq G3 (wa w) 3 = (lx F (nI w) nf).map fa := by rw [z3 _ _ (by omega) (by omega)]; exact q3
  have X8 : getI h (some 8) 7 5 = some (nI nf) := by rw [getI_of 5 (k8 X), e5]
  have a5 : getI (nw h 1 0) (some 8) 7 5 = some (nI nf) := by rw [getI_of 5 (k8 X0), hi_nw, if_neg (by omega), e5]
  have a6 : getI (nw h 1 0) (some 8) 7 6 = some (nI tme) := by rw [getI_of 6 (k8 X0), hi_nw, if_neg (by omega), e6]
  have rn : rc (nw h 1 0) (some n) 1 = some n := rc_eq Kn
  have fin : ∀ G4 : Hp, f_X7_keep (wa w) (some n) G3 = some G4 → hk G4 n = some (1, 0) → hi G4 n 0 = nI nf → f_X8_tell 8 v1 (nI w) v3 v4 v5 h = some (nI nf, G4) := by
    intro G4 kp K4 e0
    have gn : getI G4 (some n) 1 0 = some (nI nf) := by rw [getI_of 0 K4, e0]
    simp only [f_X8_tell]
    simp (disch := (first | assumption | (simp only [FX_si, FX_sj, FX_sr, WX_si, WX_sj, WX_sr, FK_si, FK_sj, FK_sr]; assumption) | omega | decide)) only [cwk, X8, m0, m1, a5, a6, ↓reduceIte, if_true, if_false, i10, i01, eq_self, wq7, wq8, wq9, wq10, wrc, wgi, wpi, wpz, wn1, wn2, wn3, wn4, wr1, wr2, wr3, wr4, ww1, ww2, ww3, ww4, fgi, fgq, fpi, frc, at18, at19, at21, at22, at23, at24, at25, at26, at_neg, wat1, wat2, wat3, wat4, reduceCtorEq, bd_some, b1_some, b2_some, b3_some, b4_some, c1_eq, elim_inl, elim_inr, zok0, zok1, getQ_si, getQ_sj, getQ_sr, q8_0, q8_1, q8_2, q8_4, q8_7, q8_8, q8_9, q8_10, q8_11, q9_0, q9_3, q9_4, q9_8, q17_0, q17_1, q17_2, q17_4, q17_5, q17_6, q17_9, q17_10, q17_11, q27_4, q27_5, q27_6, q27_7, q27_8, q27_11, q45_0, q45_1, q45_11, q45_12, q45_13, q45_14, q45_15, q45_16, q45_17, q45_18, q45_19, q45_20, q45_21, q45_22, q45_23, q45_24, q45_30, q45_31, q45_32, q45_33, q45_34, q45_35, q45_36, q45_37, q45_38, q45_39, q45_43, q45_44, q45_45, q45_46, q45_47, q45_48, q45_52, q45_53, q45_54, q45_59, q45_60, q45_61, q45_62, q45_65, q45_67, q45_68, gi8, gj8, pi8, pz8, pj8, rc8, gi9, gj9, pi9, pz9, pj9, rc9, gi17, gj17, pi17, pz17, pj17, rc17, gi27, gj27, pi27, pz27, pj27, rc27, gi45, gj45, pi45, pz45, pj45, rc45, aln_si, aln_sj, aln_sq, rc_si, rc_sj, rc_sq, n0, n1, n10, n11, n12, n13, n14, n15, n16, n18, n19, n20, n21, n22, n23, n24, n25, n26, n29, n30, n31, n32, n33, n34, n35, n36, n37, n38, n39, n40, n42, n43, n44, n46, n47, n48, n49, n50, n51, n52, n53, n54, n55, n56, n57, n58, n59, n60, n61, n62, n63, n64, n65, n66, n67, n68, n69, n70, n71, n72, n73, n74, n75, n76, n77, n78, n79, n80, n81, n82, n83, n84, n85, n86, n87, r0, r1, r10, r11, r12, r13, r14, r15, r16, r18, r19, r20, r21, r22, r23, r24, r25, r26, r29, r30, r31, r32, r33, r34, r35, r36, r37, r38, r39, r40, r42, r43, r44, r46, r47, r48, r49, r50, r51, r52, r53, r54, r55, r56, r57, r58, r59, r60, r61, r62, r63, r64, r65, r66, r67, r68, r69, r70, r71, r72, r73, r74, r75, r76, r77, r78, r79, r80, r81, r82, r83, r84, r85, r86, r87, w10, w11, w12, w13, w18, w19, w20, w21, w22, w23, w24, w25, w26, w30, w31, w32, w33, w34, w35, w36, w38, w39, w40, w43, w44, w46, w47, w48, w49, w50, w51, w52, w53, w54, w55, w56, w57, w58, w59, w60, w61, w62, w63, w64, w65, w66, w67, w68, w69, w70, w71, w72, w73, w74, w75, w76, w77, w78, w79, w80, w81, w82, w83, w84, w85, w86, w87, hi_hit, hi_row, hi_col, hj_hit, hj_row, hj_col, hi_sj, hj_si, hq_si, hq_sj, hi_sq, hj_sq, hi_srh, hi_srm]
    rw [← en, rn, bd_some, eI, bd_some, p6, bd_some, q84, bd_some, i85, bd_some, wq, bd_some, i85', bd_some, nI_1, p85, bd_some, rw3, bd_some, kp, bd_some, gn, bd_some]
  cases hl : lx F (nI w) nf with
  | none =>
    rw [hl] at z3w
    have kp := c_keep0 (n := n) (k3 _ _ (K0 _ _ W)) z3w
    obtain ⟨G4, eG4⟩ : ∃ G4, G4 = si (sq (sq G3 (wa w) 2 (some n)) (wa w) 3 (some n)) (wa w) 5 0 := ⟨_, rfl⟩
    rw [← eG4] at kp
    have k4 : ∀ a y, hk (nw h 1 0) a = some y → hk G4 a = some y := fun a y e => by rw [eG4]; exact k3 a y e
    have h4 : ∀ a k, ¬ (a = wa w ∧ k = 5) → hi G4 a k = hi G3 a k := fun a k q => by rw [eG4, hi_put, if_neg q]; rfl
    have z4 : ∀ a k, ¬ (a = wa w ∧ (k = 2 ∨ k = 3)) → hq G4 a k = hq G3 a k := fun a k q => by
      rw [eG4]
      show hq (sq (sq G3 (wa w) 2 (some n)) (wa w) 3 (some n)) a k = _
      rw [hq_put, if_neg (by omega), hq_put, if_neg (by omega)]
    have n4 : ∀ k, hi G4 n k = hi G1 n k := fun k => by rw [h4 _ _ (by omega), n3]
    refine ⟨G4, fin G4 kp (k4 _ _ Kn) (by rw [n4]; exact v0.1), ?_, fun a y e => k4 _ _ (K0 _ _ e), by rw [← en]; exact k4 _ _ Kn, fun a k h1 h2 h5 => ?_, ?_, ?_, ?_, fun a k h1 h2 h5 _ => ?_, ?_, ?_, fun _ => ?_, fun z => absurd rfl z, fun l e => by (cases e), ?_⟩
    · exact fx_far X3 (by rw [eG4]; rfl) (fun a k h1 h2 => z4 _ _ (by omega))
    · rw [h4 _ _ h5, h3 _ _ (by omega) h2]
    · rw [h4 _ _ (by omega), eG3, hi_hit]
    · rw [eG4, hi_hit]
    · rw [← en]
      simp only [n4]
      exact v0
    · rw [z4 _ _ h5, z3 _ _ (by omega) h2]
    · rw [z4 _ _ (by omega), z16, en]
    · rw [eG4, ← en]
      show hq (sq (sq G3 (wa w) 2 (some n)) (wa w) 3 (some n)) (wa w) 3 = _
      rw [hq_put, if_pos ⟨rfl, rfl⟩]
    · rw [eG4, ← en]
      show hq (sq (sq G3 (wa w) 2 (some n)) (wa w) 3 (some n)) (wa w) 2 = _
      rw [hq_put, if_neg (by omega), hq_put, if_pos ⟨rfl, rfl⟩]
    · rw [← en, z4 _ _ (by omega), zn]
  | some l =>
    obtain ⟨l1, l2, l3⟩ := lx_some nf l hl
    rw [hl] at z3w
    have fl := T.2.2.2.2.1 l l1
    have ap := T.apart hw l1
    have ln := lt _ _ fl.2.1
    have kp := c_keep1 (n := n) (k3 _ _ (K0 _ _ W)) z3w (k3 _ _ (K0 _ _ fl.2.1))
    obtain ⟨G4, eG4⟩ : ∃ G4, G4 = si (sq (sq G3 (fa l) 8 (some n)) (wa w) 3 (some n)) (wa w) 5 0 := ⟨_, rfl⟩
    rw [← eG4] at kp
    have f88 := fl.1
    have k4 : ∀ a y, hk (nw h 1 0) a = some y → hk G4 a = some y := fun a y e => by rw [eG4]; exact k3 a y e
    have h4 : ∀ a k, ¬ (a = wa w ∧ k = 5) → hi G4 a k = hi G3 a k := fun a k q => by rw [eG4, hi_put, if_neg q]; rfl
    have z4 : ∀ a k, ¬ (a = wa w ∧ k = 3) → ¬ (a = fa l ∧ k = 8) → hq G4 a k = hq G3 a k := fun a k q q2 => by
      rw [eG4]
      show hq (sq (sq G3 (fa l) 8 (some n)) (wa w) 3 (some n)) a k = _
      rw [hq_put, if_neg (by omega), hq_put, if_neg (by omega)]
    have n4 : ∀ k, hi G4 n k = hi G1 n k := fun k => by rw [h4 _ _ (by omega), n3]
    refine ⟨G4, fin G4 kp (k4 _ _ Kn) (by rw [n4]; exact v0.1), ?_, fun a y e => k4 _ _ (K0 _ _ e), by rw [← en]; exact k4 _ _ Kn, fun a k h1 h2 h5 => ?_, ?_, ?_, ?_, fun a k h1 h2 h5 h6 => ?_, ?_, ?_, fun z => by (cases z), fun _ => ?_, fun l' e => ?_, ?_⟩
    · exact fx_far X3 (by rw [eG4]; rfl) (fun a k h1 h2 => z4 _ _ (by omega) (by omega))
    · rw [h4 _ _ h5, h3 _ _ (by omega) h2]
    · rw [h4 _ _ (by omega), eG3, hi_hit]
    · rw [eG4, hi_hit]
    · rw [← en]
      simp only [n4]
      exact v0
    · rw [z4 _ _ (by omega) (h6 l rfl), z3 _ _ (by omega) h2]
    · rw [z4 _ _ (by omega) (by omega), z16, en]
    · rw [eG4, ← en]
      show hq (sq (sq G3 (fa l) 8 (some n)) (wa w) 3 (some n)) (wa w) 3 = _
      rw [hq_put, if_pos ⟨rfl, rfl⟩]
    · rw [z4 _ _ (by omega) (by omega), z3 _ _ (by omega) (by omega)]
    · cases e
      rw [eG4, ← en]
      show hq (sq (sq G3 (fa l) 8 (some n)) (wa w) 3 (some n)) (fa l) 8 = _
      rw [hq_put, if_neg (by omega), hq_put, if_pos ⟨rfl, rfl⟩]
    · rw [← en, z4 _ _ (by omega) (by omega), zn]
end Te
