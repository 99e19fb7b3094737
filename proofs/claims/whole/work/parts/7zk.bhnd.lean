/-! The model behind a unit. -/
section Mv
variable {h : Hp} {B : Nat → Nat} {n i u base D : Nat} {c : List Nat} {S S0 P : List (Nat × Nat)} {y : Nat × Nat}
theorem rkO_le (t : Nat) : rkO t ≤ 6 := by
  have := rkO_lv t
  omega
theorem b_head (z : MZ h B n i u base c S D) (hl : S.length ≤ 80) (h8 : ∃ x ∈ S, x.1 = 8) (hc : rkO (tT B n i) = 4 → ¬ cmpd S = true) : f_X9_behind 45 h = behB (nI (rkO (tT B n i))) h := by
  have X := z.1.1.1
  have rk := m_rank z.1
  have cm := z_cmp z hl h8
  have rl := rkO_le (tT B n i)
  have q4 : nI (rkO (tT B n i)) = (4 : Int32) ↔ rkO (tT B n i) = 4 := nI_eq (b := 4) (by omega) (by decide)
  unfold f_X9_behind
  rw [rc45 X, bd_some, rk, b1_some]
  by_cases c4 : rkO (tT B n i) = 4
  · rw [if_pos (q4.mpr c4), rc45 X, bd_some, cm, if_neg (hc c4), b1_some, if_pos rfl]
    rfl
  · rw [if_neg (fun e => c4 (q4.mp e))]
    rfl
theorem b_cmp (z : MZ h B n i u base c S D) (hl : S.length ≤ 80) (h8 : ∃ x ∈ S, x.1 = 8) (h4 : rkO (tT B n i) = 4) (hc : cmpd S = true) : ∃ g, f_X9_behind 45 h = some (1, g) ∧ EF base h g ∧ MD g B n (i, 2) := by
  have X := z.1.1.1
  have rk := m_rank z.1
  have cm := z_cmp z hl h8
  obtain ⟨g, a1, a2, a3⟩ := z_wrong z
  refine ⟨g, ?_, a2, a3⟩
  unfold f_X9_behind
  rw [rc45 X, bd_some, rk, b1_some, h4, if_pos (show nI 4 = (4 : Int32) from rfl), rc45 X, bd_some, cm, if_pos hc, b1_some, if_neg (by decide), rc45 X, bd_some, a1, bd_some]
/-- the model's sign for what joins -/
theorem op_sign (z : MZ h B n i u base c S D) (hr : 0 < rkO (tT B n i)) : (b1 ((if nI (rkO (tT B n i)) = (2 : Int32) then some (38, h) else if nI (rkO (tT B n i)) = (1 : Int32) then some (124, h) else (getI h (some 45) 8 6).bind fun x103 => (rc h (some 45) 8).bind fun g107 => b1 (f_X9_sign g107 x103 h) fun x109 h105 => some (x109, h105) : Option (Int32 × Hp))) fun w h' => some (w, h')) = some (mc (20000 + tT B n i), h) := by
  have X := z.1.1.1
  have m6 := z.1.2.2.1
  have n9 := z.1.1.2.1.1
  have pl := tP_le (B := B) (n := n) i
  have key : (tT B n i = 11 ∨ tT B n i = 10) ∨ (isS (tT B n i) = true ∧ rkO (tT B n i) ≠ 2 ∧ rkO (tT B n i) ≠ 1 ∧ mc (20000 + tT B n i) = nI (tT B n i)) := by
    have q : lvO (tT B n i) < 5 := by
      have := rkO_lv (tT B n i)
      omega
    rcases lvO_lt q with ⟨-, r⟩ | ⟨-, r⟩ | ⟨-, r | r | r⟩ | ⟨-, r | r⟩ | ⟨-, r | r⟩
    · exact Or.inl (Or.inr r)
    · exact Or.inl (Or.inl r)
    all_goals (rw [r]; exact Or.inr (by decide))
  rcases key with (e | e) | ⟨e1, e2, e3, e4⟩
  · rw [e, show rkO 11 = 2 from rfl, if_pos (show nI 2 = (2 : Int32) from rfl), b1_some]
    rfl
  · rw [e, show rkO 10 = 1 from rfl, if_neg (show ¬ nI 1 = (2 : Int32) by decide), if_pos (show nI 1 = (1 : Int32) from rfl), b1_some]
    rfl
  · have rl := rkO_le (tT B n i)
    have q2 : ¬ nI (rkO (tT B n i)) = (2 : Int32) := fun q => e2 ((nI_eq (b := 2) (by omega) (by decide)).mp q)
    have q1 : ¬ nI (rkO (tT B n i)) = (1 : Int32) := fun q => e3 ((nI_eq (b := 1) (by omega) (by decide)).mp q)
    have mt := z.1.2.2.2.2
    have c2 : tP B n i < n ∧ B (tP B n i) = tT B n i := by
      have := isS_iff.mp e1
      rcases mt with ⟨e, f⟩ | ⟨e, f⟩ | ⟨e, f, g⟩ | ⟨e, -⟩ | ⟨e, f, g⟩
      · omega
      · omega
      · omega
      · omega
      · exact g
    rw [if_neg q2, if_neg q1, gi45 X, bd_some, m6, rc45 X, bd_some, m_sign z.1.1 (by omega), b1_some, b1_some, if_pos c2.1, c2.2, e4]
/-- an operator: what binds as close or closer is written, then it goes on the pile -/
theorem b_op (z : MZ h B n i u base c (P ++ y :: S0) (dp (P ++ y :: S0))) (hr : 0 < rkO (tT B n i)) (hP : ∀ x ∈ P, rkO (tT B n i) ≤ x.1 ∧ x.1 ≤ 6) (hy : 6 < y.1 ∨ y.1 < rkO (tT B n i)) (hc : base + c.length + P.length ≤ 900) (hl : (P ++ y :: S0).length ≤ 80) (hl2 : (y :: S0).length < 80) : ∃ g, behB (nI (rkO (tT B n i))) h = some (1, g) ∧ EF base h g ∧ MZ g B n (i + 1) u base (c ++ stp P) ((rkO (tT B n i), tT B n i) :: y :: S0) (dp (y :: S0)) := by
  have rl := rkO_le (tT B n i)
  have len : (P ++ y :: S0).length = P.length + (S0.length + 1) := by rw [List.length_append]; rfl
  obtain ⟨g1, a1, a2, a3⟩ := z_pops (S := y :: S0) rl rfl hy P fu h c (fu_gt (by omega)) z (fun x hx => ⟨(hP x hx).2, (hP x hx).1⟩) hc hl
  have X1 := a3.1.1.1
  have sg := op_sign a3 hr
  obtain ⟨g2, b1', b2', b3'⟩ := z_push a3 hl2 (w := rkO (tT B n i)) (t := tT B n i) (by omega) (v := mc (20000 + tT B n i)) (fun _ => rfl)
  obtain ⟨g3, d1, d2, d3⟩ := z_next b3'
  have np : ¬ nI (rkO (tT B n i)) ≤ (0 : Int32) := nI_nle hr (by omega)
  refine ⟨g3, ?_, (a2.trans b2').trans d2, d3⟩
  unfold behB
  rw [a1, bd_some, if_neg np]
  obtain ⟨w, ew⟩ : ∃ w : Option (Int32 × Hp), w = (if nI (rkO (tT B n i)) = (2 : Int32) then some (38, g1) else if nI (rkO (tT B n i)) = (1 : Int32) then some (124, g1) else (getI g1 (some 45) 8 6).bind fun x103 => (rc g1 (some 45) 8).bind fun g107 => b1 (f_X9_sign g107 x103 g1) fun x109 h105 => some (x109, h105)) := ⟨_, rfl⟩
  rw [← ew] at sg ⊢
  have ew2 : w = some (mc (20000 + tT B n i), g1) := by
    rw [← sg]
    cases w <;> rfl
  rw [ew2, b1_some, rc45 X1, bd_some, b1', bd_some, rc45 b3'.1.1.1, bd_some, d1, bd_some]
/-- the end of a bracket -/
theorem b_brk (z : MZ h B n i u base c (P ++ (7, 0) :: S0) (dp (P ++ (7, 0) :: S0))) (hr : rkO (tT B n i) = 0) (hP : ∀ x ∈ P, x.1 ≤ 6) (hc : base + c.length + P.length ≤ 900) (hl : (P ++ (7, 0) :: S0).length ≤ 80) : (tT B n i = 41 → ∃ g, behB (nI (rkO (tT B n i))) h = some (0, g) ∧ EF base h g ∧ MZ g B n (i + 1) u base (c ++ stp P) S0 (dp S0)) ∧ (tT B n i ≠ 41 → ∃ g, behB (nI (rkO (tT B n i))) h = some (0, g) ∧ EF base h g ∧ MD g B n (i, 2)) := by
  have len : (P ++ (7, 0) :: S0).length = P.length + (S0.length + 1) := by rw [List.length_append]; rfl
  obtain ⟨g1, a1, a2, a3⟩ := z_pops (S := (7, 0) :: S0) (r := 0) (by decide) rfl (Or.inl (by decide)) P fu h c (fu_gt (by omega)) z (fun x hx => ⟨hP x hx, Nat.zero_le _⟩) hc hl
  have X1 := a3.1.1.1
  obtain ⟨s1, s2, s3, s4⟩ := a3.2.2.2.2.1
  have e29 : hi g1 45 29 = nI (S0.length + 1) := a3.2.2.2.1
  have ix : nI (S0.length + 1) - (1 : Int32) = nI S0.length := nI_pred _
  have lt : S0.length < 80 := by omega
  obtain ⟨f2, z2⟩ := z_pop a3
  have e28 : hi g1 45 28 = nI (dp S0 + 1) := by
    rw [a3.2.2.2.2.2]
    show nI (1 + dp S0) = _
    rw [Nat.add_comm]
  have pr : nI (dp S0 + 1) - (1 : Int32) = nI (dp S0) := nI_pred _
  obtain ⟨f3, z3⟩ := z_deep z2 (dp S0)
  have is41 := m_is z3.1 (c := 41) (by decide) (v := 41) rfl
  have n0' : (0 : Int32) ≤ 0 := Int32.le_refl _
  have a1' : f_X9_behind_L23 fu 45 0 h = some g1 := a1
  have s1' : hi g1 57 S0.length = 7 := s1
  have r0 : nI (rkO (tT B n i)) = 0 := by rw [hr]; rfl
  rw [r0]
  constructor
  · intro t41
    rw [if_pos t41] at is41
    obtain ⟨g4, d1, d2, d3⟩ := z_next z3
    have mu : f_X9_must 45 1 (si (si g1 45 29 (nI S0.length)) 45 28 (nI (dp S0))) = some g4 := by
      unfold f_X9_must
      rw [rc45 z3.1.1.1, bd_some, m_good z3.1, b1_some, if_neg (by decide), if_neg (by decide), rc45 z3.1.1.1, bd_some, d1, bd_some, bd_some]
    refine ⟨g4, ?_, ((a2.trans f2).trans f3).trans d2, d3⟩
    unfold behB
    simp (disch := (first | assumption | (simp only [FX_si, FX_sj, FX_sr, WX_si, WX_sj, WX_sr, FK_si, FK_sj, FK_sr]; assumption) | omega | decide)) only [a1', n0', e29, ix, s1', e28, pr, is41, mu, ↓reduceIte, if_true, if_false, i10, i01, eq_self, wq7, wq8, wq9, wq10, wrc, wgi, wpi, wpz, wn1, wn2, wn3, wn4, wr1, wr2, wr3, wr4, ww1, ww2, ww3, ww4, fgi, fgq, fpi, frc, at18, at19, at21, at22, at23, at24, at25, at26, at_neg, wat1, wat2, wat3, wat4, reduceCtorEq, bd_some, b1_some, b2_some, b3_some, b4_some, c1_eq, elim_inl, elim_inr, zok0, zok1, getQ_si, getQ_sj, getQ_sr, q8_0, q8_1, q8_2, q8_4, q8_7, q8_8, q8_9, q8_10, q8_11, q9_0, q9_3, q9_4, q9_8, q17_0, q17_1, q17_2, q17_4, q17_5, q17_6, q17_9, q17_10, q17_11, q27_4, q27_5, q27_6, q27_7, q27_8, q27_11, q45_0, q45_1, q45_11, q45_12, q45_13, q45_14, q45_15, q45_16, q45_17, q45_18, q45_19, q45_20, q45_21, q45_22, q45_23, q45_24, q45_30, q45_31, q45_32, q45_33, q45_34, q45_35, q45_36, q45_37, q45_38, q45_39, q45_43, q45_44, q45_45, q45_46, q45_47, q45_48, q45_52, q45_53, q45_54, q45_59, q45_60, q45_61, q45_62, q45_65, q45_67, q45_68, gi8, gj8, pi8, pz8, pj8, rc8, gi9, gj9, pi9, pz9, pj9, rc9, gi17, gj17, pi17, pz17, pj17, rc17, gi27, gj27, pi27, pz27, pj27, rc27, gi45, gj45, pi45, pz45, pj45, rc45, aln_si, aln_sj, aln_sq, rc_si, rc_sj, rc_sq, n0, n1, n10, n11, n12, n13, n14, n15, n16, n18, n19, n20, n21, n22, n23, n24, n25, n26, n29, n30, n31, n32, n33, n34, n35, n36, n37, n38, n39, n40, n42, n43, n44, n46, n47, n48, n49, n50, n51, n52, n53, n54, n55, n56, n57, n58, n59, n60, n61, n62, n63, n64, n65, n66, n67, n68, n69, n70, n71, n72, n73, n74, n75, n76, n77, n78, n79, n80, n81, n82, n83, n84, n85, n86, n87, r0, r1, r10, r11, r12, r13, r14, r15, r16, r18, r19, r20, r21, r22, r23, r24, r25, r26, r29, r30, r31, r32, r33, r34, r35, r36, r37, r38, r39, r40, r42, r43, r44, r46, r47, r48, r49, r50, r51, r52, r53, r54, r55, r56, r57, r58, r59, r60, r61, r62, r63, r64, r65, r66, r67, r68, r69, r70, r71, r72, r73, r74, r75, r76, r77, r78, r79, r80, r81, r82, r83, r84, r85, r86, r87, w10, w11, w12, w13, w18, w19, w20, w21, w22, w23, w24, w25, w26, w30, w31, w32, w33, w34, w35, w36, w38, w39, w40, w43, w44, w46, w47, w48, w49, w50, w51, w52, w53, w54, w55, w56, w57, w58, w59, w60, w61, w62, w63, w64, w65, w66, w67, w68, w69, w70, w71, w72, w73, w74, w75, w76, w77, w78, w79, w80, w81, w82, w83, w84, w85, w86, w87, hi_hit, hi_row, hi_col, hj_hit, hj_row, hj_col, hi_sj, hj_si, hq_si, hq_sj, hi_sq, hj_sq, hi_srh, hi_srm]
  · intro t41
    rw [if_neg t41] at is41
    obtain ⟨g4, d1, d2, d3⟩ := m_must0 z3.1 (v := 0) rfl
    refine ⟨g4, ?_, ((a2.trans f2).trans f3).trans (EF.of d2 (by decide) (by decide)), d3⟩
    unfold behB
    simp (disch := (first | assumption | (simp only [FX_si, FX_sj, FX_sr, WX_si, WX_sj, WX_sr, FK_si, FK_sj, FK_sr]; assumption) | omega | decide)) only [a1', n0', e29, ix, s1', e28, pr, is41, d1, ↓reduceIte, if_true, if_false, i10, i01, eq_self, wq7, wq8, wq9, wq10, wrc, wgi, wpi, wpz, wn1, wn2, wn3, wn4, wr1, wr2, wr3, wr4, ww1, ww2, ww3, ww4, fgi, fgq, fpi, frc, at18, at19, at21, at22, at23, at24, at25, at26, at_neg, wat1, wat2, wat3, wat4, reduceCtorEq, bd_some, b1_some, b2_some, b3_some, b4_some, c1_eq, elim_inl, elim_inr, zok0, zok1, getQ_si, getQ_sj, getQ_sr, q8_0, q8_1, q8_2, q8_4, q8_7, q8_8, q8_9, q8_10, q8_11, q9_0, q9_3, q9_4, q9_8, q17_0, q17_1, q17_2, q17_4, q17_5, q17_6, q17_9, q17_10, q17_11, q27_4, q27_5, q27_6, q27_7, q27_8, q27_11, q45_0, q45_1, q45_11, q45_12, q45_13, q45_14, q45_15, q45_16, q45_17, q45_18, q45_19, q45_20, q45_21, q45_22, q45_23, q45_24, q45_30, q45_31, q45_32, q45_33, q45_34, q45_35, q45_36, q45_37, q45_38, q45_39, q45_43, q45_44, q45_45, q45_46, q45_47, q45_48, q45_52, q45_53, q45_54, q45_59, q45_60, q45_61, q45_62, q45_65, q45_67, q45_68, gi8, gj8, pi8, pz8, pj8, rc8, gi9, gj9, pi9, pz9, pj9, rc9, gi17, gj17, pi17, pz17, pj17, rc17, gi27, gj27, pi27, pz27, pj27, rc27, gi45, gj45, pi45, pz45, pj45, rc45, aln_si, aln_sj, aln_sq, rc_si, rc_sj, rc_sq, n0, n1, n10, n11, n12, n13, n14, n15, n16, n18, n19, n20, n21, n22, n23, n24, n25, n26, n29, n30, n31, n32, n33, n34, n35, n36, n37, n38, n39, n40, n42, n43, n44, n46, n47, n48, n49, n50, n51, n52, n53, n54, n55, n56, n57, n58, n59, n60, n61, n62, n63, n64, n65, n66, n67, n68, n69, n70, n71, n72, n73, n74, n75, n76, n77, n78, n79, n80, n81, n82, n83, n84, n85, n86, n87, r0, r1, r10, r11, r12, r13, r14, r15, r16, r18, r19, r20, r21, r22, r23, r24, r25, r26, r29, r30, r31, r32, r33, r34, r35, r36, r37, r38, r39, r40, r42, r43, r44, r46, r47, r48, r49, r50, r51, r52, r53, r54, r55, r56, r57, r58, r59, r60, r61, r62, r63, r64, r65, r66, r67, r68, r69, r70, r71, r72, r73, r74, r75, r76, r77, r78, r79, r80, r81, r82, r83, r84, r85, r86, r87, w10, w11, w12, w13, w18, w19, w20, w21, w22, w23, w24, w25, w26, w30, w31, w32, w33, w34, w35, w36, w38, w39, w40, w43, w44, w46, w47, w48, w49, w50, w51, w52, w53, w54, w55, w56, w57, w58, w59, w60, w61, w62, w63, w64, w65, w66, w67, w68, w69, w70, w71, w72, w73, w74, w75, w76, w77, w78, w79, w80, w81, w82, w83, w84, w85, w86, w87, hi_hit, hi_row, hi_col, hj_hit, hj_row, hj_col, hi_sj, hj_si, hq_si, hq_sj, hi_sq, hj_sq, hi_srh, hi_srm]
/-- the end of all -/
theorem b_all (z : MZ h B n i u base c (P ++ [(8, 0)]) (dp (P ++ [(8, 0)]))) (hr : rkO (tT B n i) = 0) (hP : ∀ x ∈ P, x.1 ≤ 6) (hc : base + c.length + P.length ≤ 900) (hl : (P ++ [(8, 0)]).length ≤ 80) : ∃ g, behB (nI (rkO (tT B n i))) h = some (0, g) ∧ EF base h g ∧ MZ g B n i u base (c ++ stp P) [] 0 := by
  have len : (P ++ [(8, 0)]).length = P.length + 1 := by rw [List.length_append]; rfl
  obtain ⟨g1, a1, a2, a3⟩ := z_pops (S := [(8, 0)]) (r := 0) (by decide) rfl (Or.inl (by decide)) P fu h c (fu_gt (by omega)) z (fun x hx => ⟨hP x hx, Nat.zero_le _⟩) hc hl
  have X1 := a3.1.1.1
  obtain ⟨s1, s2, s3, s4⟩ := a3.2.2.2.2.1
  have e29 : hi g1 45 29 = 1 := a3.2.2.2.1
  have ix : (1 : Int32) - 1 = nI 0 := rfl
  obtain ⟨f2, z2⟩ := z_pop a3
  have f2' : EF base g1 (si g1 45 29 (nI 0)) := f2
  have z2' : MZ (si g1 45 29 (nI 0)) B n i u base (c ++ stp P) [] 0 := z2
  have n0' : (0 : Int32) ≤ 0 := Int32.le_refl _
  have a1' : f_X9_behind_L23 fu 45 0 h = some g1 := a1
  have s1' : hi g1 57 0 = 8 := s1
  have n87 : ¬ (8 : Int32) = 7 := by decide
  have lt : 0 < 80 := by decide
  have r0 : nI (rkO (tT B n i)) = 0 := by rw [hr]; rfl
  rw [r0]
  refine ⟨si g1 45 29 (nI 0), ?_, a2.trans f2', z2'⟩
  unfold behB
  simp (disch := (first | assumption | (simp only [FX_si, FX_sj, FX_sr, WX_si, WX_sj, WX_sr, FK_si, FK_sj, FK_sr]; assumption) | omega | decide)) only [a1', n0', e29, ix, s1', n87, ↓reduceIte, if_true, if_false, i10, i01, eq_self, wq7, wq8, wq9, wq10, wrc, wgi, wpi, wpz, wn1, wn2, wn3, wn4, wr1, wr2, wr3, wr4, ww1, ww2, ww3, ww4, fgi, fgq, fpi, frc, at18, at19, at21, at22, at23, at24, at25, at26, at_neg, wat1, wat2, wat3, wat4, reduceCtorEq, bd_some, b1_some, b2_some, b3_some, b4_some, c1_eq, elim_inl, elim_inr, zok0, zok1, getQ_si, getQ_sj, getQ_sr, q8_0, q8_1, q8_2, q8_4, q8_7, q8_8, q8_9, q8_10, q8_11, q9_0, q9_3, q9_4, q9_8, q17_0, q17_1, q17_2, q17_4, q17_5, q17_6, q17_9, q17_10, q17_11, q27_4, q27_5, q27_6, q27_7, q27_8, q27_11, q45_0, q45_1, q45_11, q45_12, q45_13, q45_14, q45_15, q45_16, q45_17, q45_18, q45_19, q45_20, q45_21, q45_22, q45_23, q45_24, q45_30, q45_31, q45_32, q45_33, q45_34, q45_35, q45_36, q45_37, q45_38, q45_39, q45_43, q45_44, q45_45, q45_46, q45_47, q45_48, q45_52, q45_53, q45_54, q45_59, q45_60, q45_61, q45_62, q45_65, q45_67, q45_68, gi8, gj8, pi8, pz8, pj8, rc8, gi9, gj9, pi9, pz9, pj9, rc9, gi17, gj17, pi17, pz17, pj17, rc17, gi27, gj27, pi27, pz27, pj27, rc27, gi45, gj45, pi45, pz45, pj45, rc45, aln_si, aln_sj, aln_sq, rc_si, rc_sj, rc_sq, n0, n1, n10, n11, n12, n13, n14, n15, n16, n18, n19, n20, n21, n22, n23, n24, n25, n26, n29, n30, n31, n32, n33, n34, n35, n36, n37, n38, n39, n40, n42, n43, n44, n46, n47, n48, n49, n50, n51, n52, n53, n54, n55, n56, n57, n58, n59, n60, n61, n62, n63, n64, n65, n66, n67, n68, n69, n70, n71, n72, n73, n74, n75, n76, n77, n78, n79, n80, n81, n82, n83, n84, n85, n86, n87, r0, r1, r10, r11, r12, r13, r14, r15, r16, r18, r19, r20, r21, r22, r23, r24, r25, r26, r29, r30, r31, r32, r33, r34, r35, r36, r37, r38, r39, r40, r42, r43, r44, r46, r47, r48, r49, r50, r51, r52, r53, r54, r55, r56, r57, r58, r59, r60, r61, r62, r63, r64, r65, r66, r67, r68, r69, r70, r71, r72, r73, r74, r75, r76, r77, r78, r79, r80, r81, r82, r83, r84, r85, r86, r87, w10, w11, w12, w13, w18, w19, w20, w21, w22, w23, w24, w25, w26, w30, w31, w32, w33, w34, w35, w36, w38, w39, w40, w43, w44, w46, w47, w48, w49, w50, w51, w52, w53, w54, w55, w56, w57, w58, w59, w60, w61, w62, w63, w64, w65, w66, w67, w68, w69, w70, w71, w72, w73, w74, w75, w76, w77, w78, w79, w80, w81, w82, w83, w84, w85, w86, w87, hi_hit, hi_row, hi_col, hj_hit, hj_row, hj_col, hi_sj, hj_si, hq_si, hq_sj, hi_sq, hj_sq, hi_srh, hi_srm]
end Mv
