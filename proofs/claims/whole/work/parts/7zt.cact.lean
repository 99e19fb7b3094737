/-! The class reads an act. -/
def A0 : Ac := (pln, 0, [], none)
theorem A0_ok : AOK A0 := ⟨⟨by decide, fun r hr => (by cases hr)⟩, fun C hC => (by cases hC), ⟨12, by decide, by decide, rfl⟩, ⟨104, by decide, by decide, rfl⟩, ⟨5, by decide, by decide, rfl⟩, ⟨90, by decide, by decide, rfl⟩, ⟨90, by decide, rfl⟩, ⟨9999, by decide, rfl⟩, ⟨0, by decide, rfl⟩⟩
theorem x0_eq (h : Hp) {b : Nat} (eb : b = h.1.length) : hX0_init (nw h 0 0) b = sq (si (si (si (si (si (si (si (nw (sq (nw (sq (nw (nw h 0 0) 15 10) b 0 (some (b + 1))) 10 0) b 2 (some (b + 2))) 10 7) (b + 3) 0 12) (b + 3) 1 104) (b + 3) 2 5) (b + 3) 3 90) (b + 3) 4 90) (b + 3) 5 9999) (b + 3) 6 0) b 4 (some (b + 3)) := by
  have l1 : (nw h 0 0).1.length = b + 1 := by rw [ln_nw, List.length_append, ← eb]; rfl
  have l2 : (sq (nw (nw h 0 0) 15 10) b 0 (some (b + 1))).1.length = b + 2 := by rw [ln_sq, ln_nw, List.length_append, l1]; rfl
  have l3 : (sq (nw (sq (nw (nw h 0 0) 15 10) b 0 (some (b + 1))) 10 0) b 2 (some (b + 2))).1.length = b + 3 := by rw [ln_sq, ln_nw, List.length_append, l2]; rfl
  unfold hX0_init
  simp only [l1, l2, l3]
theorem x0_facts (h : Hp) {b : Nat} (eb : b = h.1.length) : ∃ g, g = hX0_init (nw h 0 0) b ∧ g.1 = h.1 ++ [(0, 0), (15, 10), (10, 0), (10, 7)] ∧ (∀ a k, a < b → hi g a k = hi h a k) ∧ (∀ a k, a < b → hj g a k = hj h a k) ∧ (∀ a k, a < b → hq g a k = hq h a k) ∧ CX g b A0 ∧ (∀ k, hi g b k = 0) := by
  refine ⟨_, rfl, ?_, ?_⟩
  · rw [x0_kd, ln_nw, List.append_assoc]
    rfl
  have l1 : (nw h 0 0).1.length = b + 1 := by rw [ln_nw, List.length_append, ← eb]; rfl
  have l2 : (sq (nw (nw h 0 0) 15 10) b 0 (some (b + 1))).1.length = b + 2 := by rw [ln_sq, ln_nw, List.length_append, l1]; rfl
  have l3 : (sq (nw (sq (nw (nw h 0 0) 15 10) b 0 (some (b + 1))) 10 0) b 2 (some (b + 2))).1.length = b + 3 := by rw [ln_sq, ln_nw, List.length_append, l2]; rfl
  have kd : (hX0_init (nw h 0 0) b).1 = h.1 ++ [(0, 0), (15, 10), (10, 0), (10, 7)] := by
    rw [x0_kd, ln_nw, List.append_assoc]
    rfl
  have kk : ∀ j, j < 4 → hk (hX0_init (nw h 0 0) b) (b + j) = [((0, 0) : Nat × Nat), (15, 10), (10, 0), (10, 7)][j]? := fun j hj => by
    unfold hk
    rw [kd, List.getElem?_append_right (by omega)]
    congr 1
    omega
  have e := x0_eq h eb
  rw [e] at kk ⊢
  refine ⟨fun a k ha => ?_, fun a k ha => ?_, fun a k ha => ?_, ⟨kk 0 (by decide), kk 1 (by decide), kk 3 (by decide), ?_, ?_, ?_, ?_, fun l hl => ?_, ?_⟩, fun k => ?_⟩
  · rw [hi_sq, hi_row _ _ _ (by omega), hi_row _ _ _ (by omega), hi_row _ _ _ (by omega), hi_row _ _ _ (by omega), hi_row _ _ _ (by omega), hi_row _ _ _ (by omega), hi_row _ _ _ (by omega), hi_nw, l3, if_neg (by omega), hi_sq, hi_nw, l2, if_neg (by omega), hi_sq, hi_nw, l1, if_neg (by omega), hi_nw, if_neg (by omega)]
  · show hj (nw (sq (nw (sq (nw (nw h 0 0) 15 10) b 0 (some (b + 1))) 10 0) b 2 (some (b + 2))) 10 7) a k = _
    rw [hj_nw, l3, if_neg (by omega), hj_sq, hj_nw, l2, if_neg (by omega), hj_sq, hj_nw, l1, if_neg (by omega), hj_nw, if_neg (by omega)]
  · rw [hq_row _ _ _ (by omega)]
    show hq (nw (sq (nw (sq (nw (nw h 0 0) 15 10) b 0 (some (b + 1))) 10 0) b 2 (some (b + 2))) 10 7) a k = _
    rw [hq_nw, l3, if_neg (by omega), hq_row _ _ _ (by omega), hq_nw, l2, if_neg (by omega), hq_row _ _ _ (by omega), hq_nw, l1, if_neg (by omega), hq_nw, if_neg (by omega)]
  · rw [hq_col _ _ (by decide)]
    show hq (nw (sq (nw (sq (nw (nw h 0 0) 15 10) b 0 (some (b + 1))) 10 0) b 2 (some (b + 2))) 10 7) b 0 = _
    rw [hq_nw, l3, if_neg (by omega), hq_col _ _ (by decide), hq_nw, l2, if_neg (by omega), hq_hit]
  · rw [hq_hit]
  · rw [hi_sq, hi_row _ _ _ (by omega), hi_row _ _ _ (by omega), hi_row _ _ _ (by omega), hi_row _ _ _ (by omega), hi_row _ _ _ (by omega), hi_row _ _ _ (by omega), hi_row _ _ _ (by omega), hi_nw, l3, if_neg (by omega), hi_sq, hi_nw, l2, if_neg (by omega), hi_sq, hi_nw, l1, if_neg (by omega), hi_nw, if_pos eb]
    rfl
  · intro n hn
    rcases (show n = 0 ∨ n = 1 ∨ n = 2 ∨ n = 3 ∨ n = 4 ∨ n = 5 ∨ n = 6 by omega) with rfl | rfl | rfl | rfl | rfl | rfl | rfl
    · rw [hi_sq, hi_col _ _ (by decide), hi_col _ _ (by decide), hi_col _ _ (by decide), hi_col _ _ (by decide), hi_col _ _ (by decide), hi_col _ _ (by decide), hi_hit]; rfl
    · rw [hi_sq, hi_col _ _ (by decide), hi_col _ _ (by decide), hi_col _ _ (by decide), hi_col _ _ (by decide), hi_col _ _ (by decide), hi_hit]; rfl
    · rw [hi_sq, hi_col _ _ (by decide), hi_col _ _ (by decide), hi_col _ _ (by decide), hi_col _ _ (by decide), hi_hit]; rfl
    · rw [hi_sq, hi_col _ _ (by decide), hi_col _ _ (by decide), hi_col _ _ (by decide), hi_hit]; rfl
    · rw [hi_sq, hi_col _ _ (by decide), hi_col _ _ (by decide), hi_hit]; rfl
    · rw [hi_sq, hi_col _ _ (by decide), hi_hit]; rfl
    · rw [hi_sq, hi_hit]; rfl
  · exact absurd hl (Nat.not_lt_zero _)
  · show hi _ b 3 = 0
    rw [hi_sq, hi_row _ _ _ (by omega), hi_row _ _ _ (by omega), hi_row _ _ _ (by omega), hi_row _ _ _ (by omega), hi_row _ _ _ (by omega), hi_row _ _ _ (by omega), hi_row _ _ _ (by omega), hi_nw, l3, if_neg (by omega), hi_sq, hi_nw, l2, if_neg (by omega), hi_sq, hi_nw, l1, if_neg (by omega), hi_nw, if_pos eb]
  · rw [hi_sq, hi_row _ _ _ (by omega), hi_row _ _ _ (by omega), hi_row _ _ _ (by omega), hi_row _ _ _ (by omega), hi_row _ _ _ (by omega), hi_row _ _ _ (by omega), hi_row _ _ _ (by omega), hi_nw, l3, if_neg (by omega), hi_sq, hi_nw, l2, if_neg (by omega), hi_sq, hi_nw, l1, if_neg (by omega), hi_nw, if_pos eb]
section Ca
theorem c_next0 {T Pl : Nat → Nat} {N : Nat} {h : Hp} (gt : GT T N) (X : FX h) (tb : TB h T Pl N) (c12 : hi h 9 12 = 0) (c6 : hi h 9 6 = -1) (c10 : hi h 9 10 = 0) (c13 : hi h 9 13 = -1) : ∃ g, f_X2_nextToken 9 h = some g ∧ Fr [] [(9, 6), (9, 7)] h g ∧ CT g T Pl N 0 0 := by
  have hN := gt.1
  have m1 : (-1 : Int32) + 1 = nI 0 := by decide
  have q0 : ¬ nI 0 < (0 : Int32) := by decide
  have q1 : ¬ nI (N + 1) ≤ nI 0 := by rw [nI_leI (by omega) (by omega)]; omega
  have q2 : ¬ nI 901 ≤ nI 0 := by decide
  have q3 : 0 < 901 := by decide
  have t5 := tb.1
  have t11 := (tb.2 0 (by omega)).1
  have fr : Fr [] [(9, 6), (9, 7)] h (si (si h 9 6 (nI 0)) 9 7 (nI (T 0))) := (Fr.fld (by decide)).trans (Fr.fld (by decide))
  refine ⟨si (si h 9 6 (nI 0)) 9 7 (nI (T 0)), ?_, fr, fr.fx X, tb.fr fr (by decide) (by decide) (by decide) (by decide) (by decide) (by decide), (fr.ef (by decide) (by decide)).trans c12, ?_, hi_hit _ _ _, ⟨(fr.ef (by decide) (by decide)).trans c10, (fr.ef (by decide) (by decide)).trans c13⟩, by omega⟩
  · unfold f_X2_nextToken
    simp (disch := (first | assumption | (simp only [FX_si, FX_sj, FX_sr, WX_si, WX_sj, WX_sr, FK_si, FK_sj, FK_sr]; assumption) | omega | decide)) only [c6, c12, m1, q0, t5, q1, q2, t11, ↓reduceIte, if_true, if_false, i10, i01, eq_self, wq7, wq8, wq9, wq10, wrc, wgi, wpi, wpz, wn1, wn2, wn3, wn4, wr1, wr2, wr3, wr4, ww1, ww2, ww3, ww4, fgi, fgq, fpi, frc, at18, at19, at21, at22, at23, at24, at25, at26, at_neg, wat1, wat2, wat3, wat4, reduceCtorEq, bd_some, b1_some, b2_some, b3_some, b4_some, c1_eq, elim_inl, elim_inr, zok0, zok1, getQ_si, getQ_sj, getQ_sr, q8_0, q8_1, q8_2, q8_4, q8_7, q8_8, q8_9, q8_10, q8_11, q9_0, q9_3, q9_4, q9_8, q17_0, q17_1, q17_2, q17_4, q17_5, q17_6, q17_9, q17_10, q17_11, q27_4, q27_5, q27_6, q27_7, q27_8, q27_11, q45_0, q45_1, q45_11, q45_12, q45_13, q45_14, q45_15, q45_16, q45_17, q45_18, q45_19, q45_20, q45_21, q45_22, q45_23, q45_24, q45_30, q45_31, q45_32, q45_33, q45_34, q45_35, q45_36, q45_37, q45_38, q45_39, q45_43, q45_44, q45_45, q45_46, q45_47, q45_48, q45_52, q45_53, q45_54, q45_59, q45_60, q45_61, q45_62, q45_65, q45_67, q45_68, gi8, gj8, pi8, pz8, pj8, rc8, gi9, gj9, pi9, pz9, pj9, rc9, gi17, gj17, pi17, pz17, pj17, rc17, gi27, gj27, pi27, pz27, pj27, rc27, gi45, gj45, pi45, pz45, pj45, rc45, aln_si, aln_sj, aln_sq, rc_si, rc_sj, rc_sq, n0, n1, n10, n11, n12, n13, n14, n15, n16, n18, n19, n20, n21, n22, n23, n24, n25, n26, n29, n30, n31, n32, n33, n34, n35, n36, n37, n38, n39, n40, n42, n43, n44, n46, n47, n48, n49, n50, n51, n52, n53, n54, n55, n56, n57, n58, n59, n60, n61, n62, n63, n64, n65, n66, n67, n68, n69, n70, n71, n72, n73, n74, n75, n76, n77, n78, n79, n80, n81, n82, n83, n84, n85, n86, n87, r0, r1, r10, r11, r12, r13, r14, r15, r16, r18, r19, r20, r21, r22, r23, r24, r25, r26, r29, r30, r31, r32, r33, r34, r35, r36, r37, r38, r39, r40, r42, r43, r44, r46, r47, r48, r49, r50, r51, r52, r53, r54, r55, r56, r57, r58, r59, r60, r61, r62, r63, r64, r65, r66, r67, r68, r69, r70, r71, r72, r73, r74, r75, r76, r77, r78, r79, r80, r81, r82, r83, r84, r85, r86, r87, w10, w11, w12, w13, w18, w19, w20, w21, w22, w23, w24, w25, w26, w30, w31, w32, w33, w34, w35, w36, w38, w39, w40, w43, w44, w46, w47, w48, w49, w50, w51, w52, w53, w54, w55, w56, w57, w58, w59, w60, w61, w62, w63, w64, w65, w66, w67, w68, w69, w70, w71, w72, w73, w74, w75, w76, w77, w78, w79, w80, w81, w82, w83, w84, w85, w86, w87, hi_hit, hi_row, hi_col, hj_hit, hj_row, hj_col, hi_sj, hj_si, hq_si, hq_sj, hi_sq, hj_sq, hi_srh, hi_srm]
  · rw [hi_col _ _ (by decide), hi_hit]
theorem c_tape {h : Hp} {B : Nat → Nat} {n : Nat} (X : FX h) (by' : BY h 10 B n) (e : hi h 9 1 = nI n) (tl0 : ∀ k, hi h 0 k = ls0.getD k 0) (tl1 : ∀ k, hi h 1 k = ms0.getD k 0) : ∃ N g, GT (tT B n) N ∧ f_X2_readTape 9 h = some (some h.1.length, g) ∧ FX g ∧ hk g h.1.length = some (0, 0) ∧ (∃ t, g.1 = h.1 ++ t) ∧ (∀ a k, a < h.1.length → a ≠ 9 → a ≠ 11 → a ≠ 12 → a ≠ 13 → hi g a k = hi h a k) ∧ (∀ a k, a < h.1.length → hq g a k = hq h a k) ∧ hi g 9 1 = 0 ∧ CTn g (tT B n) (tP B n) N h.1.length (gTp (tT B n) 901 (0, 0, 0, A0)) := by
  have hb := X.len
  obtain ⟨b, eb⟩ : ∃ b, b = h.1.length := ⟨_, rfl⟩
  rw [← eb] at hb ⊢
  obtain ⟨N, g1, n1, n2, n3, a1, a2, a3, a4⟩ := c_split X by' e
  have gt : GT (tT B n) N := ⟨by have := by'.1; omega, n2, n3, fun i => tT_ok B n i⟩
  have X1 := a2.fx X
  obtain ⟨h15, e15⟩ : ∃ z, z = si (si (si (si (si (si g1 9 1 0) 9 10 0) 9 11 0) 9 12 0) 9 13 (-1)) 9 6 (-1) := ⟨_, rfl⟩
  have fr15 : Fr [] [(9, 1), (9, 10), (9, 11), (9, 12), (9, 13), (9, 6)] g1 h15 := by
    rw [e15]
    exact (((((Fr.fld (by decide)).trans (Fr.fld (by decide))).trans (Fr.fld (by decide))).trans (Fr.fld (by decide))).trans (Fr.fld (by decide))).trans (Fr.fld (by decide))
  have X15 := fr15.fx X1
  have eb' : b = h15.1.length := by rw [fr15.1, a2.1, eb]
  obtain ⟨g2, e2, k2, i2, j2, q2, cx2, z2⟩ := x0_facts h15 eb'
  have kN : hk (nw h15 0 0) b = some (0, 0) := hk_new eb'
  have E1 : f_X0_init b (nw h15 0 0) = some g2 := by rw [e2]; exact e_X0_init kN (by rw [ln1]; omega)
  have X2 : FX g2 := by
    have f : CFm h15 g2 := ⟨⟨_, k2⟩, fun a k ha _ _ => i2 a k (by omega), fun a k ha => q2 a k (by omega)⟩
    exact f.fx X15
  have v9 : ∀ k, hi g2 9 k = hi h15 9 k := fun k => i2 9 k (by omega)
  have tb2 : TB g2 (tT B n) (tP B n) N := by
    refine ⟨by rw [v9, fr15.ef (by decide) (by decide)]; exact a3, fun i hi' => ?_⟩
    rw [i2 11 i (by omega), i2 12 i (by omega), fr15.ei _ (by decide) (by decide), fr15.ei _ (by decide) (by decide)]
    exact a4 i hi'
  obtain ⟨g3, b1', b2', b3'⟩ := c_next0 gt X2 tb2 (by rw [v9, e15]; simp (disch := (first | assumption | omega | decide)) only [hi_hit, hi_row, hi_col, hj_hit, hj_row, hj_col, hi_sj, hj_si, hq_si, hq_sj, hi_sq, hj_sq, hi_srh, hi_srm, hj_sr, hq_sr, hq_hit, hq_row, hq_col]) (by rw [v9, e15]; simp (disch := (first | assumption | omega | decide)) only [hi_hit, hi_row, hi_col, hj_hit, hj_row, hj_col, hi_sj, hj_si, hq_si, hq_sj, hi_sq, hj_sq, hi_srh, hi_srm, hj_sr, hq_sr, hq_hit, hq_row, hq_col]) (by rw [v9, e15]; simp (disch := (first | assumption | omega | decide)) only [hi_hit, hi_row, hi_col, hj_hit, hj_row, hj_col, hi_sj, hj_si, hq_si, hq_sj, hi_sq, hj_sq, hi_srh, hi_srm, hj_sr, hq_sr, hq_hit, hq_row, hq_col]) (by rw [v9, e15]; simp (disch := (first | assumption | omega | decide)) only [hi_hit, hi_row, hi_col, hj_hit, hj_row, hj_col, hi_sj, hj_si, hq_si, hq_sj, hi_sq, hj_sq, hi_srh, hi_srm, hj_sr, hq_sr, hq_hit, hq_row, hq_col])
  have kk3 : g3.1 = g2.1 := b2'.1
  have l2 : g2.1.length = b + 4 := by rw [k2, List.length_append, ← eb']; rfl
  obtain ⟨g, c1, c2, c3⟩ := c_L48 gt (b := b) (by omega) 901 fu 12 0 (0, 0, 0, A0) g3 (by unfold fu; omega) (by have := gt.1; show N < 0 + 901; omega) (Nat.le_refl _) (by show 12 ≤ 12 + _; omega) (by rw [kk3, l2]; omega) ⟨Nat.zero_le _, Nat.zero_le _, by decide, A0_ok, by decide⟩ b3' (cx2.kb (b2'.kb (by omega) (by decide) (by decide))) (by rw [b2'.ef (by simp) (by simp <;> omega), z2]; rfl) (by rw [b2'.ef (by decide) (by decide), v9, e15]; simp (disch := (first | assumption | omega | decide)) only [hi_hit, hi_row, hi_col, hj_hit, hj_row, hj_col, hi_sj, hj_si, hq_si, hq_sj, hi_sq, hj_sq, hi_srh, hi_srm, hj_sr, hq_sr, hq_hit, hq_row, hq_col]; rfl) (fun k => by rw [b2'.ei _ (by decide) (by decide), i2 0 k (by omega), fr15.ei _ (by decide) (by decide), a2.ei _ (by decide) (by decide)]; exact tl0 k) (fun k => by rw [b2'.ei _ (by decide) (by decide), i2 1 k (by omega), fr15.ei _ (by decide) (by decide), a2.ei _ (by decide) (by decide)]; exact tl1 k)
  have c1' : f_X2_readTape_L48 fu 12 9 (some b) 0 g3 = some g := c1
  have c2' := c2
  obtain ⟨gr, ci, cq⟩ := c2
  refine ⟨N, g, gt, ?_, c2'.fx b3'.1 (by omega), gr_hk gr (by rw [hk, kk3]; exact cx2.1), ?_, fun a k ha h9 h11 h12 h13 => ?_, fun a k ha => ?_, ?_, c3⟩
  · unfold f_X2_readTape
    have y1 : FX (si g1 9 1 0) := FX_of X1 rfl (fun _ _ => rfl)
    have y2 : FX (si (si g1 9 1 0) 9 10 0) := FX_of X1 rfl (fun _ _ => rfl)
    have y3 : FX (si (si (si g1 9 1 0) 9 10 0) 9 11 0) := FX_of X1 rfl (fun _ _ => rfl)
    have y4 : FX (si (si (si (si g1 9 1 0) 9 10 0) 9 11 0) 9 12 0) := FX_of X1 rfl (fun _ _ => rfl)
    have y5 : FX (si (si (si (si (si g1 9 1 0) 9 10 0) 9 11 0) 9 12 0) 9 13 (-1)) := FX_of X1 rfl (fun _ _ => rfl)
    rw [rc9 X, bd_some, a1, bd_some, pi9 X1, bd_some, pi9 y1, bd_some, pi9 y2, bd_some, pi9 y3, bd_some, pi9 y4, bd_some, pi9 y5, bd_some, ← e15, ← eb', rc_eq kN, bd_some, E1, bd_some, rc9 X2, bd_some, b1', bd_some, c1', bd_some]
  · obtain ⟨t, et⟩ := gr
    exact ⟨[(0, 0), (15, 10), (10, 0), (10, 7)] ++ t, by rw [et, kk3, k2, fr15.1, a2.1, List.append_assoc]⟩
  · rw [ci a k ha h13 (by unfold BQx; simp; omega), b2'.ef (by simp) (by simp <;> omega), i2 a k ha, fr15.ef (by simp) (by simp; omega), a2.ef (by simp; omega) (by simp; omega)]
  · rw [cq a k ha, b2'.2.1, q2 a k ha, fr15.2.1, a2.2.1]
  · rw [ci 9 1 (by omega) (by decide) (by decide), b2'.ef (by decide) (by decide), v9, e15]
    simp (disch := (first | assumption | omega | decide)) only [hi_hit, hi_row, hi_col, hj_hit, hj_row, hj_col, hi_sj, hj_si, hq_si, hq_sj, hi_sq, hj_sq, hi_srh, hi_srm, hj_sr, hq_sr, hq_hit, hq_row, hq_col]
/-- act, of the class -/
theorem c_act {h : Hp} {B : Nat → Nat} {n s : Nat} (X : FX h) (by' : BY h 10 B n) (e : hi h 9 1 = nI n) (tl0 : ∀ k, hi h 0 k = ls0.getD k 0) (tl1 : ∀ k, hi h 1 k = ms0.getD k 0) (hs : s < 4) : ∃ N g, GT (tT B n) N ∧ (∃ t, g.1 = h.1 ++ t) ∧ FX g ∧ (∀ a k, a < h.1.length → a ≠ 9 → a ≠ 11 → a ≠ 12 → a ≠ 13 → hi g a k = hi h a k) ∧ (∀ a k, a < h.1.length → (a, k) ≠ (14, s) → hq g a k = hq h a k) ∧ hi g 9 1 = 0 ∧ Sum.elim (fun e => f_X8_act 8 (nI s) h = some (-1, g) ∧ DD g (tT B n) (tP B n) e ∧ hq g 14 s = hq h 14 s) (fun s' => f_X8_act 8 (nI s) h = some (s'.2.2.2.2.1, g) ∧ LOK N s' ∧ hi g 9 12 = 0 ∧ hi g 9 13 = -1 ∧ hq g 14 s = some h.1.length ∧ CX g h.1.length s'.2.2.2 ∧ hi g h.1.length 5 = s'.2.2.2.2.1) (gTp (tT B n) 901 (0, 0, 0, A0)) := by
  have hb := X.len
  obtain ⟨N, g, gt, a1, Xg, kb, gr, ii, qq, z1, ct⟩ := c_tape X by' e tl0 tl1
  obtain ⟨b, eb⟩ : ∃ b, b = h.1.length := ⟨_, rfl⟩
  rw [← eb] at a1 kb hb ct ⊢
  have p0 : ¬ nI s < (0 : Int32) := nI_pos (by omega)
  have p1 : nI s < nI 4 := by rw [nI_ltI (by omega) (by omega)]; exact hs
  cases hr : gTp (tT B n) 901 (0, 0, 0, A0) with
  | inl e' =>
    rw [hr] at ct
    refine ⟨N, g, gt, gr, Xg, fun a k ha => ii a k (by omega), fun a k ha _ => qq a k (by omega), z1, ?_, ct, qq 14 s (by omega)⟩
    unfold f_X8_act
    rw [if_neg p0, q8_1 X, bd_some, n14 X, bd_some, if_pos p1, q8_0 X, bd_some, rc9 X, bd_some, a1, b1_some, q8_0 Xg, bd_some, gi9 Xg, bd_some, ct.2.1, if_neg (fk_ne ct.2.2.2.2)]
  | inr s' =>
    rw [hr] at ct
    obtain ⟨t1, t2, t3, t4⟩ := ct
    have k14' : hk g 14 = some (13, 4) := Xg.kd (a := 14) (by decide) (by decide) rfl
    have Xg' : FX (sq g 14 s (some b)) := FX_of Xg rfl (fun p hp => by
      have : ∀ p ∈ rfT, p.1 ≠ 14 := by decide
      exact hq_row _ _ _ (this p hp))
    refine ⟨N, sq g 14 s (some b), gt, gr, Xg', fun a k ha h1 h2 h3 h4 => ii a k (by omega) h1 h2 h3 h4, fun a k ha hne => ?_, z1, ?_, t4, t1.2.2.1, t1.2.2.2.2.2.1.2, hq_hit _ _ _, ?_, t3⟩
    · rw [hq_put, if_neg (fun z => hne (by rw [z.1, z.2]))]
      exact qq a k (by omega)
    · unfold f_X8_act
      have kb' : hk (sq g 14 s (some b)) b = some (0, 0) := kb
      rw [if_neg p0, q8_1 X, bd_some, n14 X, bd_some, if_pos p1, q8_0 X, bd_some, rc9 X, bd_some, a1, b1_some, q8_0 Xg, bd_some, gi9 Xg, bd_some, t1.2.2.1, if_pos rfl, q8_1 Xg, bd_some, wrQ_eq k14' (show hk g b = some (cik 13, 0) from kb) hs (by decide), bd_some, getI_of 5 kb', bd_some]
      show some (hi g b 5, _) = _
      rw [t3]
    · obtain ⟨k0, k1, k3, r0, r4, c1, c2, c3, c4⟩ := t2
      have ne : b ≠ 14 := by omega
      refine ⟨k0, k1, k3, (hq_row _ _ _ (by omega)).trans r0, (hq_row _ _ _ (by omega)).trans r4, c1, c2, fun l' hl' => ?_, ?_⟩
      · obtain ⟨q1, cb, (p1 : b + 3 < q1), p2, p3, p4, p5, p6, (p7 : b + 3 < cb), p8⟩ := c3 l' hl'
        exact ⟨q1, cb, p1, (hq_row _ _ _ (by omega)).trans p2, p3, p4, p5, (hq_row _ _ _ (by omega)).trans p6, p7, p8.1, p8.2⟩
      · cases hA : s'.2.2.2.2.2.2 with
        | none =>
          rw [hA] at c4
          exact c4
        | some C =>
          rw [hA] at c4
          obtain ⟨q1, eb', q2, (q3 : b + 3 < eb'), q4⟩ := c4
          exact ⟨q1, eb', (hq_row _ _ _ (by omega)).trans q2, q3, q4.1, q4.2⟩
end Ca
