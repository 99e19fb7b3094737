/-! What the class finds of a worker's banks is what the document calls quarrel and spans; a worker's weeks laid out. -/
theorem mnI_i (x y : Int32) : (mnI x y).toInt = min x.toInt y.toInt := by
  unfold mnI
  split
  · rename_i q; have := Int32.lt_iff_toInt_lt.mp q; omega
  · rename_i q; have : ¬ y.toInt < x.toInt := fun z => q (Int32.lt_iff_toInt_lt.mpr z); omega
theorem mxI_i (x y : Int32) : (mxI x y).toInt = max x.toInt y.toInt := by
  unfold mxI
  split
  · rename_i q; have := Int32.lt_iff_toInt_lt.mp q; omega
  · rename_i q; have : ¬ x.toInt < y.toInt := fun z => q (Int32.lt_iff_toInt_lt.mpr z); omega
theorem QUp_congr {p q : Nat → Prop} (e : ∀ s, p s ↔ q s) {bc : Nat} {x : Int32} (h : QUp p bc x) : QUp q bc x := by
  have : p = q := funext fun s => propext (e s)
  rw [← this]
  exact h
theorem ppS_mono {T : Nat → Int} (hT : ∀ u, u < 104 → 0 ≤ T u ∧ T u ≤ 50000) {a : Nat} : ∀ n, a + n ≤ 104 → ppS T a ≤ ppS T (a + n)
  | 0, _ => Int.le_refl _
  | n + 1, h => by
    have := ppS_mono hT (a := a) n (by omega)
    have := hT (a + n) (by omega)
    show ppS T a ≤ ppS T (a + n) + T (a + n)
    omega
section Sy
variable {h : Hp} {F : Nat → Nat → Int32} {nw nf w a : Nat} {fa : Nat → Nat}
theorem c_spread (X : FX h) (W : WX h a) (C : CFx h F nf fa) (R : RG F nw nf) (hnf : nf ≤ 250) (hw : w < nw) (h1 : hq h a 2 = (nx F (nI w) nf 0).map fa) (k : Int32)
    (hpd : ∀ i u, i < 6 → u < 104 → hi h (a + 1) (i * 104 + u) = PD F (nI w) k nf i u) (hls : ∀ u, u < 104 → hi h (a + 2) u = if LSn F (nI w) k nf u = true then 1 else 0) :
    ∃ g, f_X6_spread 17 (some a) k h = some (QRL F (nI w) k nf, g) ∧ Fr [18, 19, 20, 21, 22, 23, 24, 25, 26, a + 3, a + 4] [(17, 3), (17, 7), (17, 8)] h g ∧
      ∀ u, u < 104 → if LSn F (nI w) k nf u = true then hi g (a + 3) u = LOW F (nI w) k nf u ∧ hi g (a + 4) u = HIG F (nI w) k nf u else hi g (a + 3) u = hi h (a + 3) u ∧ hi g (a + 4) u = hi h (a + 4) u := by
  have ha := W.1
  have hbc := bkc_le R hw k
  have hct := PSn_ct F (nI w) k nf
  have hps : ct' (PSn F (nI w) k nf) 105 ≤ 20 := by omega
  have hT3 : ∀ u, u < 104 → (PD F (nI w) k nf 0 u + PD F (nI w) k nf 1 u + PD F (nI w) k nf 2 u + PD F (nI w) k nf 3 u + PD F (nI w) k nf 4 u).toInt = totI F (nI w) k nf u := fun u _ => (totI_bd R (nI w) k u).2.2
  have hTb : ∀ u, u < 104 → 0 ≤ totI F (nI w) k nf u ∧ totI F (nI w) k nf u ≤ 50000 := fun u _ => ⟨(totI_bd R (nI w) k u).1, (totI_bd R (nI w) k u).2.1⟩
  have hT0 : ∀ u, u < 104 → LSn F (nI w) k nf u = true → totI F (nI w) k nf u = 0 := fun u _ q => by
    unfold totI PD
    simp only [if_pos q]
    rfl
  obtain ⟨g1, a1, a2, a3, a4, a5⟩ := c_gather X W C R hnf hw h1 k
  have X1 := a2.fx X
  have W1 := W.fr a2
  obtain ⟨g2, x2, b1', b2', -, b4', b5', b6', b7', b8', b9', -, -, b12⟩ := c_setPosts (ps := PSn F (nI w) k nf) (ls := LSn F (nI w) k nf) (T := totI F (nI w) k nf) X1 W1
    (fun i u hi' hu => by rw [a2.2.2.1 (a + 1) _ (by simp; omega) (by simp; omega)]; exact hpd i u hi' hu)
    (fun u hu => by rw [a2.2.2.1 (a + 2) _ (by simp; omega) (by simp; omega)]; exact hls u hu) hT3 hTb hps a5
  have X2 := b2'.fx X1
  have W2 := W1.fr b2'
  have bk : ∀ b, b < bkc F (nI w) k nf → bkA F (nI w) k nf b < bkE F (nI w) k nf b ∧ bkE F (nI w) k nf b < 105 ∧ PSn F (nI w) k nf (bkA F (nI w) k nf b) = true ∧ PSn F (nI w) k nf (bkE F (nI w) k nf b) = true ∧ 0 ≤ bkT F (nI w) k nf b ∧ bkT F (nI w) k nf b ≤ 999999 := by
    intro b hb
    obtain ⟨f, s, e, t, h1, h2, h3, h4, h5, h6, h7, h8, h9, h10, h11, h12, h13⟩ := bk_at R hw k hb
    have hm : f ∈ BKn F (nI w) k nf := List.mem_of_getElem? h6
    refine ⟨by omega, by omega, PSn_bk hm _ (Or.inl (by rw [h11]; exact h8)), PSn_bk hm _ (Or.inr (by rw [h12, h9, nI_1])), by omega, by omega⟩
  have h21 : ∀ u, u < 105 → hi g2 21 u = if PSn F (nI w) k nf u = true then nI (ct' (PSn F (nI w) k nf) u) else -1 := fun u hu => by rw [b5' u hu, if_pos hu]
  obtain ⟨g3, c1', c2', c3'⟩ := c_spread13 (ps := PSn F (nI w) k nf) (T := totI F (nI w) k nf) (bc := bkc F (nI w) k nf) (bA := bkA F (nI w) k nf) (bE := bkE F (nI w) k nf) (bT := bkT F (nI w) k nf) X2 (some a) hbc
    (by rw [b2'.ef (by decide) (by decide)]; exact a3)
    (fun b hb => by
      rw [b2'.ei b (by decide) (by decide), b2'.ei b (by decide) (by decide), b2'.ei b (by decide) (by decide)]
      obtain ⟨p1, p2, p3⟩ := a4 b hb
      exact ⟨p1, p2, p3, bk b hb⟩) hps h21 b6' hTb
  have X3 := c2'.fx X2
  have W3 := W2.fr c2'
  have o23 : rmh g3 = rmh g2 := funext fun i => by unfold rmh; rw [c2'.ei i (by decide) (by decide)]
  have o17 : ∀ j, hi g3 17 j = hi g2 17 j := fun j => c2'.ei j (by decide) (by decide)
  obtain ⟨ps, eps⟩ : ∃ ps, ps = PSn F (nI w) k nf := ⟨_, rfl⟩
  rw [← eps] at bk h21 hps b4' b5' b6' b12 c3'
  have hrm : ∀ u u', u < u' → u' < 105 → ps u = true → ps u' = true → ct' ps u' = ct' ps u + 1 → rmh g3 (ct' ps u) = cpC (LSn F (nI w) k nf) u' - cpC (LSn F (nI w) k nf) u := by rw [o23]; exact b12
  have D : DXC g3 (ct' ps 105) (rmh g3) (bkc F (nI w) k nf) (fun b => ct' ps (bkA F (nI w) k nf b)) (fun b => ct' ps (bkE F (nI w) k nf b)) (fun b => bkT F (nI w) k nf b - (ppS (totI F (nI w) k nf) (bkE F (nI w) k nf b) - ppS (totI F (nI w) k nf) (bkA F (nI w) k nf b))) (hi g3 17 7).toInt := by
    refine ⟨X3, hps, (o17 8).trans b4', rfl, by rw [o17]; exact b7'.1, by rw [o17]; omega, hbc, by rw [o17, b2'.ef (by decide) (by decide)]; exact a3, fun i hi' => ⟨rfl, ?_⟩, fun b hb => ?_, fun n hn => by rw [o23, o17]; exact b8' n hn⟩
    · have := b9' i hi'
      rw [o23]
      omega
    · obtain ⟨p1, p2, p3⟩ := c3' b hb
      obtain ⟨r1, r2, r3, r4, r5, r6⟩ := bk b hb
      have z1 := ct'_hit r3 r1
      have z2 := ct'_hit r4 r2
      have y1 := ppS_bd hTb (bkA F (nI w) k nf b) (by omega)
      have y2 := ppS_bd hTb (bkE F (nI w) k nf b) (by omega)
      have y3 := ppS_mono hTb (a := bkA F (nI w) k nf b) (bkE F (nI w) k nf b - bkA F (nI w) k nf b) (by omega)
      rw [show bkA F (nI w) k nf b + (bkE F (nI w) k nf b - bkA F (nI w) k nf b) = bkE F (nI w) k nf b by omega] at y3
      simp only
      exact ⟨p1, p2, p3, by omega, by omega, by omega, by omega⟩
  have pse : ∀ i, i < ct' ps 105 → psv ps 105 i < 105 ∧ ps (psv ps 105 i) = true ∧ ct' ps (psv ps 105 i) = i := fun i hi' => by
    obtain ⟨u, p1, p2, p3, p4⟩ := psv_ex hi'
    rw [p4]
    exact ⟨p1, p2, p3⟩
  have pmono : ∀ i j, i < j → j < ct' ps 105 → psv ps 105 i < psv ps 105 j := fun i j hij hj => by
    obtain ⟨p1, p2, p3⟩ := pse i (by omega)
    obtain ⟨q1, q2, q3⟩ := pse j hj
    refine Nat.not_le.mp fun z => ?_
    have := ct'_up ps z
    omega
  have PS : PST (LSn F (nI w) k nf) (bkA F (nI w) k nf) (bkE F (nI w) k nf) (bkc F (nI w) k nf) (ct' ps 105) (psv ps 105) (rmh g3) (fun b => ct' ps (bkA F (nI w) k nf b)) (fun b => ct' ps (bkE F (nI w) k nf b)) := by
    refine ⟨pmono, fun i hi' => by have := (pse i hi').1; omega, fun i hi' => ?_, fun b hb => ?_⟩
    · obtain ⟨p1, p2, p3⟩ := pse i (by omega)
      obtain ⟨q1, q2, q3⟩ := pse (i + 1) hi'
      have := hrm _ _ (pmono i (i + 1) (by omega) hi') q1 p2 q2 (by omega)
      rw [p3] at this
      exact this
    · obtain ⟨r1, r2, r3, r4, r5, r6⟩ := bk b hb
      have z1 := ct'_hit r3 (show bkA F (nI w) k nf b < 105 by omega)
      have z2 := ct'_hit r4 r2
      exact ⟨by simp only; omega, psv_at r3 (by omega), by simp only; omega, psv_at r4 r2⟩
  have hr : ∀ b, b < bkc F (nI w) k nf → (fun b => bkT F (nI w) k nf b - (ppS (totI F (nI w) k nf) (bkE F (nI w) k nf b) - ppS (totI F (nI w) k nf) (bkA F (nI w) k nf b))) b = bkT F (nI w) k nf b - (ppS (totI F (nI w) k nf) (bkE F (nI w) k nf b) - ppS (totI F (nI w) k nf) (bkA F (nI w) k nf b)) := fun _ _ => rfl
  have canP := fun s => CAN_P (out := btB s) hT0 hr PS
  obtain ⟨q, g4, d1', d2', d3'⟩ := c_leave D
  have hq' : QUp (CANk F (nI w) k nf) (bkc F (nI w) k nf) q := QUp_congr (fun s => (canP s).symm) d3'
  have eq := QRL_eq hq'
  obtain ⟨o1, o2⟩ := OUT_can R hw k ⟨_, hq'⟩
  have D4 := D.fr d2' (by decide) (by decide)
  have X4 := D4.1
  have W4 := W3.fr d2'
  obtain ⟨g5, e1', e2', e3'⟩ := c_bound D4 (s := OUTk F (nI w) k nf) (by omega) ((canP _).mp o2)
  have X5 := e2'.fx X4
  have W5 := W4.fr e2'
  have fr13 : Fr [18, 19, 20, 21, 22, 23, 24, 25, 26] [(17, 3), (17, 7), (17, 8)] h g5 := ((((a2.wk (by decide) (by decide)).trans (b2'.wk (by decide) (by decide))).trans (c2'.wk (by decide) (by decide))).trans (d2'.wk (by decide) (by decide))).trans (e2'.wk (by decide) (by decide))
  obtain ⟨g6, f1', f2', f3'⟩ := c_write (ls := LSn F (nI w) k nf) (ps := ps) X5 W5 (fun u hu => by rw [fr13.2.2.1 (a + 2) _ (by simp; omega) (by simp; omega)]; exact hls u hu) hps (by rw [e2'.ei 8 (by decide) (by decide), d2'.ei 8 (by decide) (by decide), o17]; exact b4') (fun u hu => by
    rw [e2'.ei u (by decide) (by decide), d2'.ei u (by decide) (by decide), c2'.ei u (by decide) (by decide)]; exact h21 u hu)
  have X6 := f2'.fx X5
  have fr6 : Fr [18, 19, 20, 21, 22, 23, 24, 25, 26, a + 3, a + 4] [(17, 3), (17, 7), (17, 8)] h g6 := (fr13.mono (fun x hx => by simp at hx ⊢; omega) (fun x hx => hx)).trans (f2'.mono (fun x hx => by simp at hx ⊢; omega) (fun x hx => by simp at hx))
  refine ⟨g6, ?_, fr6, fun u hu => ?_⟩
  · have hp2 := p2_le hbc
    have hb31 : bkc F (nI w) k nf < 31 := by omega
    have hp0 : 1 ≤ 2 ^ bkc F (nI w) k nf := Nat.one_le_two_pow
    have e43 : hi g4 17 3 = nI (bkc F (nI w) k nf) := D4.2.2.2.2.2.2.2.1
    have ho : (if q = -1 then some (nI (2 ^ bkc F (nI w) k nf) - 1, g4) else some (q, g4) : Option (Int32 × Hp)) = some (nI (OUTk F (nI w) k nf), g4) := by
      unfold OUTk
      rw [eq]
      rcases hq' with ⟨s, z1, z2, -⟩ | ⟨z1, -⟩
      · have n1 : ¬ nI s = -1 := fun z => by
          have := congrArg Int32.toInt z
          rw [nI_toInt (by omega), show (-1 : Int32).toInt = -1 from rfl] at this
          omega
        rw [z1, if_neg n1, if_neg (nI_pos (by omega)), nI_tn (by omega)]
      · rw [z1, if_pos rfl, if_pos (by decide), show (1 : Int32) = nI 1 from rfl, pk_sub hp0]
    unfold f_X6_spread
    simp (disch := (first | assumption | (simp only [FX_si, FX_sj, FX_sr, WX_si, WX_sj, WX_sr, FK_si, FK_sj, FK_sr]; assumption) | omega | decide)) only [a1, b1', c1', d1', e43, shl_of, ↓reduceIte, if_true, if_false, i10, i01, eq_self, wq7, wq8, wq9, wq10, wrc, wgi, wpi, wpz, wn1, wn2, wn3, wn4, wr1, wr2, wr3, wr4, ww1, ww2, ww3, ww4, fgi, fgq, fpi, frc, at18, at19, at21, at22, at23, at24, at25, at26, at_neg, wat1, wat2, wat3, wat4, reduceCtorEq, bd_some, b1_some, b2_some, b3_some, b4_some, c1_eq, elim_inl, elim_inr, zok0, zok1, getQ_si, getQ_sj, getQ_sr, q8_0, q8_1, q8_2, q8_4, q8_7, q8_8, q8_9, q8_10, q8_11, q9_0, q9_3, q9_4, q9_8, q17_0, q17_1, q17_2, q17_4, q17_5, q17_6, q17_9, q17_10, q17_11, q27_4, q27_5, q27_6, q27_7, q27_8, q27_11, q45_0, q45_1, q45_11, q45_12, q45_13, q45_14, q45_15, q45_16, q45_17, q45_18, q45_19, q45_20, q45_21, q45_22, q45_23, q45_24, q45_30, q45_31, q45_32, q45_33, q45_34, q45_35, q45_36, q45_37, q45_38, q45_39, q45_43, q45_44, q45_45, q45_46, q45_47, q45_48, q45_52, q45_53, q45_54, q45_59, q45_60, q45_61, q45_62, q45_65, q45_67, q45_68, gi8, gj8, pi8, pz8, pj8, rc8, gi9, gj9, pi9, pz9, pj9, rc9, gi17, gj17, pi17, pz17, pj17, rc17, gi27, gj27, pi27, pz27, pj27, rc27, gi45, gj45, pi45, pz45, pj45, rc45, aln_si, aln_sj, aln_sq, rc_si, rc_sj, rc_sq, n0, n1, n10, n11, n12, n13, n14, n15, n16, n18, n19, n20, n21, n22, n23, n24, n25, n26, n29, n30, n31, n32, n33, n34, n35, n36, n37, n38, n39, n40, n42, n43, n44, n46, n47, n48, n49, n50, n51, n52, n53, n54, n55, n56, n57, n58, n59, n60, n61, n62, n63, n64, n65, n66, n67, n68, n69, n70, n71, n72, n73, n74, n75, n76, n77, n78, n79, n80, n81, n82, n83, n84, n85, n86, n87, r0, r1, r10, r11, r12, r13, r14, r15, r16, r18, r19, r20, r21, r22, r23, r24, r25, r26, r29, r30, r31, r32, r33, r34, r35, r36, r37, r38, r39, r40, r42, r43, r44, r46, r47, r48, r49, r50, r51, r52, r53, r54, r55, r56, r57, r58, r59, r60, r61, r62, r63, r64, r65, r66, r67, r68, r69, r70, r71, r72, r73, r74, r75, r76, r77, r78, r79, r80, r81, r82, r83, r84, r85, r86, r87, w10, w11, w12, w13, w18, w19, w20, w21, w22, w23, w24, w25, w26, w30, w31, w32, w33, w34, w35, w36, w38, w39, w40, w43, w44, w46, w47, w48, w49, w50, w51, w52, w53, w54, w55, w56, w57, w58, w59, w60, w61, w62, w63, w64, w65, w66, w67, w68, w69, w70, w71, w72, w73, w74, w75, w76, w77, w78, w79, w80, w81, w82, w83, w84, w85, w86, w87, hi_hit, hi_row, hi_col, hj_hit, hj_row, hj_col, hi_sj, hj_si, hq_si, hq_sj, hi_sq, hj_sq, hi_srh, hi_srm]
    rw [ho, b1_some]
    simp (disch := (first | assumption | (simp only [FX_si, FX_sj, FX_sr, WX_si, WX_sj, WX_sr, FK_si, FK_sj, FK_sr]; assumption) | omega | decide)) only [e1', f1', eq, ↓reduceIte, if_true, if_false, i10, i01, eq_self, wq7, wq8, wq9, wq10, wrc, wgi, wpi, wpz, wn1, wn2, wn3, wn4, wr1, wr2, wr3, wr4, ww1, ww2, ww3, ww4, fgi, fgq, fpi, frc, at18, at19, at21, at22, at23, at24, at25, at26, at_neg, wat1, wat2, wat3, wat4, reduceCtorEq, bd_some, b1_some, b2_some, b3_some, b4_some, c1_eq, elim_inl, elim_inr, zok0, zok1, getQ_si, getQ_sj, getQ_sr, q8_0, q8_1, q8_2, q8_4, q8_7, q8_8, q8_9, q8_10, q8_11, q9_0, q9_3, q9_4, q9_8, q17_0, q17_1, q17_2, q17_4, q17_5, q17_6, q17_9, q17_10, q17_11, q27_4, q27_5, q27_6, q27_7, q27_8, q27_11, q45_0, q45_1, q45_11, q45_12, q45_13, q45_14, q45_15, q45_16, q45_17, q45_18, q45_19, q45_20, q45_21, q45_22, q45_23, q45_24, q45_30, q45_31, q45_32, q45_33, q45_34, q45_35, q45_36, q45_37, q45_38, q45_39, q45_43, q45_44, q45_45, q45_46, q45_47, q45_48, q45_52, q45_53, q45_54, q45_59, q45_60, q45_61, q45_62, q45_65, q45_67, q45_68, gi8, gj8, pi8, pz8, pj8, rc8, gi9, gj9, pi9, pz9, pj9, rc9, gi17, gj17, pi17, pz17, pj17, rc17, gi27, gj27, pi27, pz27, pj27, rc27, gi45, gj45, pi45, pz45, pj45, rc45, aln_si, aln_sj, aln_sq, rc_si, rc_sj, rc_sq, n0, n1, n10, n11, n12, n13, n14, n15, n16, n18, n19, n20, n21, n22, n23, n24, n25, n26, n29, n30, n31, n32, n33, n34, n35, n36, n37, n38, n39, n40, n42, n43, n44, n46, n47, n48, n49, n50, n51, n52, n53, n54, n55, n56, n57, n58, n59, n60, n61, n62, n63, n64, n65, n66, n67, n68, n69, n70, n71, n72, n73, n74, n75, n76, n77, n78, n79, n80, n81, n82, n83, n84, n85, n86, n87, r0, r1, r10, r11, r12, r13, r14, r15, r16, r18, r19, r20, r21, r22, r23, r24, r25, r26, r29, r30, r31, r32, r33, r34, r35, r36, r37, r38, r39, r40, r42, r43, r44, r46, r47, r48, r49, r50, r51, r52, r53, r54, r55, r56, r57, r58, r59, r60, r61, r62, r63, r64, r65, r66, r67, r68, r69, r70, r71, r72, r73, r74, r75, r76, r77, r78, r79, r80, r81, r82, r83, r84, r85, r86, r87, w10, w11, w12, w13, w18, w19, w20, w21, w22, w23, w24, w25, w26, w30, w31, w32, w33, w34, w35, w36, w38, w39, w40, w43, w44, w46, w47, w48, w49, w50, w51, w52, w53, w54, w55, w56, w57, w58, w59, w60, w61, w62, w63, w64, w65, w66, w67, w68, w69, w70, w71, w72, w73, w74, w75, w76, w77, w78, w79, w80, w81, w82, w83, w84, w85, w86, w87, hi_hit, hi_row, hi_col, hj_hit, hj_row, hj_col, hi_sj, hj_si, hq_si, hq_sj, hi_sq, hj_sq, hi_srh, hi_srm]
  · have f3 := f3' u hu
    have P1 := fun p (hp : p + 1 < ct' ps 105) => e3' p hp
    by_cases hl : LSn F (nI w) k nf u = true
    · rw [if_pos hl] at f3 ⊢
      rw [f3.1, f3.2]
      obtain ⟨n, en⟩ : ∃ n, n = ct' ps (u + 1) := ⟨_, rfl⟩
      have hn : n ≤ ct' ps 105 := by rw [en]; exact ct'_up ps (by omega)
      rw [← en]
      unfold lowf higf
      by_cases c : 0 < n ∧ n < ct' ps 105
      · obtain ⟨i, rfl⟩ : ∃ i, n = i + 1 := ⟨n - 1, by omega⟩
        rw [if_pos c, if_pos c, Nat.add_sub_cancel]
        obtain ⟨p1, p2, p3⟩ := pse i (by omega)
        obtain ⟨q1, q2, q3⟩ := pse (i + 1) c.2
        have u1 : psv ps 105 i ≤ u := Nat.not_lt.mp fun z => by
          have := ct'_up ps (show u + 1 ≤ psv ps 105 i from z)
          omega
        have u2 : u < psv ps 105 (i + 1) := Nat.not_le.mp fun z => by
          have := ct'_hit q2 (show psv ps 105 (i + 1) < u + 1 by omega)
          omega
        obtain ⟨M1, M2⟩ := P1 i c.2
        have G1 := MX_gap hT0 hr PS c.2 u1 u2 hl M1
        have G2 := MX_gap2 hT0 hr PS c.2 u1 u2 hl M2
        have r5 : (hi g5 23 i).toInt = rmh g3 i := by
          unfold rmh
          rw [e2'.ei i (by decide) (by decide), d2'.ei i (by decide) (by decide)]
        have rb := (D.2.2.2.2.2.2.2.2.1 i (by omega)).2
        have lb : 0 ≤ (hi g5 25 i).toInt ∧ (hi g5 25 i).toInt ≤ rmh g3 i := by
          obtain ⟨⟨y, hy, hz⟩, -⟩ := M2
          have := hy.1 i c.2
          omega
        have el : (hi g5 25 i - (hi g5 23 i - 9999)).toInt = (hi g5 25 i).toInt - (rmh g3 i - 9999) := by
          have e9 : (9999 : Int32).toInt = 9999 := rfl
          have es : (hi g5 23 i - 9999).toInt = rmh g3 i - 9999 := by rw [i_sub (by omega) (by omega), r5, e9]
          rw [i_sub (by omega) (by omega), es]
        constructor
        · refine (LOW_eq ?_ hl).symm
          rw [mxI_i, el]
          exact G2
        · refine (HIG_eq ?_ hl).symm
          rw [mnI_i]
          exact G1
      · rw [if_neg c, if_neg c]
        have ho : ct' ps 105 = 0 ∨ u < psv ps 105 0 ∨ psv ps 105 (ct' ps 105 - 1) ≤ u := by
          rcases Nat.eq_zero_or_pos (ct' ps 105) with z | z
          · exact Or.inl z
          · rcases Nat.eq_zero_or_pos n with y | y
            · refine Or.inr (Or.inl (Nat.not_le.mp fun zz => ?_))
              obtain ⟨p1, p2, p3⟩ := pse 0 z
              have := ct'_hit p2 (show psv ps 105 0 < u + 1 by omega)
              omega
            · refine Or.inr (Or.inr (Nat.not_lt.mp fun zz => ?_))
              obtain ⟨p1, p2, p3⟩ := pse (ct' ps 105 - 1) (by omega)
              have := ct'_up ps (show u + 1 ≤ psv ps 105 (ct' ps 105 - 1) from zz)
              omega
        obtain ⟨M1, M2⟩ := MX_out hT0 hr PS hu ho hl ((canP (OUTk F (nI w) k nf)).mp o2)
        exact ⟨(LOW_eq (z := 0) M2 hl).symm, (HIG_eq (z := 9999) M1 hl).symm⟩
    · rw [if_neg hl] at f3 ⊢
      rw [f3.1, f3.2, fr13.2.2.1 (a + 3) _ (by simp; omega) (by simp; omega), fr13.2.2.1 (a + 4) _ (by simp; omega) (by simp; omega)]
      exact ⟨rfl, rfl⟩
/-- the worker's rows say what is known at k -/
def CW (g : Hp) (a : Nat) (F : Nat → Nat → Int32) (wk k : Int32) (nf : Nat) : Prop :=
  (∀ i u, i < 6 → u < 104 → hi g (a + 1) (i * 104 + u) = PD F wk k nf i u) ∧ (∀ u, u < 104 → hi g (a + 2) u = if LSn F wk k nf u = true then 1 else 0) ∧
  (∀ u, u < 104 → hi g (a + 3) u = LOW F wk k nf u ∧ hi g (a + 4) u = HIG F wk k nf u) ∧ hi g a 11 = QRL F wk k nf
theorem CFx.frW (C : CFx h F nf fa) (W : WX h a) {A : List Nat} {B : List (Nat × Nat)} {h' : Hp} (fr : Fr A B h h') (hA : ∀ x ∈ A, x < 88 ∨ x = a + 1 ∨ x = a + 2 ∨ x = a + 3 ∨ x = a + 4) (hB : ∀ x ∈ B, x.1 < 88 ∨ x.1 = a) : CFx h' F nf fa := by
  have key : ∀ f, f < nf → 88 ≤ fa f ∧ fa f ≠ a ∧ fa f ≠ a + 1 ∧ fa f ≠ a + 2 ∧ fa f ≠ a + 3 ∧ fa f ≠ a + 4 := fun f hf =>
    ⟨(C f hf).1, C.ne hf W.2.1 (by decide), C.ne hf W.2.2.1 (by decide), C.ne hf W.2.2.2.1 (by decide), C.ne hf W.2.2.2.2.1 (by decide), C.ne hf W.2.2.2.2.2.1 (by decide)⟩
  refine C.fr fr (fun f hf q => ?_) (fun f j hf _ q => ?_)
  · have := key f hf
    have := hA _ q
    omega
  · have := key f hf
    have := hB _ q
    simp only at this
    omega
theorem c_note {g : Hp} {f : Nat} (W : WX g a) (hf : f < nf) (C : CFx g F nf fa) (R : RG F nw nf) :
    (F 0 f = 0 → ∃ i u, i < 6 ∧ u < 104 ∧ F 3 f = nI i ∧ F 2 f = nI u ∧ f_X7_note a (some (fa f)) g = some (si g (a + 1) (i * 104 + u) (F 4 f))) ∧
    (F 0 f = 1 → ∃ u, u < 104 ∧ F 2 f = nI u ∧ f_X7_note a (some (fa f)) g = some (si g (a + 2) u 1)) ∧
    (¬ F 0 f = 0 → ¬ F 0 f = 1 → f_X7_note a (some (fa f)) g = some g) := by
  have ha := W.1
  obtain ⟨c0, c1, c2, c3, c4, c5, c6, c7, c8, c9, c10⟩ := C f hf
  have K : FK g (fa f) := c1
  refine ⟨fun s => ?_, fun s => ?_, fun s1 s2 => ?_⟩
  · obtain ⟨⟨u, hu, r1⟩, ⟨i, hi', r2⟩, -⟩ := (R.1 f hf).2.1 s
    refine ⟨i, u, hi', hu, r2, r1, ?_⟩
    rw [r2] at c5
    rw [r1] at c4
    rw [s] at c3
    have ei : nI i * 104 + nI u = nI (i * 104 + u) := by rw [show (104 : Int32) = nI 104 from rfl, pk_mul, nI_add]
    have n1 : ¬ nI (i * 104 + u) < 0 := nI_pos (by omega)
    have n2 : ¬ nI 624 ≤ nI (i * 104 + u) := by rw [nI_leI (by omega) (by omega)]; omega
    have hx : i * 104 + u < 624 := by omega
    have hn : fa f ≠ a + 1 := C.ne hf W.2.2.1 (by decide)
    unfold f_X7_note
    simp (disch := (first | assumption | (simp only [FX_si, FX_sj, FX_sr, WX_si, WX_sj, WX_sr, FK_si, FK_sj, FK_sr]; assumption) | omega | decide)) only [c3, c4, c5, c6, ei, n1, n2, ↓reduceIte, if_true, if_false, i10, i01, eq_self, wq7, wq8, wq9, wq10, wrc, wgi, wpi, wpz, wn1, wn2, wn3, wn4, wr1, wr2, wr3, wr4, ww1, ww2, ww3, ww4, fgi, fgq, fpi, frc, at18, at19, at21, at22, at23, at24, at25, at26, at_neg, wat1, wat2, wat3, wat4, reduceCtorEq, bd_some, b1_some, b2_some, b3_some, b4_some, c1_eq, elim_inl, elim_inr, zok0, zok1, getQ_si, getQ_sj, getQ_sr, q8_0, q8_1, q8_2, q8_4, q8_7, q8_8, q8_9, q8_10, q8_11, q9_0, q9_3, q9_4, q9_8, q17_0, q17_1, q17_2, q17_4, q17_5, q17_6, q17_9, q17_10, q17_11, q27_4, q27_5, q27_6, q27_7, q27_8, q27_11, q45_0, q45_1, q45_11, q45_12, q45_13, q45_14, q45_15, q45_16, q45_17, q45_18, q45_19, q45_20, q45_21, q45_22, q45_23, q45_24, q45_30, q45_31, q45_32, q45_33, q45_34, q45_35, q45_36, q45_37, q45_38, q45_39, q45_43, q45_44, q45_45, q45_46, q45_47, q45_48, q45_52, q45_53, q45_54, q45_59, q45_60, q45_61, q45_62, q45_65, q45_67, q45_68, gi8, gj8, pi8, pz8, pj8, rc8, gi9, gj9, pi9, pz9, pj9, rc9, gi17, gj17, pi17, pz17, pj17, rc17, gi27, gj27, pi27, pz27, pj27, rc27, gi45, gj45, pi45, pz45, pj45, rc45, aln_si, aln_sj, aln_sq, rc_si, rc_sj, rc_sq, n0, n1, n10, n11, n12, n13, n14, n15, n16, n18, n19, n20, n21, n22, n23, n24, n25, n26, n29, n30, n31, n32, n33, n34, n35, n36, n37, n38, n39, n40, n42, n43, n44, n46, n47, n48, n49, n50, n51, n52, n53, n54, n55, n56, n57, n58, n59, n60, n61, n62, n63, n64, n65, n66, n67, n68, n69, n70, n71, n72, n73, n74, n75, n76, n77, n78, n79, n80, n81, n82, n83, n84, n85, n86, n87, r0, r1, r10, r11, r12, r13, r14, r15, r16, r18, r19, r20, r21, r22, r23, r24, r25, r26, r29, r30, r31, r32, r33, r34, r35, r36, r37, r38, r39, r40, r42, r43, r44, r46, r47, r48, r49, r50, r51, r52, r53, r54, r55, r56, r57, r58, r59, r60, r61, r62, r63, r64, r65, r66, r67, r68, r69, r70, r71, r72, r73, r74, r75, r76, r77, r78, r79, r80, r81, r82, r83, r84, r85, r86, r87, w10, w11, w12, w13, w18, w19, w20, w21, w22, w23, w24, w25, w26, w30, w31, w32, w33, w34, w35, w36, w38, w39, w40, w43, w44, w46, w47, w48, w49, w50, w51, w52, w53, w54, w55, w56, w57, w58, w59, w60, w61, w62, w63, w64, w65, w66, w67, w68, w69, w70, w71, w72, w73, w74, w75, w76, w77, w78, w79, w80, w81, w82, w83, w84, w85, w86, w87, hi_hit, hi_row, hi_col, hj_hit, hj_row, hj_col, hi_sj, hj_si, hq_si, hq_sj, hi_sq, hj_sq, hi_srh, hi_srm]
  · obtain ⟨u, hu, r1⟩ := (R.1 f hf).2.2.1 s
    refine ⟨u, hu, r1, ?_⟩
    rw [r1] at c4
    rw [s] at c3
    have n1 : ¬ nI u < 0 := nI_pos (by omega)
    have n2 : ¬ nI 104 ≤ nI u := by rw [nI_leI (by omega) (by omega)]; omega
    unfold f_X7_note
    simp (disch := (first | assumption | (simp only [FX_si, FX_sj, FX_sr, WX_si, WX_sj, WX_sr, FK_si, FK_sj, FK_sr]; assumption) | omega | decide)) only [c3, c4, n1, n2, ↓reduceIte, if_true, if_false, i10, i01, eq_self, wq7, wq8, wq9, wq10, wrc, wgi, wpi, wpz, wn1, wn2, wn3, wn4, wr1, wr2, wr3, wr4, ww1, ww2, ww3, ww4, fgi, fgq, fpi, frc, at18, at19, at21, at22, at23, at24, at25, at26, at_neg, wat1, wat2, wat3, wat4, reduceCtorEq, bd_some, b1_some, b2_some, b3_some, b4_some, c1_eq, elim_inl, elim_inr, zok0, zok1, getQ_si, getQ_sj, getQ_sr, q8_0, q8_1, q8_2, q8_4, q8_7, q8_8, q8_9, q8_10, q8_11, q9_0, q9_3, q9_4, q9_8, q17_0, q17_1, q17_2, q17_4, q17_5, q17_6, q17_9, q17_10, q17_11, q27_4, q27_5, q27_6, q27_7, q27_8, q27_11, q45_0, q45_1, q45_11, q45_12, q45_13, q45_14, q45_15, q45_16, q45_17, q45_18, q45_19, q45_20, q45_21, q45_22, q45_23, q45_24, q45_30, q45_31, q45_32, q45_33, q45_34, q45_35, q45_36, q45_37, q45_38, q45_39, q45_43, q45_44, q45_45, q45_46, q45_47, q45_48, q45_52, q45_53, q45_54, q45_59, q45_60, q45_61, q45_62, q45_65, q45_67, q45_68, gi8, gj8, pi8, pz8, pj8, rc8, gi9, gj9, pi9, pz9, pj9, rc9, gi17, gj17, pi17, pz17, pj17, rc17, gi27, gj27, pi27, pz27, pj27, rc27, gi45, gj45, pi45, pz45, pj45, rc45, aln_si, aln_sj, aln_sq, rc_si, rc_sj, rc_sq, n0, n1, n10, n11, n12, n13, n14, n15, n16, n18, n19, n20, n21, n22, n23, n24, n25, n26, n29, n30, n31, n32, n33, n34, n35, n36, n37, n38, n39, n40, n42, n43, n44, n46, n47, n48, n49, n50, n51, n52, n53, n54, n55, n56, n57, n58, n59, n60, n61, n62, n63, n64, n65, n66, n67, n68, n69, n70, n71, n72, n73, n74, n75, n76, n77, n78, n79, n80, n81, n82, n83, n84, n85, n86, n87, r0, r1, r10, r11, r12, r13, r14, r15, r16, r18, r19, r20, r21, r22, r23, r24, r25, r26, r29, r30, r31, r32, r33, r34, r35, r36, r37, r38, r39, r40, r42, r43, r44, r46, r47, r48, r49, r50, r51, r52, r53, r54, r55, r56, r57, r58, r59, r60, r61, r62, r63, r64, r65, r66, r67, r68, r69, r70, r71, r72, r73, r74, r75, r76, r77, r78, r79, r80, r81, r82, r83, r84, r85, r86, r87, w10, w11, w12, w13, w18, w19, w20, w21, w22, w23, w24, w25, w26, w30, w31, w32, w33, w34, w35, w36, w38, w39, w40, w43, w44, w46, w47, w48, w49, w50, w51, w52, w53, w54, w55, w56, w57, w58, w59, w60, w61, w62, w63, w64, w65, w66, w67, w68, w69, w70, w71, w72, w73, w74, w75, w76, w77, w78, w79, w80, w81, w82, w83, w84, w85, w86, w87, hi_hit, hi_row, hi_col, hj_hit, hj_row, hj_col, hi_sj, hj_si, hq_si, hq_sj, hi_sq, hj_sq, hi_srh, hi_srm]
  · have s1' : ¬ hi g (fa f) 1 = 0 := by rw [c3]; exact s1
    have s2' : ¬ hi g (fa f) 1 = 1 := by rw [c3]; exact s2
    unfold f_X7_note
    simp (disch := (first | assumption | (simp only [FX_si, FX_sj, FX_sr, WX_si, WX_sj, WX_sr, FK_si, FK_sj, FK_sr]; assumption) | omega | decide)) only [s1', s2', ↓reduceIte, if_true, if_false, i10, i01, eq_self, wq7, wq8, wq9, wq10, wrc, wgi, wpi, wpz, wn1, wn2, wn3, wn4, wr1, wr2, wr3, wr4, ww1, ww2, ww3, ww4, fgi, fgq, fpi, frc, at18, at19, at21, at22, at23, at24, at25, at26, at_neg, wat1, wat2, wat3, wat4, reduceCtorEq, bd_some, b1_some, b2_some, b3_some, b4_some, c1_eq, elim_inl, elim_inr, zok0, zok1, getQ_si, getQ_sj, getQ_sr, q8_0, q8_1, q8_2, q8_4, q8_7, q8_8, q8_9, q8_10, q8_11, q9_0, q9_3, q9_4, q9_8, q17_0, q17_1, q17_2, q17_4, q17_5, q17_6, q17_9, q17_10, q17_11, q27_4, q27_5, q27_6, q27_7, q27_8, q27_11, q45_0, q45_1, q45_11, q45_12, q45_13, q45_14, q45_15, q45_16, q45_17, q45_18, q45_19, q45_20, q45_21, q45_22, q45_23, q45_24, q45_30, q45_31, q45_32, q45_33, q45_34, q45_35, q45_36, q45_37, q45_38, q45_39, q45_43, q45_44, q45_45, q45_46, q45_47, q45_48, q45_52, q45_53, q45_54, q45_59, q45_60, q45_61, q45_62, q45_65, q45_67, q45_68, gi8, gj8, pi8, pz8, pj8, rc8, gi9, gj9, pi9, pz9, pj9, rc9, gi17, gj17, pi17, pz17, pj17, rc17, gi27, gj27, pi27, pz27, pj27, rc27, gi45, gj45, pi45, pz45, pj45, rc45, aln_si, aln_sj, aln_sq, rc_si, rc_sj, rc_sq, n0, n1, n10, n11, n12, n13, n14, n15, n16, n18, n19, n20, n21, n22, n23, n24, n25, n26, n29, n30, n31, n32, n33, n34, n35, n36, n37, n38, n39, n40, n42, n43, n44, n46, n47, n48, n49, n50, n51, n52, n53, n54, n55, n56, n57, n58, n59, n60, n61, n62, n63, n64, n65, n66, n67, n68, n69, n70, n71, n72, n73, n74, n75, n76, n77, n78, n79, n80, n81, n82, n83, n84, n85, n86, n87, r0, r1, r10, r11, r12, r13, r14, r15, r16, r18, r19, r20, r21, r22, r23, r24, r25, r26, r29, r30, r31, r32, r33, r34, r35, r36, r37, r38, r39, r40, r42, r43, r44, r46, r47, r48, r49, r50, r51, r52, r53, r54, r55, r56, r57, r58, r59, r60, r61, r62, r63, r64, r65, r66, r67, r68, r69, r70, r71, r72, r73, r74, r75, r76, r77, r78, r79, r80, r81, r82, r83, r84, r85, r86, r87, w10, w11, w12, w13, w18, w19, w20, w21, w22, w23, w24, w25, w26, w30, w31, w32, w33, w34, w35, w36, w38, w39, w40, w43, w44, w46, w47, w48, w49, w50, w51, w52, w53, w54, w55, w56, w57, w58, w59, w60, w61, w62, w63, w64, w65, w66, w67, w68, w69, w70, w71, w72, w73, w74, w75, w76, w77, w78, w79, w80, w81, w82, w83, w84, w85, w86, w87, hi_hit, hi_row, hi_col, hj_hit, hj_row, hj_col, hi_sj, hj_si, hq_si, hq_sj, hi_sq, hj_sq, hi_srh, hi_srm]
theorem c_lay37 (X : FX h) (W : WX h a) (C : CFx h F nf fa) (R : RG F nw nf) (hnf : nf ≤ 250) (hw : w < nw) (k : Int32) (q2 : Option Nat) (z1 : ∀ j, j < 624 → hi h (a + 1) j = 0) (z2 : ∀ j, j < 104 → hi h (a + 2) j = 0) :
    ∃ g, f_X7_layOut_L37 fu a k q2 ((nx F (nI w) nf 0).map fa) h = some g ∧ Fr [a + 1, a + 2] [] h g ∧ (∀ i u, i < 6 → u < 104 → hi g (a + 1) (i * 104 + u) = PDn F (nI w) k nf i u) ∧ ∀ u, u < 104 → hi g (a + 2) u = if LSn F (nI w) k nf u = true then 1 else 0 := by
  have ha := W.1
  refine lstF (fun n q g => f_X7_layOut_L37 n a k q2 q g) (fun n g => Fr [a + 1, a + 2] [] h g ∧ (∀ i u, i < 6 → u < 104 → hi g (a + 1) (i * 104 + u) = PDn F (nI w) k n i u) ∧ ∀ u, u < 104 → hi g (a + 2) u = if LSn F (nI w) k n u = true then 1 else 0) (fun g => Fr [a + 1, a + 2] [] h g ∧ (∀ i u, i < 6 → u < 104 → hi g (a + 1) (i * 104 + u) = PDn F (nI w) k nf i u) ∧ ∀ u, u < 104 → hi g (a + 2) u = if LSn F (nI w) k nf u = true then 1 else 0) (by omega) ?_ ?_ ?_ ⟨Fr.rfl, fun i u hi' hu => z1 _ (by omega), fun u hu => z2 u hu⟩
  · rintro n g I
    exact ⟨g, by simp only [f_X7_layOut_L37.eq_2, ↓reduceIte], I⟩
  · rintro f g hf he ⟨I1, I2, I3⟩
    refine ⟨I1, fun i u hi' hu => ?_, fun u hu => ?_⟩
    · rw [PDn.eq_2, if_neg (fun q => he (cnts_iff.mp q.1).2.1)]; exact I2 i u hi' hu
    · have c : cnts F 1 (nI w) k f = false := by rw [Bool.eq_false_iff]; exact fun q => he (cnts_iff.mp q).2.1
      rw [LSn.eq_2, c, Bool.false_and, Bool.false_or]; exact I3 u hu
  · rintro n f g hf he ⟨I1, I2, I3⟩
    right
    have W1 := W.fr I1
    have C1 := C.frW W I1 (fun x hx => by simp at hx; omega) (fun x hx => by simp at hx)
    obtain ⟨c0, c1, c2, c3, c4, c5, c6, c7, c8, c9, c10⟩ := C1 f hf
    have K : FK g (fa f) := c1
    have cc := c_counts (F := F) (f := f) c1 c7 c9 (R.1 f hf).2.2.2.2.2.2.2.2 k
    obtain ⟨N0, N1, N2⟩ := c_note W1 hf C1 R
    rw [he] at c10
    have sk : ∀ s, ¬ F 0 f = s → cnts F s (nI w) k f = false := fun s hs => by rw [Bool.eq_false_iff]; exact fun q => hs (cnts_iff.mp q).1
    have pskip : cnts F 0 (nI w) k f = false → ∀ i u, PDn F (nI w) k (f + 1) i u = PDn F (nI w) k f i u := fun c i u => by rw [PDn.eq_2, if_neg (fun q => by rw [c] at q; exact absurd q.1 (by decide))]
    have lskip : cnts F 1 (nI w) k f = false → ∀ u, LSn F (nI w) k (f + 1) u = LSn F (nI w) k f u := fun c u => by rw [LSn.eq_2, c, Bool.false_and, Bool.false_or]
    have i0 : ¬ (1 : Int32) = 0 := by decide
    by_cases ck : ctk F k f = true
    · rw [if_pos ck] at cc
      by_cases s0 : F 0 f = 0
      · have cn : cnts F 0 (nI w) k f = true := (ctk_cnts s0 he).trans ck
        have c1f : cnts F 1 (nI w) k f = false := sk 1 (by rw [s0]; decide)
        obtain ⟨i0', u0, hi0, hu0, r3, r2, en⟩ := N0 s0
        have fr2 : Fr [a + 1, a + 2] [] g (si g (a + 1) (i0' * 104 + u0) (F 4 f)) := Fr.row (by simp)
        refine ⟨_, ?_, I1.trans fr2, fun i u hi' hu => ?_, fun u hu => ?_⟩
        · simp only [f_X7_layOut_L37.eq_2]
          have hn : fa f ≠ a + 1 := C.ne hf W.2.2.1 (by decide)
          simp (disch := (first | assumption | (simp only [FX_si, FX_sj, FX_sr, WX_si, WX_sj, WX_sr, FK_si, FK_sj, FK_sr]; assumption) | omega | decide)) only [cc, i0, en, c10, ↓reduceIte, if_true, if_false, i10, i01, eq_self, wq7, wq8, wq9, wq10, wrc, wgi, wpi, wpz, wn1, wn2, wn3, wn4, wr1, wr2, wr3, wr4, ww1, ww2, ww3, ww4, fgi, fgq, fpi, frc, at18, at19, at21, at22, at23, at24, at25, at26, at_neg, wat1, wat2, wat3, wat4, reduceCtorEq, bd_some, b1_some, b2_some, b3_some, b4_some, c1_eq, elim_inl, elim_inr, zok0, zok1, getQ_si, getQ_sj, getQ_sr, q8_0, q8_1, q8_2, q8_4, q8_7, q8_8, q8_9, q8_10, q8_11, q9_0, q9_3, q9_4, q9_8, q17_0, q17_1, q17_2, q17_4, q17_5, q17_6, q17_9, q17_10, q17_11, q27_4, q27_5, q27_6, q27_7, q27_8, q27_11, q45_0, q45_1, q45_11, q45_12, q45_13, q45_14, q45_15, q45_16, q45_17, q45_18, q45_19, q45_20, q45_21, q45_22, q45_23, q45_24, q45_30, q45_31, q45_32, q45_33, q45_34, q45_35, q45_36, q45_37, q45_38, q45_39, q45_43, q45_44, q45_45, q45_46, q45_47, q45_48, q45_52, q45_53, q45_54, q45_59, q45_60, q45_61, q45_62, q45_65, q45_67, q45_68, gi8, gj8, pi8, pz8, pj8, rc8, gi9, gj9, pi9, pz9, pj9, rc9, gi17, gj17, pi17, pz17, pj17, rc17, gi27, gj27, pi27, pz27, pj27, rc27, gi45, gj45, pi45, pz45, pj45, rc45, aln_si, aln_sj, aln_sq, rc_si, rc_sj, rc_sq, n0, n1, n10, n11, n12, n13, n14, n15, n16, n18, n19, n20, n21, n22, n23, n24, n25, n26, n29, n30, n31, n32, n33, n34, n35, n36, n37, n38, n39, n40, n42, n43, n44, n46, n47, n48, n49, n50, n51, n52, n53, n54, n55, n56, n57, n58, n59, n60, n61, n62, n63, n64, n65, n66, n67, n68, n69, n70, n71, n72, n73, n74, n75, n76, n77, n78, n79, n80, n81, n82, n83, n84, n85, n86, n87, r0, r1, r10, r11, r12, r13, r14, r15, r16, r18, r19, r20, r21, r22, r23, r24, r25, r26, r29, r30, r31, r32, r33, r34, r35, r36, r37, r38, r39, r40, r42, r43, r44, r46, r47, r48, r49, r50, r51, r52, r53, r54, r55, r56, r57, r58, r59, r60, r61, r62, r63, r64, r65, r66, r67, r68, r69, r70, r71, r72, r73, r74, r75, r76, r77, r78, r79, r80, r81, r82, r83, r84, r85, r86, r87, w10, w11, w12, w13, w18, w19, w20, w21, w22, w23, w24, w25, w26, w30, w31, w32, w33, w34, w35, w36, w38, w39, w40, w43, w44, w46, w47, w48, w49, w50, w51, w52, w53, w54, w55, w56, w57, w58, w59, w60, w61, w62, w63, w64, w65, w66, w67, w68, w69, w70, w71, w72, w73, w74, w75, w76, w77, w78, w79, w80, w81, w82, w83, w84, w85, w86, w87, hi_hit, hi_row, hi_col, hj_hit, hj_row, hj_col, hi_sj, hj_si, hq_si, hq_sj, hi_sq, hj_sq, hi_srh, hi_srm]
        · rw [PDn.eq_2]
          by_cases q : i = i0' ∧ u = u0
          · obtain ⟨rfl, rfl⟩ := q
            rw [hi_hit, if_pos ⟨cn, r2, r3⟩]
          · rw [hi_col _ _ (by omega), if_neg, I2 i u hi' hu]
            rintro ⟨-, y1, y2⟩
            rw [r2] at y1
            rw [r3] at y2
            exact q ⟨((nI_eq (by omega) (by omega)).mp y2).symm, ((nI_eq (by omega) (by omega)).mp y1).symm⟩
        · rw [lskip c1f, hi_row _ _ _ (by omega)]; exact I3 u hu
      · have c0f : cnts F 0 (nI w) k f = false := sk 0 s0
        by_cases s1 : F 0 f = 1
        · have cn : cnts F 1 (nI w) k f = true := (ctk_cnts s1 he).trans ck
          obtain ⟨u0, hu0, r2, en⟩ := N1 s1
          have fr2 : Fr [a + 1, a + 2] [] g (si g (a + 2) u0 1) := Fr.row (by simp)
          refine ⟨_, ?_, I1.trans fr2, fun i u hi' hu => ?_, fun u hu => ?_⟩
          · simp only [f_X7_layOut_L37.eq_2]
            simp (disch := (first | assumption | (simp only [FX_si, FX_sj, FX_sr, WX_si, WX_sj, WX_sr, FK_si, FK_sj, FK_sr]; assumption) | omega | decide)) only [cc, i0, en, c10, ↓reduceIte, if_true, if_false, i10, i01, eq_self, wq7, wq8, wq9, wq10, wrc, wgi, wpi, wpz, wn1, wn2, wn3, wn4, wr1, wr2, wr3, wr4, ww1, ww2, ww3, ww4, fgi, fgq, fpi, frc, at18, at19, at21, at22, at23, at24, at25, at26, at_neg, wat1, wat2, wat3, wat4, reduceCtorEq, bd_some, b1_some, b2_some, b3_some, b4_some, c1_eq, elim_inl, elim_inr, zok0, zok1, getQ_si, getQ_sj, getQ_sr, q8_0, q8_1, q8_2, q8_4, q8_7, q8_8, q8_9, q8_10, q8_11, q9_0, q9_3, q9_4, q9_8, q17_0, q17_1, q17_2, q17_4, q17_5, q17_6, q17_9, q17_10, q17_11, q27_4, q27_5, q27_6, q27_7, q27_8, q27_11, q45_0, q45_1, q45_11, q45_12, q45_13, q45_14, q45_15, q45_16, q45_17, q45_18, q45_19, q45_20, q45_21, q45_22, q45_23, q45_24, q45_30, q45_31, q45_32, q45_33, q45_34, q45_35, q45_36, q45_37, q45_38, q45_39, q45_43, q45_44, q45_45, q45_46, q45_47, q45_48, q45_52, q45_53, q45_54, q45_59, q45_60, q45_61, q45_62, q45_65, q45_67, q45_68, gi8, gj8, pi8, pz8, pj8, rc8, gi9, gj9, pi9, pz9, pj9, rc9, gi17, gj17, pi17, pz17, pj17, rc17, gi27, gj27, pi27, pz27, pj27, rc27, gi45, gj45, pi45, pz45, pj45, rc45, aln_si, aln_sj, aln_sq, rc_si, rc_sj, rc_sq, n0, n1, n10, n11, n12, n13, n14, n15, n16, n18, n19, n20, n21, n22, n23, n24, n25, n26, n29, n30, n31, n32, n33, n34, n35, n36, n37, n38, n39, n40, n42, n43, n44, n46, n47, n48, n49, n50, n51, n52, n53, n54, n55, n56, n57, n58, n59, n60, n61, n62, n63, n64, n65, n66, n67, n68, n69, n70, n71, n72, n73, n74, n75, n76, n77, n78, n79, n80, n81, n82, n83, n84, n85, n86, n87, r0, r1, r10, r11, r12, r13, r14, r15, r16, r18, r19, r20, r21, r22, r23, r24, r25, r26, r29, r30, r31, r32, r33, r34, r35, r36, r37, r38, r39, r40, r42, r43, r44, r46, r47, r48, r49, r50, r51, r52, r53, r54, r55, r56, r57, r58, r59, r60, r61, r62, r63, r64, r65, r66, r67, r68, r69, r70, r71, r72, r73, r74, r75, r76, r77, r78, r79, r80, r81, r82, r83, r84, r85, r86, r87, w10, w11, w12, w13, w18, w19, w20, w21, w22, w23, w24, w25, w26, w30, w31, w32, w33, w34, w35, w36, w38, w39, w40, w43, w44, w46, w47, w48, w49, w50, w51, w52, w53, w54, w55, w56, w57, w58, w59, w60, w61, w62, w63, w64, w65, w66, w67, w68, w69, w70, w71, w72, w73, w74, w75, w76, w77, w78, w79, w80, w81, w82, w83, w84, w85, w86, w87, hi_hit, hi_row, hi_col, hj_hit, hj_row, hj_col, hi_sj, hj_si, hq_si, hq_sj, hi_sq, hj_sq, hi_srh, hi_srm]
          · rw [pskip c0f, hi_row _ _ _ (by omega)]; exact I2 i u hi' hu
          · rw [LSn.eq_2, cn, Bool.true_and]
            by_cases q : u = u0
            · subst q
              rw [hi_hit, if_pos (by rw [decide_eq_true r2, Bool.true_or])]
            · rw [hi_col _ _ q, I3 u hu, show decide (F 2 f = nI u) = false from decide_eq_false (fun z => q (by rw [r2] at z; exact ((nI_eq (by omega) (by omega)).mp z).symm)), Bool.false_or]
        · have en := N2 s0 s1
          refine ⟨g, ?_, I1, fun i u hi' hu => ?_, fun u hu => ?_⟩
          · simp only [f_X7_layOut_L37.eq_2]
            simp (disch := (first | assumption | (simp only [FX_si, FX_sj, FX_sr, WX_si, WX_sj, WX_sr, FK_si, FK_sj, FK_sr]; assumption) | omega | decide)) only [cc, i0, en, c10, ↓reduceIte, if_true, if_false, i10, i01, eq_self, wq7, wq8, wq9, wq10, wrc, wgi, wpi, wpz, wn1, wn2, wn3, wn4, wr1, wr2, wr3, wr4, ww1, ww2, ww3, ww4, fgi, fgq, fpi, frc, at18, at19, at21, at22, at23, at24, at25, at26, at_neg, wat1, wat2, wat3, wat4, reduceCtorEq, bd_some, b1_some, b2_some, b3_some, b4_some, c1_eq, elim_inl, elim_inr, zok0, zok1, getQ_si, getQ_sj, getQ_sr, q8_0, q8_1, q8_2, q8_4, q8_7, q8_8, q8_9, q8_10, q8_11, q9_0, q9_3, q9_4, q9_8, q17_0, q17_1, q17_2, q17_4, q17_5, q17_6, q17_9, q17_10, q17_11, q27_4, q27_5, q27_6, q27_7, q27_8, q27_11, q45_0, q45_1, q45_11, q45_12, q45_13, q45_14, q45_15, q45_16, q45_17, q45_18, q45_19, q45_20, q45_21, q45_22, q45_23, q45_24, q45_30, q45_31, q45_32, q45_33, q45_34, q45_35, q45_36, q45_37, q45_38, q45_39, q45_43, q45_44, q45_45, q45_46, q45_47, q45_48, q45_52, q45_53, q45_54, q45_59, q45_60, q45_61, q45_62, q45_65, q45_67, q45_68, gi8, gj8, pi8, pz8, pj8, rc8, gi9, gj9, pi9, pz9, pj9, rc9, gi17, gj17, pi17, pz17, pj17, rc17, gi27, gj27, pi27, pz27, pj27, rc27, gi45, gj45, pi45, pz45, pj45, rc45, aln_si, aln_sj, aln_sq, rc_si, rc_sj, rc_sq, n0, n1, n10, n11, n12, n13, n14, n15, n16, n18, n19, n20, n21, n22, n23, n24, n25, n26, n29, n30, n31, n32, n33, n34, n35, n36, n37, n38, n39, n40, n42, n43, n44, n46, n47, n48, n49, n50, n51, n52, n53, n54, n55, n56, n57, n58, n59, n60, n61, n62, n63, n64, n65, n66, n67, n68, n69, n70, n71, n72, n73, n74, n75, n76, n77, n78, n79, n80, n81, n82, n83, n84, n85, n86, n87, r0, r1, r10, r11, r12, r13, r14, r15, r16, r18, r19, r20, r21, r22, r23, r24, r25, r26, r29, r30, r31, r32, r33, r34, r35, r36, r37, r38, r39, r40, r42, r43, r44, r46, r47, r48, r49, r50, r51, r52, r53, r54, r55, r56, r57, r58, r59, r60, r61, r62, r63, r64, r65, r66, r67, r68, r69, r70, r71, r72, r73, r74, r75, r76, r77, r78, r79, r80, r81, r82, r83, r84, r85, r86, r87, w10, w11, w12, w13, w18, w19, w20, w21, w22, w23, w24, w25, w26, w30, w31, w32, w33, w34, w35, w36, w38, w39, w40, w43, w44, w46, w47, w48, w49, w50, w51, w52, w53, w54, w55, w56, w57, w58, w59, w60, w61, w62, w63, w64, w65, w66, w67, w68, w69, w70, w71, w72, w73, w74, w75, w76, w77, w78, w79, w80, w81, w82, w83, w84, w85, w86, w87, hi_hit, hi_row, hi_col, hj_hit, hj_row, hj_col, hi_sj, hj_si, hq_si, hq_sj, hi_sq, hj_sq, hi_srh, hi_srm]
          · rw [pskip c0f]; exact I2 i u hi' hu
          · rw [lskip (sk 1 s1)]; exact I3 u hu
    · rw [if_neg ck] at cc
      have cf : ∀ s, cnts F s (nI w) k f = false := fun s => by rw [Bool.eq_false_iff]; exact fun q => ck (cnts_iff.mp q).2.2
      refine ⟨g, ?_, I1, fun i u hi' hu => ?_, fun u hu => ?_⟩
      · simp only [f_X7_layOut_L37.eq_2]
        simp (disch := (first | assumption | (simp only [FX_si, FX_sj, FX_sr, WX_si, WX_sj, WX_sr, FK_si, FK_sj, FK_sr]; assumption) | omega | decide)) only [cc, c10, ↓reduceIte, if_true, if_false, i10, i01, eq_self, wq7, wq8, wq9, wq10, wrc, wgi, wpi, wpz, wn1, wn2, wn3, wn4, wr1, wr2, wr3, wr4, ww1, ww2, ww3, ww4, fgi, fgq, fpi, frc, at18, at19, at21, at22, at23, at24, at25, at26, at_neg, wat1, wat2, wat3, wat4, reduceCtorEq, bd_some, b1_some, b2_some, b3_some, b4_some, c1_eq, elim_inl, elim_inr, zok0, zok1, getQ_si, getQ_sj, getQ_sr, q8_0, q8_1, q8_2, q8_4, q8_7, q8_8, q8_9, q8_10, q8_11, q9_0, q9_3, q9_4, q9_8, q17_0, q17_1, q17_2, q17_4, q17_5, q17_6, q17_9, q17_10, q17_11, q27_4, q27_5, q27_6, q27_7, q27_8, q27_11, q45_0, q45_1, q45_11, q45_12, q45_13, q45_14, q45_15, q45_16, q45_17, q45_18, q45_19, q45_20, q45_21, q45_22, q45_23, q45_24, q45_30, q45_31, q45_32, q45_33, q45_34, q45_35, q45_36, q45_37, q45_38, q45_39, q45_43, q45_44, q45_45, q45_46, q45_47, q45_48, q45_52, q45_53, q45_54, q45_59, q45_60, q45_61, q45_62, q45_65, q45_67, q45_68, gi8, gj8, pi8, pz8, pj8, rc8, gi9, gj9, pi9, pz9, pj9, rc9, gi17, gj17, pi17, pz17, pj17, rc17, gi27, gj27, pi27, pz27, pj27, rc27, gi45, gj45, pi45, pz45, pj45, rc45, aln_si, aln_sj, aln_sq, rc_si, rc_sj, rc_sq, n0, n1, n10, n11, n12, n13, n14, n15, n16, n18, n19, n20, n21, n22, n23, n24, n25, n26, n29, n30, n31, n32, n33, n34, n35, n36, n37, n38, n39, n40, n42, n43, n44, n46, n47, n48, n49, n50, n51, n52, n53, n54, n55, n56, n57, n58, n59, n60, n61, n62, n63, n64, n65, n66, n67, n68, n69, n70, n71, n72, n73, n74, n75, n76, n77, n78, n79, n80, n81, n82, n83, n84, n85, n86, n87, r0, r1, r10, r11, r12, r13, r14, r15, r16, r18, r19, r20, r21, r22, r23, r24, r25, r26, r29, r30, r31, r32, r33, r34, r35, r36, r37, r38, r39, r40, r42, r43, r44, r46, r47, r48, r49, r50, r51, r52, r53, r54, r55, r56, r57, r58, r59, r60, r61, r62, r63, r64, r65, r66, r67, r68, r69, r70, r71, r72, r73, r74, r75, r76, r77, r78, r79, r80, r81, r82, r83, r84, r85, r86, r87, w10, w11, w12, w13, w18, w19, w20, w21, w22, w23, w24, w25, w26, w30, w31, w32, w33, w34, w35, w36, w38, w39, w40, w43, w44, w46, w47, w48, w49, w50, w51, w52, w53, w54, w55, w56, w57, w58, w59, w60, w61, w62, w63, w64, w65, w66, w67, w68, w69, w70, w71, w72, w73, w74, w75, w76, w77, w78, w79, w80, w81, w82, w83, w84, w85, w86, w87, hi_hit, hi_row, hi_col, hj_hit, hj_row, hj_col, hi_sj, hj_si, hq_si, hq_sj, hi_sq, hj_sq, hi_srh, hi_srm]
      · rw [pskip (cf 0)]; exact I2 i u hi' hu
      · rw [lskip (cf 1)]; exact I3 u hu
theorem c_forget {g : Hp} (W : WX g a) {u : Nat} (hu : u < 104) : ∃ g', f_X7_forget a (nI u) g = some g' ∧ Fr [a + 1] [] g g' ∧ (∀ i, i < 6 → hi g' (a + 1) (i * 104 + u) = 0) ∧ ∀ i v, v < 104 → v ≠ u → hi g' (a + 1) (i * 104 + v) = hi g (a + 1) (i * 104 + v) := by
  have ha := W.1
  have key : ∃ g', f_X7_forget_L2 fu a (nI u) g = some g' ∧ (Fr [a + 1] [] g g' ∧ (∀ i, i < 6 → hi g' (a + 1) (i * 104 + u) = 0) ∧ ∀ i v, v < 104 → v ≠ u → hi g' (a + 1) (i * 104 + v) = hi g (a + 1) (i * 104 + v)) := by
    have := whl (fun n (p : Nat × Hp) => f_X7_forget_L2 n a (nI (p.1 * 104 + u)) p.2) (fun p => 7 - p.1) (fun p => p.1 ≤ 6 ∧ Fr [a + 1] [] g p.2 ∧ (∀ i, i < p.1 → hi p.2 (a + 1) (i * 104 + u) = 0) ∧ ∀ i v, v < 104 → v ≠ u → hi p.2 (a + 1) (i * 104 + v) = hi g (a + 1) (i * 104 + v)) (fun g' => Fr [a + 1] [] g g' ∧ (∀ i, i < 6 → hi g' (a + 1) (i * 104 + u) = 0) ∧ ∀ i v, v < 104 → v ≠ u → hi g' (a + 1) (i * 104 + v) = hi g (a + 1) (i * 104 + v)) (by
      rintro n ⟨i, g1⟩ ⟨I0, I1, I2, I3⟩
      simp only at I0 I1 I2 I3
      have W1 := W.fr I1
      have n1 : ¬ nI (i * 104 + u) < 0 := nI_pos (by omega)
      by_cases q : i = 6
      · subst q
        left
        refine ⟨g1, ?_, I1, I2, I3⟩
        simp only [f_X7_forget_L2.eq_2]
        simp (disch := (first | assumption | (simp only [FX_si, FX_sj, FX_sr, WX_si, WX_sj, WX_sr, FK_si, FK_sj, FK_sr]; assumption) | omega | decide)) only [n1, ↓reduceIte, if_true, if_false, i10, i01, eq_self, wq7, wq8, wq9, wq10, wrc, wgi, wpi, wpz, wn1, wn2, wn3, wn4, wr1, wr2, wr3, wr4, ww1, ww2, ww3, ww4, fgi, fgq, fpi, frc, at18, at19, at21, at22, at23, at24, at25, at26, at_neg, wat1, wat2, wat3, wat4, reduceCtorEq, bd_some, b1_some, b2_some, b3_some, b4_some, c1_eq, elim_inl, elim_inr, zok0, zok1, getQ_si, getQ_sj, getQ_sr, q8_0, q8_1, q8_2, q8_4, q8_7, q8_8, q8_9, q8_10, q8_11, q9_0, q9_3, q9_4, q9_8, q17_0, q17_1, q17_2, q17_4, q17_5, q17_6, q17_9, q17_10, q17_11, q27_4, q27_5, q27_6, q27_7, q27_8, q27_11, q45_0, q45_1, q45_11, q45_12, q45_13, q45_14, q45_15, q45_16, q45_17, q45_18, q45_19, q45_20, q45_21, q45_22, q45_23, q45_24, q45_30, q45_31, q45_32, q45_33, q45_34, q45_35, q45_36, q45_37, q45_38, q45_39, q45_43, q45_44, q45_45, q45_46, q45_47, q45_48, q45_52, q45_53, q45_54, q45_59, q45_60, q45_61, q45_62, q45_65, q45_67, q45_68, gi8, gj8, pi8, pz8, pj8, rc8, gi9, gj9, pi9, pz9, pj9, rc9, gi17, gj17, pi17, pz17, pj17, rc17, gi27, gj27, pi27, pz27, pj27, rc27, gi45, gj45, pi45, pz45, pj45, rc45, aln_si, aln_sj, aln_sq, rc_si, rc_sj, rc_sq, n0, n1, n10, n11, n12, n13, n14, n15, n16, n18, n19, n20, n21, n22, n23, n24, n25, n26, n29, n30, n31, n32, n33, n34, n35, n36, n37, n38, n39, n40, n42, n43, n44, n46, n47, n48, n49, n50, n51, n52, n53, n54, n55, n56, n57, n58, n59, n60, n61, n62, n63, n64, n65, n66, n67, n68, n69, n70, n71, n72, n73, n74, n75, n76, n77, n78, n79, n80, n81, n82, n83, n84, n85, n86, n87, r0, r1, r10, r11, r12, r13, r14, r15, r16, r18, r19, r20, r21, r22, r23, r24, r25, r26, r29, r30, r31, r32, r33, r34, r35, r36, r37, r38, r39, r40, r42, r43, r44, r46, r47, r48, r49, r50, r51, r52, r53, r54, r55, r56, r57, r58, r59, r60, r61, r62, r63, r64, r65, r66, r67, r68, r69, r70, r71, r72, r73, r74, r75, r76, r77, r78, r79, r80, r81, r82, r83, r84, r85, r86, r87, w10, w11, w12, w13, w18, w19, w20, w21, w22, w23, w24, w25, w26, w30, w31, w32, w33, w34, w35, w36, w38, w39, w40, w43, w44, w46, w47, w48, w49, w50, w51, w52, w53, w54, w55, w56, w57, w58, w59, w60, w61, w62, w63, w64, w65, w66, w67, w68, w69, w70, w71, w72, w73, w74, w75, w76, w77, w78, w79, w80, w81, w82, w83, w84, w85, w86, w87, hi_hit, hi_row, hi_col, hj_hit, hj_row, hj_col, hi_sj, hj_si, hq_si, hq_sj, hi_sq, hj_sq, hi_srh, hi_srm]
        rw [if_pos (by rw [nI_leI (by omega) (by omega)]; omega)]
      · right
        have n2 : ¬ nI 624 ≤ nI (i * 104 + u) := by rw [nI_leI (by omega) (by omega)]; omega
        have hx : i * 104 + u < 624 := by omega
        have e104 : nI (i * 104 + u) + 104 = nI ((i + 1) * 104 + u) := by rw [show (104 : Int32) = nI 104 from rfl, nI_add, show i * 104 + u + 104 = (i + 1) * 104 + u by omega]
        refine ⟨(i + 1, si g1 (a + 1) (i * 104 + u) 0), ?_, ⟨by simp only; omega, I1.trans (Fr.row (by simp)), fun j hj => ?_, fun j v hv hne => ?_⟩, by simp only; omega⟩
        · simp only [f_X7_forget_L2.eq_2]
          simp (disch := (first | assumption | (simp only [FX_si, FX_sj, FX_sr, WX_si, WX_sj, WX_sr, FK_si, FK_sj, FK_sr]; assumption) | omega | decide)) only [n1, n2, e104, ↓reduceIte, if_true, if_false, i10, i01, eq_self, wq7, wq8, wq9, wq10, wrc, wgi, wpi, wpz, wn1, wn2, wn3, wn4, wr1, wr2, wr3, wr4, ww1, ww2, ww3, ww4, fgi, fgq, fpi, frc, at18, at19, at21, at22, at23, at24, at25, at26, at_neg, wat1, wat2, wat3, wat4, reduceCtorEq, bd_some, b1_some, b2_some, b3_some, b4_some, c1_eq, elim_inl, elim_inr, zok0, zok1, getQ_si, getQ_sj, getQ_sr, q8_0, q8_1, q8_2, q8_4, q8_7, q8_8, q8_9, q8_10, q8_11, q9_0, q9_3, q9_4, q9_8, q17_0, q17_1, q17_2, q17_4, q17_5, q17_6, q17_9, q17_10, q17_11, q27_4, q27_5, q27_6, q27_7, q27_8, q27_11, q45_0, q45_1, q45_11, q45_12, q45_13, q45_14, q45_15, q45_16, q45_17, q45_18, q45_19, q45_20, q45_21, q45_22, q45_23, q45_24, q45_30, q45_31, q45_32, q45_33, q45_34, q45_35, q45_36, q45_37, q45_38, q45_39, q45_43, q45_44, q45_45, q45_46, q45_47, q45_48, q45_52, q45_53, q45_54, q45_59, q45_60, q45_61, q45_62, q45_65, q45_67, q45_68, gi8, gj8, pi8, pz8, pj8, rc8, gi9, gj9, pi9, pz9, pj9, rc9, gi17, gj17, pi17, pz17, pj17, rc17, gi27, gj27, pi27, pz27, pj27, rc27, gi45, gj45, pi45, pz45, pj45, rc45, aln_si, aln_sj, aln_sq, rc_si, rc_sj, rc_sq, n0, n1, n10, n11, n12, n13, n14, n15, n16, n18, n19, n20, n21, n22, n23, n24, n25, n26, n29, n30, n31, n32, n33, n34, n35, n36, n37, n38, n39, n40, n42, n43, n44, n46, n47, n48, n49, n50, n51, n52, n53, n54, n55, n56, n57, n58, n59, n60, n61, n62, n63, n64, n65, n66, n67, n68, n69, n70, n71, n72, n73, n74, n75, n76, n77, n78, n79, n80, n81, n82, n83, n84, n85, n86, n87, r0, r1, r10, r11, r12, r13, r14, r15, r16, r18, r19, r20, r21, r22, r23, r24, r25, r26, r29, r30, r31, r32, r33, r34, r35, r36, r37, r38, r39, r40, r42, r43, r44, r46, r47, r48, r49, r50, r51, r52, r53, r54, r55, r56, r57, r58, r59, r60, r61, r62, r63, r64, r65, r66, r67, r68, r69, r70, r71, r72, r73, r74, r75, r76, r77, r78, r79, r80, r81, r82, r83, r84, r85, r86, r87, w10, w11, w12, w13, w18, w19, w20, w21, w22, w23, w24, w25, w26, w30, w31, w32, w33, w34, w35, w36, w38, w39, w40, w43, w44, w46, w47, w48, w49, w50, w51, w52, w53, w54, w55, w56, w57, w58, w59, w60, w61, w62, w63, w64, w65, w66, w67, w68, w69, w70, w71, w72, w73, w74, w75, w76, w77, w78, w79, w80, w81, w82, w83, w84, w85, w86, w87, hi_hit, hi_row, hi_col, hj_hit, hj_row, hj_col, hi_sj, hj_si, hq_si, hq_sj, hi_sq, hj_sq, hi_srh, hi_srm]
        · simp only at hj ⊢
          by_cases z : j = i
          · subst z; exact hi_hit _ _ _
          · rw [hi_col _ _ (by omega)]; exact I2 j (by omega)
        · simp only
          rw [hi_col _ _ (by omega)]
          exact I3 j v hv hne) fu (0, g) ⟨Nat.zero_le _, Fr.rfl, fun j hj => absurd hj (Nat.not_lt_zero _), fun _ _ _ _ => rfl⟩ (fu_gt (by show 7 - 0 ≤ _; omega))
    simpa using this
  obtain ⟨g', b1', b2'⟩ := key
  refine ⟨g', ?_, b2'⟩
  unfold f_X7_forget
  rw [b1', bd_some]
theorem c_lay64 {g : Hp} (W : WX g a) {ls : Nat → Bool} (v1 : Int32) (q2 : Option Nat) (hls : ∀ u, u < 104 → hi g (a + 2) u = if ls u = true then 1 else 0) :
    ∃ g', f_X7_layOut_L64 fu a v1 q2 0 g = some g' ∧ Fr [a + 1] [] g g' ∧ ∀ i u, i < 6 → u < 104 → hi g' (a + 1) (i * 104 + u) = if ls u = true then 0 else hi g (a + 1) (i * 104 + u) := by
  have ha := W.1
  refine forN (fun n v g => f_X7_layOut_L64 n a v1 q2 v g) 104 (by omega) (fun v g' => Fr [a + 1] [] g g' ∧ (∀ i u, i < 6 → u < v → hi g' (a + 1) (i * 104 + u) = if ls u = true then 0 else hi g (a + 1) (i * 104 + u)) ∧ ∀ i u, v ≤ u → u < 104 → hi g' (a + 1) (i * 104 + u) = hi g (a + 1) (i * 104 + u)) (fun g' => Fr [a + 1] [] g g' ∧ ∀ i u, i < 6 → u < 104 → hi g' (a + 1) (i * 104 + u) = if ls u = true then 0 else hi g (a + 1) (i * 104 + u)) ?_ ?_ (i0 := 0) (Nat.zero_le _) ⟨Fr.rfl, fun i u _ hu => absurd hu (Nat.not_lt_zero _), fun _ _ _ _ => rfl⟩
  · rintro n g1 ⟨I1, I2, -⟩
    exact ⟨g1, by simp only [f_X7_layOut_L64.eq_2]; rw [if_pos (by decide)], I1, I2⟩
  · rintro n v g1 hv ⟨I1, I2, I3⟩
    right
    have W1 := W.fr I1
    have n1 : ¬ (104 : Int32) ≤ nI v := by rw [L104, nI_leI (by omega) (by omega)]; omega
    have n2 : ¬ nI 104 ≤ nI v := by rw [nI_leI (by omega) (by omega)]; omega
    have el : hi g1 (a + 2) v = if ls v = true then 1 else 0 := by rw [I1.2.2.1 (a + 2) v (by simp) (by simp)]; exact hls v hv
    by_cases q : ls v = true
    · rw [if_pos q] at el
      obtain ⟨g2, b1', b2', b3', b4'⟩ := c_forget W1 hv
      refine ⟨g2, ?_, I1.trans b2', fun i u hi' hu => ?_, fun i u h1 h2 => ?_⟩
      · simp only [f_X7_layOut_L64.eq_2]
        simp (disch := (first | assumption | (simp only [FX_si, FX_sj, FX_sr, WX_si, WX_sj, WX_sr, FK_si, FK_sj, FK_sr]; assumption) | omega | decide)) only [n1, n2, el, b1', nI_1, ↓reduceIte, if_true, if_false, i10, i01, eq_self, wq7, wq8, wq9, wq10, wrc, wgi, wpi, wpz, wn1, wn2, wn3, wn4, wr1, wr2, wr3, wr4, ww1, ww2, ww3, ww4, fgi, fgq, fpi, frc, at18, at19, at21, at22, at23, at24, at25, at26, at_neg, wat1, wat2, wat3, wat4, reduceCtorEq, bd_some, b1_some, b2_some, b3_some, b4_some, c1_eq, elim_inl, elim_inr, zok0, zok1, getQ_si, getQ_sj, getQ_sr, q8_0, q8_1, q8_2, q8_4, q8_7, q8_8, q8_9, q8_10, q8_11, q9_0, q9_3, q9_4, q9_8, q17_0, q17_1, q17_2, q17_4, q17_5, q17_6, q17_9, q17_10, q17_11, q27_4, q27_5, q27_6, q27_7, q27_8, q27_11, q45_0, q45_1, q45_11, q45_12, q45_13, q45_14, q45_15, q45_16, q45_17, q45_18, q45_19, q45_20, q45_21, q45_22, q45_23, q45_24, q45_30, q45_31, q45_32, q45_33, q45_34, q45_35, q45_36, q45_37, q45_38, q45_39, q45_43, q45_44, q45_45, q45_46, q45_47, q45_48, q45_52, q45_53, q45_54, q45_59, q45_60, q45_61, q45_62, q45_65, q45_67, q45_68, gi8, gj8, pi8, pz8, pj8, rc8, gi9, gj9, pi9, pz9, pj9, rc9, gi17, gj17, pi17, pz17, pj17, rc17, gi27, gj27, pi27, pz27, pj27, rc27, gi45, gj45, pi45, pz45, pj45, rc45, aln_si, aln_sj, aln_sq, rc_si, rc_sj, rc_sq, n0, n1, n10, n11, n12, n13, n14, n15, n16, n18, n19, n20, n21, n22, n23, n24, n25, n26, n29, n30, n31, n32, n33, n34, n35, n36, n37, n38, n39, n40, n42, n43, n44, n46, n47, n48, n49, n50, n51, n52, n53, n54, n55, n56, n57, n58, n59, n60, n61, n62, n63, n64, n65, n66, n67, n68, n69, n70, n71, n72, n73, n74, n75, n76, n77, n78, n79, n80, n81, n82, n83, n84, n85, n86, n87, r0, r1, r10, r11, r12, r13, r14, r15, r16, r18, r19, r20, r21, r22, r23, r24, r25, r26, r29, r30, r31, r32, r33, r34, r35, r36, r37, r38, r39, r40, r42, r43, r44, r46, r47, r48, r49, r50, r51, r52, r53, r54, r55, r56, r57, r58, r59, r60, r61, r62, r63, r64, r65, r66, r67, r68, r69, r70, r71, r72, r73, r74, r75, r76, r77, r78, r79, r80, r81, r82, r83, r84, r85, r86, r87, w10, w11, w12, w13, w18, w19, w20, w21, w22, w23, w24, w25, w26, w30, w31, w32, w33, w34, w35, w36, w38, w39, w40, w43, w44, w46, w47, w48, w49, w50, w51, w52, w53, w54, w55, w56, w57, w58, w59, w60, w61, w62, w63, w64, w65, w66, w67, w68, w69, w70, w71, w72, w73, w74, w75, w76, w77, w78, w79, w80, w81, w82, w83, w84, w85, w86, w87, hi_hit, hi_row, hi_col, hj_hit, hj_row, hj_col, hi_sj, hj_si, hq_si, hq_sj, hi_sq, hj_sq, hi_srh, hi_srm]
      · by_cases z : u = v
        · subst z; rw [b3' i hi', if_pos q]
        · rw [b4' i u (by omega) z]; exact I2 i u hi' (by omega)
      · rw [b4' i u h2 (by omega)]; exact I3 i u (by omega) h2
    · rw [if_neg q] at el
      refine ⟨g1, ?_, I1, fun i u hi' hu => ?_, fun i u h1 h2 => I3 i u (by omega) h2⟩
      · simp only [f_X7_layOut_L64.eq_2]
        simp (disch := (first | assumption | (simp only [FX_si, FX_sj, FX_sr, WX_si, WX_sj, WX_sr, FK_si, FK_sj, FK_sr]; assumption) | omega | decide)) only [n1, n2, el, nI_1, ↓reduceIte, if_true, if_false, i10, i01, eq_self, wq7, wq8, wq9, wq10, wrc, wgi, wpi, wpz, wn1, wn2, wn3, wn4, wr1, wr2, wr3, wr4, ww1, ww2, ww3, ww4, fgi, fgq, fpi, frc, at18, at19, at21, at22, at23, at24, at25, at26, at_neg, wat1, wat2, wat3, wat4, reduceCtorEq, bd_some, b1_some, b2_some, b3_some, b4_some, c1_eq, elim_inl, elim_inr, zok0, zok1, getQ_si, getQ_sj, getQ_sr, q8_0, q8_1, q8_2, q8_4, q8_7, q8_8, q8_9, q8_10, q8_11, q9_0, q9_3, q9_4, q9_8, q17_0, q17_1, q17_2, q17_4, q17_5, q17_6, q17_9, q17_10, q17_11, q27_4, q27_5, q27_6, q27_7, q27_8, q27_11, q45_0, q45_1, q45_11, q45_12, q45_13, q45_14, q45_15, q45_16, q45_17, q45_18, q45_19, q45_20, q45_21, q45_22, q45_23, q45_24, q45_30, q45_31, q45_32, q45_33, q45_34, q45_35, q45_36, q45_37, q45_38, q45_39, q45_43, q45_44, q45_45, q45_46, q45_47, q45_48, q45_52, q45_53, q45_54, q45_59, q45_60, q45_61, q45_62, q45_65, q45_67, q45_68, gi8, gj8, pi8, pz8, pj8, rc8, gi9, gj9, pi9, pz9, pj9, rc9, gi17, gj17, pi17, pz17, pj17, rc17, gi27, gj27, pi27, pz27, pj27, rc27, gi45, gj45, pi45, pz45, pj45, rc45, aln_si, aln_sj, aln_sq, rc_si, rc_sj, rc_sq, n0, n1, n10, n11, n12, n13, n14, n15, n16, n18, n19, n20, n21, n22, n23, n24, n25, n26, n29, n30, n31, n32, n33, n34, n35, n36, n37, n38, n39, n40, n42, n43, n44, n46, n47, n48, n49, n50, n51, n52, n53, n54, n55, n56, n57, n58, n59, n60, n61, n62, n63, n64, n65, n66, n67, n68, n69, n70, n71, n72, n73, n74, n75, n76, n77, n78, n79, n80, n81, n82, n83, n84, n85, n86, n87, r0, r1, r10, r11, r12, r13, r14, r15, r16, r18, r19, r20, r21, r22, r23, r24, r25, r26, r29, r30, r31, r32, r33, r34, r35, r36, r37, r38, r39, r40, r42, r43, r44, r46, r47, r48, r49, r50, r51, r52, r53, r54, r55, r56, r57, r58, r59, r60, r61, r62, r63, r64, r65, r66, r67, r68, r69, r70, r71, r72, r73, r74, r75, r76, r77, r78, r79, r80, r81, r82, r83, r84, r85, r86, r87, w10, w11, w12, w13, w18, w19, w20, w21, w22, w23, w24, w25, w26, w30, w31, w32, w33, w34, w35, w36, w38, w39, w40, w43, w44, w46, w47, w48, w49, w50, w51, w52, w53, w54, w55, w56, w57, w58, w59, w60, w61, w62, w63, w64, w65, w66, w67, w68, w69, w70, w71, w72, w73, w74, w75, w76, w77, w78, w79, w80, w81, w82, w83, w84, w85, w86, w87, hi_hit, hi_row, hi_col, hj_hit, hj_row, hj_col, hi_sj, hj_si, hq_si, hq_sj, hi_sq, hj_sq, hi_srh, hi_srm]
      · by_cases z : u = v
        · subst z; rw [if_neg q]; exact I3 i u (Nat.le_refl _) hv
        · exact I2 i u hi' (by omega)
end Sy
theorem cp_of {h : Hp} {x y n m i0 i1 len : Nat} (e1 : hk h x = some (10, n)) (e2 : hk h y = some (10, m)) (hx : 8 ≤ x) (hy : 8 ≤ y) (hn : n ≤ 65536) (hm : m ≤ 65536) (l1 : i0 + len ≤ n) (l2 : i1 + len ≤ m) :
    cpI h (some x) (nI i0) (some y) (nI i1) (nI len) = some (sr h y (va_cpy (hi h x) (hi h y) i0 i1 len)) := by
  unfold cpI
  rw [arn_eq e1, bd_some, arn_eq e2, bd_some, nI_clamp (by omega), nI_clamp (by omega), nI_clamp (by omega), if_pos]
  exact ⟨hy, hx, hn, hm, nI_pos' (by omega), nI_pos' (by omega), nI_pos' (by omega), l1, l2⟩
section Sz
variable {h : Hp} {F : Nat → Nat → Int32} {nw nf w a : Nat} {fa : Nat → Nat}
theorem c_layOut (X : FX h) (W : WX h a) (C : CFx h F nf fa) (R : RG F nw nf) (hnf : nf ≤ 250) (hw : w < nw) (h1 : hq h a 2 = (nx F (nI w) nf 0).map fa) (k : Int32) (hl : hi h a 5 = 0 ∨ hi h a 5 = 1 ∧ CW h a F (nI w) (hi h a 6) nf) :
    ∃ g, f_X7_layOut a k (some 17) h = some g ∧ Fr [18, 19, 20, 21, 22, 23, 24, 25, 26, a + 1, a + 2, a + 3, a + 4] [(17, 3), (17, 7), (17, 8), (a, 5), (a, 6), (a, 11)] h g ∧ hi g a 5 = 1 ∧ hi g a 6 = k ∧ CW g a F (nI w) k nf := by
  have ha := W.1
  obtain ⟨g1, a1, a2, a3⟩ := fill_of W.2.2.1 (by omega) (by decide) (0 : Int32)
  have X1 := a2.fx X
  have W1 := W.fr a2
  obtain ⟨g2, b1', b2', b3'⟩ := fill_of W1.2.2.2.1 (by omega) (by decide) (0 : Int32)
  have X2 := b2'.fx X1
  have W2 := W1.fr b2'
  have fr2 : Fr [a + 1, a + 2] [] h g2 := (a2.mono (fun x hx => by simp at hx ⊢; omega) (fun x hx => hx)).trans (b2'.mono (fun x hx => by simp at hx ⊢; omega) (fun x hx => hx))
  have C2 := C.frW W fr2 (fun x hx => by simp at hx; omega) (fun x hx => by simp at hx)
  obtain ⟨g3, c1', c2', c3', c4'⟩ := c_lay37 (w := w) X2 W2 C2 R hnf hw k (some 17) (fun j hj => by rw [b2'.2.2.1 (a + 1) j (by simp) (by simp)]; exact a3 j hj) b3'
  have X3 := c2'.fx X2
  have W3 := W2.fr c2'
  obtain ⟨g4, d1', d2', d3'⟩ := c_lay64 W3 k (some 17) c4'
  have X4 := d2'.fx X3
  have W4 := W3.fr d2'
  have p4 : ∀ i u, i < 6 → u < 104 → hi g4 (a + 1) (i * 104 + u) = PD F (nI w) k nf i u := fun i u hi' hu => by
    rw [d3' i u hi' hu, c3' i u hi' hu]; rfl
  have l4 : ∀ u, u < 104 → hi g4 (a + 2) u = if LSn F (nI w) k nf u = true then 1 else 0 := fun u hu => by rw [d2'.2.2.1 (a + 2) u (by simp) (by simp)]; exact c4' u hu
  have e5 := cp_of (i0 := 0) (i1 := 0) (len := 104) W4.2.2.1 W4.2.2.2.2.1 (by omega) (by omega) (by decide) (by decide) (by omega) (by omega)
  obtain ⟨g5, eg5⟩ : ∃ g5, g5 = sr g4 (a + 3) (va_cpy (hi g4 (a + 1)) (hi g4 (a + 3)) 0 0 104) := ⟨_, rfl⟩
  rw [← eg5] at e5
  have fr5 : Fr [a + 3] [] g4 g5 := by rw [eg5]; exact Fr.rowR (by simp)
  have X5 := fr5.fx X4
  have W5 := W4.fr fr5
  have e6 := cp_of (i0 := 0) (i1 := 0) (len := 104) W5.2.2.1 W5.2.2.2.2.2.1 (by omega) (by omega) (by decide) (by decide) (by omega) (by omega)
  obtain ⟨g6, eg6⟩ : ∃ g6, g6 = sr g5 (a + 4) (va_cpy (hi g5 (a + 1)) (hi g5 (a + 4)) 0 0 104) := ⟨_, rfl⟩
  rw [← eg6] at e6
  have fr6 : Fr [a + 4] [] g5 g6 := by rw [eg6]; exact Fr.rowR (by simp)
  have X6 := fr6.fx X5
  have W6 := W5.fr fr6
  have p5 : ∀ j, hi g5 (a + 1) j = hi g4 (a + 1) j := fun j => fr5.2.2.1 (a + 1) j (by simp) (by simp)
  have p6 : ∀ i u, i < 6 → u < 104 → hi g6 (a + 1) (i * 104 + u) = PD F (nI w) k nf i u := fun i u hi' hu => by
    rw [fr6.2.2.1 (a + 1) _ (by simp) (by simp), p5]; exact p4 i u hi' hu
  have l6 : ∀ u, u < 104 → hi g6 (a + 2) u = if LSn F (nI w) k nf u = true then 1 else 0 := fun u hu => by
    rw [fr6.2.2.1 (a + 2) u (by simp) (by simp), fr5.2.2.1 (a + 2) u (by simp) (by simp)]; exact l4 u hu
  have lo6 : ∀ u, u < 104 → hi g6 (a + 3) u = PD F (nI w) k nf 0 u := fun u hu => by
    rw [fr6.2.2.1 (a + 3) u (by simp) (by simp), eg5, hi_srh, pk_cpy_in (by omega) (by omega)]
    have := p4 0 u (by omega) hu
    rw [Nat.zero_mul, Nat.zero_add] at this
    rw [Nat.zero_add, Nat.sub_zero]
    exact this
  have hi6 : ∀ u, u < 104 → hi g6 (a + 4) u = PD F (nI w) k nf 0 u := fun u hu => by
    rw [eg6, hi_srh, pk_cpy_in (by omega) (by omega), p5]
    have := p4 0 u (by omega) hu
    rw [Nat.zero_mul, Nat.zero_add] at this
    rw [Nat.zero_add, Nat.sub_zero]
    exact this
  have frA : Fr [a + 1, a + 2, a + 3, a + 4] [] h g6 := ((((fr2.mono (fun x hx => by simp at hx ⊢; omega) (fun x hx => hx)).trans (c2'.mono (fun x hx => by simp at hx ⊢; omega) (fun x hx => hx))).trans (d2'.mono (fun x hx => by simp at hx ⊢; omega) (fun x hx => hx))).trans (fr5.mono (fun x hx => by simp at hx ⊢; omega) (fun x hx => hx))).trans (fr6.mono (fun x hx => by simp at hx ⊢; omega) (fun x hx => hx))
  have C6 := C.frW W frA (fun x hx => by simp at hx; omega) (fun x hx => by simp at hx)
  obtain ⟨g7, f1', f2', f3'⟩ := c_spread X6 W6 C6 R hnf hw (by rw [frA.2.1]; exact h1) k p6 l6
  have X7 := f2'.fx X6
  have W7 := W6.fr f2'
  obtain ⟨g8, eg8⟩ : ∃ g8, g8 = si (si (si g7 a 11 (QRL F (nI w) k nf)) a 5 1) a 6 k := ⟨_, rfl⟩
  have fr8 : Fr [] [(a, 5), (a, 6), (a, 11)] g7 g8 := by rw [eg8]; exact ((Fr.fld (by simp)).trans (Fr.fld (by simp))).trans (Fr.fld (by simp))
  have frZ : Fr [18, 19, 20, 21, 22, 23, 24, 25, 26, a + 1, a + 2, a + 3, a + 4] [(17, 3), (17, 7), (17, 8), (a, 5), (a, 6), (a, 11)] h g8 := ((frA.mono (fun x hx => by simp at hx ⊢; omega) (fun x hx => by simp at hx)).trans (f2'.mono (fun x hx => by simp at hx ⊢; omega) (fun x hx => by simp only [List.mem_cons, List.not_mem_nil, or_false] at hx ⊢; rcases hx with z | z | z <;> simp [z]))).trans (fr8.mono (fun x hx => by simp at hx) (fun x hx => by simp only [List.mem_cons, List.not_mem_nil, or_false] at hx ⊢; rcases hx with z | z | z <;> simp [z]))
  have frN : ∀ b j, b ≠ a → hi g8 b j = hi g7 b j := fun b j hb => fr8.2.2.1 b j (by simp) (by simp; omega)
  have cw8 : CW g8 a F (nI w) k nf := by
    refine ⟨fun i u hi' hu => ?_, fun u hu => ?_, fun u hu => ?_, ?_⟩
    · rw [frN _ _ (by omega), f2'.2.2.1 (a + 1) _ (by simp; omega) (by simp; omega)]; exact p6 i u hi' hu
    · rw [frN _ _ (by omega), f2'.2.2.1 (a + 2) _ (by simp; omega) (by simp; omega)]; exact l6 u hu
    · rw [frN _ _ (by omega), frN _ _ (by omega)]
      have := f3' u hu
      by_cases q : LSn F (nI w) k nf u = true
      · rw [if_pos q] at this; exact this
      · rw [if_neg q, lo6 u hu, hi6 u hu] at this
        unfold LOW HIG
        rw [if_neg q, if_neg q]
        exact this
    · rw [eg8, hi_col _ _ (by decide), hi_col _ _ (by decide), hi_hit]
  have one01 : (1 : Int32) = 0 ∨ (1 : Int32) = 1 := Or.inr rfl
  have hq2 : hq g2 a 2 = (nx F (nI w) nf 0).map fa := by rw [fr2.2.1]; exact h1
  have gq2 := getQ_of 2 W2.2.1
  rw [hq2] at gq2
  have e5' : cpI g4 (some (a + 1)) 0 (some (a + 3)) 0 104 = some g5 := e5
  have e6' : cpI g5 (some (a + 1)) 0 (some (a + 4)) 0 104 = some g6 := e6
  have d1'' : f_X7_layOut_L64 fu a k (some 17) 0 g3 = some g4 := d1'
  have go : ∀ x : Int32, hi h a 5 = x → (x = 0 ∨ ¬ x = 0 ∧ ¬ hi h a 6 = k) → f_X7_layOut a k (some 17) h = some g8 := by
    intro x hx hc
    unfold f_X7_layOut
    rcases hc with q | ⟨q, q2⟩
    · subst q
      simp (disch := (first | assumption | (simp only [FX_si, FX_sj, FX_sr, WX_si, WX_sj, WX_sr, FK_si, FK_sj, FK_sr]; assumption) | omega | decide)) only [hx, a1, b1', gq2, c1', d1'', e5', e6', f1', ↓reduceIte, if_true, if_false, i10, i01, eq_self, wq7, wq8, wq9, wq10, wrc, wgi, wpi, wpz, wn1, wn2, wn3, wn4, wr1, wr2, wr3, wr4, ww1, ww2, ww3, ww4, fgi, fgq, fpi, frc, at18, at19, at21, at22, at23, at24, at25, at26, at_neg, wat1, wat2, wat3, wat4, reduceCtorEq, bd_some, b1_some, b2_some, b3_some, b4_some, c1_eq, elim_inl, elim_inr, zok0, zok1, getQ_si, getQ_sj, getQ_sr, q8_0, q8_1, q8_2, q8_4, q8_7, q8_8, q8_9, q8_10, q8_11, q9_0, q9_3, q9_4, q9_8, q17_0, q17_1, q17_2, q17_4, q17_5, q17_6, q17_9, q17_10, q17_11, q27_4, q27_5, q27_6, q27_7, q27_8, q27_11, q45_0, q45_1, q45_11, q45_12, q45_13, q45_14, q45_15, q45_16, q45_17, q45_18, q45_19, q45_20, q45_21, q45_22, q45_23, q45_24, q45_30, q45_31, q45_32, q45_33, q45_34, q45_35, q45_36, q45_37, q45_38, q45_39, q45_43, q45_44, q45_45, q45_46, q45_47, q45_48, q45_52, q45_53, q45_54, q45_59, q45_60, q45_61, q45_62, q45_65, q45_67, q45_68, gi8, gj8, pi8, pz8, pj8, rc8, gi9, gj9, pi9, pz9, pj9, rc9, gi17, gj17, pi17, pz17, pj17, rc17, gi27, gj27, pi27, pz27, pj27, rc27, gi45, gj45, pi45, pz45, pj45, rc45, aln_si, aln_sj, aln_sq, rc_si, rc_sj, rc_sq, n0, n1, n10, n11, n12, n13, n14, n15, n16, n18, n19, n20, n21, n22, n23, n24, n25, n26, n29, n30, n31, n32, n33, n34, n35, n36, n37, n38, n39, n40, n42, n43, n44, n46, n47, n48, n49, n50, n51, n52, n53, n54, n55, n56, n57, n58, n59, n60, n61, n62, n63, n64, n65, n66, n67, n68, n69, n70, n71, n72, n73, n74, n75, n76, n77, n78, n79, n80, n81, n82, n83, n84, n85, n86, n87, r0, r1, r10, r11, r12, r13, r14, r15, r16, r18, r19, r20, r21, r22, r23, r24, r25, r26, r29, r30, r31, r32, r33, r34, r35, r36, r37, r38, r39, r40, r42, r43, r44, r46, r47, r48, r49, r50, r51, r52, r53, r54, r55, r56, r57, r58, r59, r60, r61, r62, r63, r64, r65, r66, r67, r68, r69, r70, r71, r72, r73, r74, r75, r76, r77, r78, r79, r80, r81, r82, r83, r84, r85, r86, r87, w10, w11, w12, w13, w18, w19, w20, w21, w22, w23, w24, w25, w26, w30, w31, w32, w33, w34, w35, w36, w38, w39, w40, w43, w44, w46, w47, w48, w49, w50, w51, w52, w53, w54, w55, w56, w57, w58, w59, w60, w61, w62, w63, w64, w65, w66, w67, w68, w69, w70, w71, w72, w73, w74, w75, w76, w77, w78, w79, w80, w81, w82, w83, w84, w85, w86, w87, hi_hit, hi_row, hi_col, hj_hit, hj_row, hj_col, hi_sj, hj_si, hq_si, hq_sj, hi_sq, hj_sq, hi_srh, hi_srm]
      rw [eg8]
    · simp (disch := (first | assumption | (simp only [FX_si, FX_sj, FX_sr, WX_si, WX_sj, WX_sr, FK_si, FK_sj, FK_sr]; assumption) | omega | decide)) only [hx, q, q2, a1, b1', gq2, c1', d1'', e5', e6', f1', ↓reduceIte, if_true, if_false, i10, i01, eq_self, wq7, wq8, wq9, wq10, wrc, wgi, wpi, wpz, wn1, wn2, wn3, wn4, wr1, wr2, wr3, wr4, ww1, ww2, ww3, ww4, fgi, fgq, fpi, frc, at18, at19, at21, at22, at23, at24, at25, at26, at_neg, wat1, wat2, wat3, wat4, reduceCtorEq, bd_some, b1_some, b2_some, b3_some, b4_some, c1_eq, elim_inl, elim_inr, zok0, zok1, getQ_si, getQ_sj, getQ_sr, q8_0, q8_1, q8_2, q8_4, q8_7, q8_8, q8_9, q8_10, q8_11, q9_0, q9_3, q9_4, q9_8, q17_0, q17_1, q17_2, q17_4, q17_5, q17_6, q17_9, q17_10, q17_11, q27_4, q27_5, q27_6, q27_7, q27_8, q27_11, q45_0, q45_1, q45_11, q45_12, q45_13, q45_14, q45_15, q45_16, q45_17, q45_18, q45_19, q45_20, q45_21, q45_22, q45_23, q45_24, q45_30, q45_31, q45_32, q45_33, q45_34, q45_35, q45_36, q45_37, q45_38, q45_39, q45_43, q45_44, q45_45, q45_46, q45_47, q45_48, q45_52, q45_53, q45_54, q45_59, q45_60, q45_61, q45_62, q45_65, q45_67, q45_68, gi8, gj8, pi8, pz8, pj8, rc8, gi9, gj9, pi9, pz9, pj9, rc9, gi17, gj17, pi17, pz17, pj17, rc17, gi27, gj27, pi27, pz27, pj27, rc27, gi45, gj45, pi45, pz45, pj45, rc45, aln_si, aln_sj, aln_sq, rc_si, rc_sj, rc_sq, n0, n1, n10, n11, n12, n13, n14, n15, n16, n18, n19, n20, n21, n22, n23, n24, n25, n26, n29, n30, n31, n32, n33, n34, n35, n36, n37, n38, n39, n40, n42, n43, n44, n46, n47, n48, n49, n50, n51, n52, n53, n54, n55, n56, n57, n58, n59, n60, n61, n62, n63, n64, n65, n66, n67, n68, n69, n70, n71, n72, n73, n74, n75, n76, n77, n78, n79, n80, n81, n82, n83, n84, n85, n86, n87, r0, r1, r10, r11, r12, r13, r14, r15, r16, r18, r19, r20, r21, r22, r23, r24, r25, r26, r29, r30, r31, r32, r33, r34, r35, r36, r37, r38, r39, r40, r42, r43, r44, r46, r47, r48, r49, r50, r51, r52, r53, r54, r55, r56, r57, r58, r59, r60, r61, r62, r63, r64, r65, r66, r67, r68, r69, r70, r71, r72, r73, r74, r75, r76, r77, r78, r79, r80, r81, r82, r83, r84, r85, r86, r87, w10, w11, w12, w13, w18, w19, w20, w21, w22, w23, w24, w25, w26, w30, w31, w32, w33, w34, w35, w36, w38, w39, w40, w43, w44, w46, w47, w48, w49, w50, w51, w52, w53, w54, w55, w56, w57, w58, w59, w60, w61, w62, w63, w64, w65, w66, w67, w68, w69, w70, w71, w72, w73, w74, w75, w76, w77, w78, w79, w80, w81, w82, w83, w84, w85, w86, w87, hi_hit, hi_row, hi_col, hj_hit, hj_row, hj_col, hi_sj, hj_si, hq_si, hq_sj, hi_sq, hj_sq, hi_srh, hi_srm]
      rw [eg8]
  rcases hl with q | ⟨q, cw⟩
  · exact ⟨g8, go 0 q (Or.inl rfl), frZ, by rw [eg8, hi_col _ _ (by decide), hi_hit], by rw [eg8, hi_hit], cw8⟩
  · by_cases q2 : hi h a 6 = k
    · refine ⟨h, ?_, Fr.rfl, q, q2, by rw [← q2]; exact cw⟩
      unfold f_X7_layOut
      simp (disch := (first | assumption | (simp only [FX_si, FX_sj, FX_sr, WX_si, WX_sj, WX_sr, FK_si, FK_sj, FK_sr]; assumption) | omega | decide)) only [q, q2, ↓reduceIte, if_true, if_false, i10, i01, eq_self, wq7, wq8, wq9, wq10, wrc, wgi, wpi, wpz, wn1, wn2, wn3, wn4, wr1, wr2, wr3, wr4, ww1, ww2, ww3, ww4, fgi, fgq, fpi, frc, at18, at19, at21, at22, at23, at24, at25, at26, at_neg, wat1, wat2, wat3, wat4, reduceCtorEq, bd_some, b1_some, b2_some, b3_some, b4_some, c1_eq, elim_inl, elim_inr, zok0, zok1, getQ_si, getQ_sj, getQ_sr, q8_0, q8_1, q8_2, q8_4, q8_7, q8_8, q8_9, q8_10, q8_11, q9_0, q9_3, q9_4, q9_8, q17_0, q17_1, q17_2, q17_4, q17_5, q17_6, q17_9, q17_10, q17_11, q27_4, q27_5, q27_6, q27_7, q27_8, q27_11, q45_0, q45_1, q45_11, q45_12, q45_13, q45_14, q45_15, q45_16, q45_17, q45_18, q45_19, q45_20, q45_21, q45_22, q45_23, q45_24, q45_30, q45_31, q45_32, q45_33, q45_34, q45_35, q45_36, q45_37, q45_38, q45_39, q45_43, q45_44, q45_45, q45_46, q45_47, q45_48, q45_52, q45_53, q45_54, q45_59, q45_60, q45_61, q45_62, q45_65, q45_67, q45_68, gi8, gj8, pi8, pz8, pj8, rc8, gi9, gj9, pi9, pz9, pj9, rc9, gi17, gj17, pi17, pz17, pj17, rc17, gi27, gj27, pi27, pz27, pj27, rc27, gi45, gj45, pi45, pz45, pj45, rc45, aln_si, aln_sj, aln_sq, rc_si, rc_sj, rc_sq, n0, n1, n10, n11, n12, n13, n14, n15, n16, n18, n19, n20, n21, n22, n23, n24, n25, n26, n29, n30, n31, n32, n33, n34, n35, n36, n37, n38, n39, n40, n42, n43, n44, n46, n47, n48, n49, n50, n51, n52, n53, n54, n55, n56, n57, n58, n59, n60, n61, n62, n63, n64, n65, n66, n67, n68, n69, n70, n71, n72, n73, n74, n75, n76, n77, n78, n79, n80, n81, n82, n83, n84, n85, n86, n87, r0, r1, r10, r11, r12, r13, r14, r15, r16, r18, r19, r20, r21, r22, r23, r24, r25, r26, r29, r30, r31, r32, r33, r34, r35, r36, r37, r38, r39, r40, r42, r43, r44, r46, r47, r48, r49, r50, r51, r52, r53, r54, r55, r56, r57, r58, r59, r60, r61, r62, r63, r64, r65, r66, r67, r68, r69, r70, r71, r72, r73, r74, r75, r76, r77, r78, r79, r80, r81, r82, r83, r84, r85, r86, r87, w10, w11, w12, w13, w18, w19, w20, w21, w22, w23, w24, w25, w26, w30, w31, w32, w33, w34, w35, w36, w38, w39, w40, w43, w44, w46, w47, w48, w49, w50, w51, w52, w53, w54, w55, w56, w57, w58, w59, w60, w61, w62, w63, w64, w65, w66, w67, w68, w69, w70, w71, w72, w73, w74, w75, w76, w77, w78, w79, w80, w81, w82, w83, w84, w85, w86, w87, hi_hit, hi_row, hi_col, hj_hit, hj_row, hj_col, hi_sj, hj_si, hq_si, hq_sj, hi_sq, hj_sq, hi_srh, hi_srm]
    · exact ⟨g8, go 1 q (Or.inr ⟨by decide, q2⟩), frZ, by rw [eg8, hi_col _ _ (by decide), hi_hit], by rw [eg8, hi_hit], cw8⟩
end Sz
