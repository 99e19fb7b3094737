/-! What is owed for a holiday: barred or not, by the class and by the model. -/
def BRn (F : Nat → Nat → Int32) (wk k day : Int32) : Nat → Bool
  | 0 => false
  | n + 1 => (cnts F 4 wk k n && (decide (¬ day < F 2 n) && decide (¬ F 3 n < day))) || BRn F wk k day n
theorem BRn_mono {F : Nat → Nat → Int32} {wk k day : Int32} {n m : Nat} (h : n ≤ m) (t : BRn F wk k day n = true) : BRn F wk k day m = true := by
  induction m with
  | zero => rw [Nat.le_zero.mp h] at t; exact t
  | succ m ih =>
    rcases Nat.lt_or_ge m n with q | q
    · rw [show m + 1 = n by omega]; exact t
    · rw [BRn.eq_2, ih q, Bool.or_true]
/-- owed for fact f -/
def OWV (pd : Nat → Nat → Int32) (pl tm : Int32) (A : Ac) (F : Nat → Nat → Int32) (wk k : Int32) (nf f : Nat) : Int32 :=
  if BRn F wk k (F 2 f) nf = true then 0 else if AVG pd pl tm A ((F 2 f).toNatClampNeg / 7) * F 3 f / A.1 2 - F 4 f ≤ 0 then 0 else AVG pd pl tm A ((F 2 f).toNatClampNeg / 7) * F 3 f / A.1 2 - F 4 f
def OMK (pd : Nat → Nat → Int32) (pl tm : Int32) (A : Ac) (F : Nat → Nat → Int32) (f : Nat) : Int32 := nI (AVR pd pl tm A ((F 2 f).toNatClampNeg / 7)).2.2
theorem mx0 (x : Int32) : mxI 0 x = if x ≤ 0 then 0 else x := by
  unfold mxI
  by_cases h : x ≤ 0
  · rw [if_pos h, if_neg (Int32.not_lt.mpr h)]
  · rw [if_neg h, if_pos (Int32.not_le.mp h)]
theorem c_within (x y z : Int32) (h : Hp) : f_X8_within x y z h = some (if (decide (¬ x < y) && decide (¬ z < x)) = true then 1 else 0, h) := by
  unfold f_X8_within
  by_cases c1 : x < y <;> by_cases c2 : z < x <;> simp [c1, c2, b1, zok]
theorem m_isIn (x y z : Int32) (h : Hp) : f_X9_isIn x y z h = some (if (decide (¬ x < y) && decide (¬ z < x)) = true then 1 else 0, h) := by
  unfold f_X9_isIn
  by_cases c1 : x < y <;> by_cases c2 : z < x <;> simp [c1, c2, b1, zok]
section Ow
variable {P : Nat → Prop} {g : Hp} {b : Nat} {A : Ac} {pd : Nat → Nat → Int32} {pl tm : Int32} {F : Nat → Nat → Int32} {nw nf w : Nat} {fa : Nat → Nat} {k : Int32}
theorem c_owed5 (C : CFx g F nf fa) (R : RG F nw nf) (hnf : nf ≤ 250) {f : Nat} (hf : f < nf) :
    (BRn F (nI w) k (F 2 f) nf = true ∧ f_X4_owedFor_L5 fu 27 (some (fa f)) k ((nx F (nI w) nf 0).map fa) g = some (Sum.inl g)) ∨ (BRn F (nI w) k (F 2 f) nf = false ∧ f_X4_owedFor_L5 fu 27 (some (fa f)) k ((nx F (nI w) nf 0).map fa) g = some (Sum.inr g)) := by
  obtain ⟨-, kf, -, -, f2, -⟩ := C f hf
  have gf2 : getI g (some (fa f)) 1 2 = some (F 2 f) := by rw [getI_of 2 kf, f2]
  obtain ⟨r, h1, h2⟩ := lstF (F := F) (wk := nI w) (nf := nf) (fa := fa) (fun n q (_ : Unit) => f_X4_owedFor_L5 n 27 (some (fa f)) k q g) (fun n _ => BRn F (nI w) k (F 2 f) n = false) (fun r => (r = Sum.inl g ∧ BRn F (nI w) k (F 2 f) nf = true) ∨ (r = Sum.inr g ∧ BRn F (nI w) k (F 2 f) nf = false)) (by omega)
    (by
      rintro n - I
      exact ⟨Sum.inr g, by simp only [f_X4_owedFor_L5.eq_2, ↓reduceIte], Or.inr ⟨rfl, I⟩⟩)
    (by
      rintro i - hi' he I
      have c : cnts F 4 (nI w) k i = false := by rw [Bool.eq_false_iff]; exact fun q => he (cnts_iff.mp q).2.1
      rw [BRn.eq_2, c, Bool.false_and, Bool.false_or]
      exact I)
    (by
      rintro n i - hi' he I
      obtain ⟨c0, c1, c2, c3, c4, c5, c6, c7, c8, c9, c10⟩ := C i hi'
      have K : FK g (fa i) := c1
      have cc := c_counts (F := F) (f := i) c1 c7 c9 (R.1 i hi').2.2.2.2.2.2.2.2 k
      rw [he] at c10
      by_cases s4 : F 0 i = 4
      · have ec := ctk_cnts (k := k) s4 he
        rw [← ec] at cc
        rw [s4] at c3
        by_cases c : cnts F 4 (nI w) k i = true
        · rw [if_pos c] at cc
          have ew := c_within (F 2 f) (F 2 i) (F 3 i) g
          by_cases y : (decide (¬ F 2 f < F 2 i) && decide (¬ F 3 i < F 2 f)) = true
          · rw [if_pos y] at ew
            left
            refine ⟨Sum.inl g, ?_, Or.inl ⟨rfl, BRn_mono (n := i + 1) hi' ?_⟩⟩
            · simp only [f_X4_owedFor_L5.eq_2]
              simp (disch := (first | assumption | (simp only [FX_si, FX_sj, FX_sr, WX_si, WX_sj, WX_sr, FK_si, FK_sj, FK_sr]; assumption) | omega | decide)) only [c3, cc, gf2, c4, c5, ew, ↓reduceIte, if_true, if_false, i10, i01, eq_self, wq7, wq8, wq9, wq10, wrc, wgi, wpi, wpz, wn1, wn2, wn3, wn4, wr1, wr2, wr3, wr4, ww1, ww2, ww3, ww4, fgi, fgq, fpi, frc, at18, at19, at21, at22, at23, at24, at25, at26, at_neg, wat1, wat2, wat3, wat4, reduceCtorEq, bd_some, b1_some, b2_some, b3_some, b4_some, c1_eq, elim_inl, elim_inr, zok0, zok1, getQ_si, getQ_sj, getQ_sr, q8_0, q8_1, q8_2, q8_4, q8_7, q8_8, q8_9, q8_10, q8_11, q9_0, q9_3, q9_4, q9_8, q17_0, q17_1, q17_2, q17_4, q17_5, q17_6, q17_9, q17_10, q17_11, q27_4, q27_5, q27_6, q27_7, q27_8, q27_11, q45_0, q45_1, q45_11, q45_12, q45_13, q45_14, q45_15, q45_16, q45_17, q45_18, q45_19, q45_20, q45_21, q45_22, q45_23, q45_24, q45_30, q45_31, q45_32, q45_33, q45_34, q45_35, q45_36, q45_37, q45_38, q45_39, q45_43, q45_44, q45_45, q45_46, q45_47, q45_48, q45_52, q45_53, q45_54, q45_59, q45_60, q45_61, q45_62, q45_65, q45_67, q45_68, gi8, gj8, pi8, pz8, pj8, rc8, gi9, gj9, pi9, pz9, pj9, rc9, gi17, gj17, pi17, pz17, pj17, rc17, gi27, gj27, pi27, pz27, pj27, rc27, gi45, gj45, pi45, pz45, pj45, rc45, aln_si, aln_sj, aln_sq, rc_si, rc_sj, rc_sq, n0, n1, n10, n11, n12, n13, n14, n15, n16, n18, n19, n20, n21, n22, n23, n24, n25, n26, n29, n30, n31, n32, n33, n34, n35, n36, n37, n38, n39, n40, n42, n43, n44, n46, n47, n48, n49, n50, n51, n52, n53, n54, n55, n56, n57, n58, n59, n60, n61, n62, n63, n64, n65, n66, n67, n68, n69, n70, n71, n72, n73, n74, n75, n76, n77, n78, n79, n80, n81, n82, n83, n84, n85, n86, n87, r0, r1, r10, r11, r12, r13, r14, r15, r16, r18, r19, r20, r21, r22, r23, r24, r25, r26, r29, r30, r31, r32, r33, r34, r35, r36, r37, r38, r39, r40, r42, r43, r44, r46, r47, r48, r49, r50, r51, r52, r53, r54, r55, r56, r57, r58, r59, r60, r61, r62, r63, r64, r65, r66, r67, r68, r69, r70, r71, r72, r73, r74, r75, r76, r77, r78, r79, r80, r81, r82, r83, r84, r85, r86, r87, w10, w11, w12, w13, w18, w19, w20, w21, w22, w23, w24, w25, w26, w30, w31, w32, w33, w34, w35, w36, w38, w39, w40, w43, w44, w46, w47, w48, w49, w50, w51, w52, w53, w54, w55, w56, w57, w58, w59, w60, w61, w62, w63, w64, w65, w66, w67, w68, w69, w70, w71, w72, w73, w74, w75, w76, w77, w78, w79, w80, w81, w82, w83, w84, w85, w86, w87, hi_hit, hi_row, hi_col, hj_hit, hj_row, hj_col, hi_sj, hj_si, hq_si, hq_sj, hi_sq, hj_sq, hi_srh, hi_srm]
            · rw [BRn.eq_2, c, y]
              rfl
          · rw [if_neg y] at ew
            right
            refine ⟨(), ?_, ?_⟩
            · simp only [f_X4_owedFor_L5.eq_2]
              simp (disch := (first | assumption | (simp only [FX_si, FX_sj, FX_sr, WX_si, WX_sj, WX_sr, FK_si, FK_sj, FK_sr]; assumption) | omega | decide)) only [c3, cc, gf2, c4, c5, ew, c10, ↓reduceIte, if_true, if_false, i10, i01, eq_self, wq7, wq8, wq9, wq10, wrc, wgi, wpi, wpz, wn1, wn2, wn3, wn4, wr1, wr2, wr3, wr4, ww1, ww2, ww3, ww4, fgi, fgq, fpi, frc, at18, at19, at21, at22, at23, at24, at25, at26, at_neg, wat1, wat2, wat3, wat4, reduceCtorEq, bd_some, b1_some, b2_some, b3_some, b4_some, c1_eq, elim_inl, elim_inr, zok0, zok1, getQ_si, getQ_sj, getQ_sr, q8_0, q8_1, q8_2, q8_4, q8_7, q8_8, q8_9, q8_10, q8_11, q9_0, q9_3, q9_4, q9_8, q17_0, q17_1, q17_2, q17_4, q17_5, q17_6, q17_9, q17_10, q17_11, q27_4, q27_5, q27_6, q27_7, q27_8, q27_11, q45_0, q45_1, q45_11, q45_12, q45_13, q45_14, q45_15, q45_16, q45_17, q45_18, q45_19, q45_20, q45_21, q45_22, q45_23, q45_24, q45_30, q45_31, q45_32, q45_33, q45_34, q45_35, q45_36, q45_37, q45_38, q45_39, q45_43, q45_44, q45_45, q45_46, q45_47, q45_48, q45_52, q45_53, q45_54, q45_59, q45_60, q45_61, q45_62, q45_65, q45_67, q45_68, gi8, gj8, pi8, pz8, pj8, rc8, gi9, gj9, pi9, pz9, pj9, rc9, gi17, gj17, pi17, pz17, pj17, rc17, gi27, gj27, pi27, pz27, pj27, rc27, gi45, gj45, pi45, pz45, pj45, rc45, aln_si, aln_sj, aln_sq, rc_si, rc_sj, rc_sq, n0, n1, n10, n11, n12, n13, n14, n15, n16, n18, n19, n20, n21, n22, n23, n24, n25, n26, n29, n30, n31, n32, n33, n34, n35, n36, n37, n38, n39, n40, n42, n43, n44, n46, n47, n48, n49, n50, n51, n52, n53, n54, n55, n56, n57, n58, n59, n60, n61, n62, n63, n64, n65, n66, n67, n68, n69, n70, n71, n72, n73, n74, n75, n76, n77, n78, n79, n80, n81, n82, n83, n84, n85, n86, n87, r0, r1, r10, r11, r12, r13, r14, r15, r16, r18, r19, r20, r21, r22, r23, r24, r25, r26, r29, r30, r31, r32, r33, r34, r35, r36, r37, r38, r39, r40, r42, r43, r44, r46, r47, r48, r49, r50, r51, r52, r53, r54, r55, r56, r57, r58, r59, r60, r61, r62, r63, r64, r65, r66, r67, r68, r69, r70, r71, r72, r73, r74, r75, r76, r77, r78, r79, r80, r81, r82, r83, r84, r85, r86, r87, w10, w11, w12, w13, w18, w19, w20, w21, w22, w23, w24, w25, w26, w30, w31, w32, w33, w34, w35, w36, w38, w39, w40, w43, w44, w46, w47, w48, w49, w50, w51, w52, w53, w54, w55, w56, w57, w58, w59, w60, w61, w62, w63, w64, w65, w66, w67, w68, w69, w70, w71, w72, w73, w74, w75, w76, w77, w78, w79, w80, w81, w82, w83, w84, w85, w86, w87, hi_hit, hi_row, hi_col, hj_hit, hj_row, hj_col, hi_sj, hj_si, hq_si, hq_sj, hi_sq, hj_sq, hi_srh, hi_srm]
            · rw [BRn.eq_2, c, Bool.eq_false_iff.mpr y, Bool.and_false, Bool.false_or]
              exact I
        · rw [if_neg c] at cc
          right
          refine ⟨(), ?_, ?_⟩
          · simp only [f_X4_owedFor_L5.eq_2]
            simp (disch := (first | assumption | (simp only [FX_si, FX_sj, FX_sr, WX_si, WX_sj, WX_sr, FK_si, FK_sj, FK_sr]; assumption) | omega | decide)) only [c3, cc, c10, ↓reduceIte, if_true, if_false, i10, i01, eq_self, wq7, wq8, wq9, wq10, wrc, wgi, wpi, wpz, wn1, wn2, wn3, wn4, wr1, wr2, wr3, wr4, ww1, ww2, ww3, ww4, fgi, fgq, fpi, frc, at18, at19, at21, at22, at23, at24, at25, at26, at_neg, wat1, wat2, wat3, wat4, reduceCtorEq, bd_some, b1_some, b2_some, b3_some, b4_some, c1_eq, elim_inl, elim_inr, zok0, zok1, getQ_si, getQ_sj, getQ_sr, q8_0, q8_1, q8_2, q8_4, q8_7, q8_8, q8_9, q8_10, q8_11, q9_0, q9_3, q9_4, q9_8, q17_0, q17_1, q17_2, q17_4, q17_5, q17_6, q17_9, q17_10, q17_11, q27_4, q27_5, q27_6, q27_7, q27_8, q27_11, q45_0, q45_1, q45_11, q45_12, q45_13, q45_14, q45_15, q45_16, q45_17, q45_18, q45_19, q45_20, q45_21, q45_22, q45_23, q45_24, q45_30, q45_31, q45_32, q45_33, q45_34, q45_35, q45_36, q45_37, q45_38, q45_39, q45_43, q45_44, q45_45, q45_46, q45_47, q45_48, q45_52, q45_53, q45_54, q45_59, q45_60, q45_61, q45_62, q45_65, q45_67, q45_68, gi8, gj8, pi8, pz8, pj8, rc8, gi9, gj9, pi9, pz9, pj9, rc9, gi17, gj17, pi17, pz17, pj17, rc17, gi27, gj27, pi27, pz27, pj27, rc27, gi45, gj45, pi45, pz45, pj45, rc45, aln_si, aln_sj, aln_sq, rc_si, rc_sj, rc_sq, n0, n1, n10, n11, n12, n13, n14, n15, n16, n18, n19, n20, n21, n22, n23, n24, n25, n26, n29, n30, n31, n32, n33, n34, n35, n36, n37, n38, n39, n40, n42, n43, n44, n46, n47, n48, n49, n50, n51, n52, n53, n54, n55, n56, n57, n58, n59, n60, n61, n62, n63, n64, n65, n66, n67, n68, n69, n70, n71, n72, n73, n74, n75, n76, n77, n78, n79, n80, n81, n82, n83, n84, n85, n86, n87, r0, r1, r10, r11, r12, r13, r14, r15, r16, r18, r19, r20, r21, r22, r23, r24, r25, r26, r29, r30, r31, r32, r33, r34, r35, r36, r37, r38, r39, r40, r42, r43, r44, r46, r47, r48, r49, r50, r51, r52, r53, r54, r55, r56, r57, r58, r59, r60, r61, r62, r63, r64, r65, r66, r67, r68, r69, r70, r71, r72, r73, r74, r75, r76, r77, r78, r79, r80, r81, r82, r83, r84, r85, r86, r87, w10, w11, w12, w13, w18, w19, w20, w21, w22, w23, w24, w25, w26, w30, w31, w32, w33, w34, w35, w36, w38, w39, w40, w43, w44, w46, w47, w48, w49, w50, w51, w52, w53, w54, w55, w56, w57, w58, w59, w60, w61, w62, w63, w64, w65, w66, w67, w68, w69, w70, w71, w72, w73, w74, w75, w76, w77, w78, w79, w80, w81, w82, w83, w84, w85, w86, w87, hi_hit, hi_row, hi_col, hj_hit, hj_row, hj_col, hi_sj, hj_si, hq_si, hq_sj, hi_sq, hj_sq, hi_srh, hi_srm]
          · rw [BRn.eq_2, Bool.eq_false_iff.mpr c, Bool.false_and, Bool.false_or]
            exact I
      · have c : cnts F 4 (nI w) k i = false := by rw [Bool.eq_false_iff]; exact fun q => s4 (cnts_iff.mp q).1
        have s4' : ¬ hi g (fa i) 1 = 4 := by rw [c3]; exact s4
        right
        refine ⟨(), ?_, ?_⟩
        · simp only [f_X4_owedFor_L5.eq_2]
          simp (disch := (first | assumption | (simp only [FX_si, FX_sj, FX_sr, WX_si, WX_sj, WX_sr, FK_si, FK_sj, FK_sr]; assumption) | omega | decide)) only [s4', c10, ↓reduceIte, if_true, if_false, i10, i01, eq_self, wq7, wq8, wq9, wq10, wrc, wgi, wpi, wpz, wn1, wn2, wn3, wn4, wr1, wr2, wr3, wr4, ww1, ww2, ww3, ww4, fgi, fgq, fpi, frc, at18, at19, at21, at22, at23, at24, at25, at26, at_neg, wat1, wat2, wat3, wat4, reduceCtorEq, bd_some, b1_some, b2_some, b3_some, b4_some, c1_eq, elim_inl, elim_inr, zok0, zok1, getQ_si, getQ_sj, getQ_sr, q8_0, q8_1, q8_2, q8_4, q8_7, q8_8, q8_9, q8_10, q8_11, q9_0, q9_3, q9_4, q9_8, q17_0, q17_1, q17_2, q17_4, q17_5, q17_6, q17_9, q17_10, q17_11, q27_4, q27_5, q27_6, q27_7, q27_8, q27_11, q45_0, q45_1, q45_11, q45_12, q45_13, q45_14, q45_15, q45_16, q45_17, q45_18, q45_19, q45_20, q45_21, q45_22, q45_23, q45_24, q45_30, q45_31, q45_32, q45_33, q45_34, q45_35, q45_36, q45_37, q45_38, q45_39, q45_43, q45_44, q45_45, q45_46, q45_47, q45_48, q45_52, q45_53, q45_54, q45_59, q45_60, q45_61, q45_62, q45_65, q45_67, q45_68, gi8, gj8, pi8, pz8, pj8, rc8, gi9, gj9, pi9, pz9, pj9, rc9, gi17, gj17, pi17, pz17, pj17, rc17, gi27, gj27, pi27, pz27, pj27, rc27, gi45, gj45, pi45, pz45, pj45, rc45, aln_si, aln_sj, aln_sq, rc_si, rc_sj, rc_sq, n0, n1, n10, n11, n12, n13, n14, n15, n16, n18, n19, n20, n21, n22, n23, n24, n25, n26, n29, n30, n31, n32, n33, n34, n35, n36, n37, n38, n39, n40, n42, n43, n44, n46, n47, n48, n49, n50, n51, n52, n53, n54, n55, n56, n57, n58, n59, n60, n61, n62, n63, n64, n65, n66, n67, n68, n69, n70, n71, n72, n73, n74, n75, n76, n77, n78, n79, n80, n81, n82, n83, n84, n85, n86, n87, r0, r1, r10, r11, r12, r13, r14, r15, r16, r18, r19, r20, r21, r22, r23, r24, r25, r26, r29, r30, r31, r32, r33, r34, r35, r36, r37, r38, r39, r40, r42, r43, r44, r46, r47, r48, r49, r50, r51, r52, r53, r54, r55, r56, r57, r58, r59, r60, r61, r62, r63, r64, r65, r66, r67, r68, r69, r70, r71, r72, r73, r74, r75, r76, r77, r78, r79, r80, r81, r82, r83, r84, r85, r86, r87, w10, w11, w12, w13, w18, w19, w20, w21, w22, w23, w24, w25, w26, w30, w31, w32, w33, w34, w35, w36, w38, w39, w40, w43, w44, w46, w47, w48, w49, w50, w51, w52, w53, w54, w55, w56, w57, w58, w59, w60, w61, w62, w63, w64, w65, w66, w67, w68, w69, w70, w71, w72, w73, w74, w75, w76, w77, w78, w79, w80, w81, w82, w83, w84, w85, w86, w87, hi_hit, hi_row, hi_col, hj_hit, hj_row, hj_col, hi_sj, hj_si, hq_si, hq_sj, hi_sq, hj_sq, hi_srh, hi_srm]
        · rw [BRn.eq_2, c, Bool.false_and, Bool.false_or]
          exact I) (s := ()) rfl
  rcases h2 with ⟨rfl, q⟩ | ⟨rfl, q⟩
  · exact Or.inl ⟨q, h1⟩
  · exact Or.inr ⟨q, h1⟩
theorem c_owed (hP : ∀ x, P x → OKA x) (ok : AOK A) (hpos : ∀ i u, i < 5 → u < 104 → 0 ≤ pd i u) (S : SHT P g b A pd pl tm) (C : CFx g F nf fa) (R : RG F nw nf) (hnf : nf ≤ 250) (h1 : hq g 27 1 = (nx F (nI w) nf 0).map fa) {f : Nat} (hf : f < nf) (hs : F 0 f = 3) :
    ∃ g', f_X4_owedFor 27 (some (fa f)) k g = some (OWV pd pl tm A F (nI w) k nf f, g') ∧ Fr [33, 34, 35, 36] [(27, 9), (27, 10)] g g' ∧ SHT P g' b A pd pl tm ∧ (¬ OWV pd pl tm A F (nI w) k nf f ≤ 0 → hi g' 27 10 = OMK pd pl tm A F f) := by
  have X := S.1
  obtain ⟨d, n, p, r1, r2, r3, r4, r5, r6, r7⟩ := (R.1 f hf).2.2.2.2.1 hs
  have gq1 : getQ g (some 27) 4 1 = some ((nx F (nI w) nf 0).map fa) := by rw [getQ_of 1 (k27 X), h1]
  rcases c_owed5 (w := w) (k := k) C R hnf hf with ⟨q, e⟩ | ⟨q, e⟩
  · have ev : OWV pd pl tm A F (nI w) k nf f = 0 := by unfold OWV; rw [if_pos q]
    refine ⟨g, ?_, Fr.rfl, S, fun z => ?_⟩
    · unfold f_X4_owedFor
      rw [gq1, bd_some, e, bd_some, elim_inl, ev]
    · rw [ev] at z
      exact absurd (Int32.le_refl 0) z
  · have ok' := ok
    obtain ⟨-, -, -, -, ⟨n2, o1, o2, o3⟩, -⟩ := ok'
    obtain ⟨g2, a1, a2, a3, a4, a5⟩ := c_avg hP ok hpos S (day := d) (by omega)
    have X2 := a5.1
    obtain ⟨c0, c1, c2, c3, c4, c5, c6, c7, c8, c9, c10⟩ := C f hf
    have K : FK g (fa f) := c1
    have K2 : FK g2 (fa f) := by unfold FK; rw [hk_fr a4]; exact c1
    have same : ∀ j, j < 9 → hi g2 (fa f) j = hi g (fa f) j := fun j hj => a4.2.2.1 (fa f) j (by simp; omega) (by simp; omega)
    have gq0 : getQ g (some 27) 4 0 = some (some b) := by rw [getQ_of 0 (k27 X), S.2.1]
    have rcb : rc g (some b) 0 = some b := by
      obtain ⟨rb, nb, p1, p2, p3, p4, -⟩ := S.2.2.1
      exact rc_eq p4
    have en2 : f_X0_number b 2 g = some (nI n2, g) := by have := f_num S.2.2.1 (n := 2) (by omega); rw [o3] at this; exact this
    have n0 : ¬ nI n2 ≤ 0 := nI_nle (by omega) (by omega)
    have dv : dvI (AVG pd pl tm A (d / 7) * nI n) (nI n2) = some (AVG pd pl tm A (d / 7) * nI n / nI n2) := if_neg (nI_ne0 (by omega) (by omega))
    have e2 : (F 2 f).toNatClampNeg / 7 = d / 7 := by rw [r5, nI_tn (by omega)]
    refine ⟨g2, ?_, a4, a5, fun _ => by rw [a3]; unfold OMK; rw [e2]⟩
    have ev : OWV pd pl tm A F (nI w) k nf f = mxI 0 (AVG pd pl tm A (d / 7) * nI n / nI n2 - nI p) := by
      unfold OWV
      rw [q, if_neg (by decide), e2, r6, r7, o3, mx0]
    rw [ev]
    rw [r5] at c4
    rw [r6] at c5
    rw [r7] at c6
    have s3 := same 3 (by omega)
    have s4 := same 4 (by omega)
    unfold f_X4_owedFor
    rw [gq1, bd_some, e, bd_some, elim_inr]
    simp (disch := (first | assumption | (simp only [FX_si, FX_sj, FX_sr, WX_si, WX_sj, WX_sr, FK_si, FK_sj, FK_sr]; assumption) | omega | decide)) only [gq0, rcb, en2, n0, c4, a1, s3, c5, dv, s4, c6, ↓reduceIte, if_true, if_false, i10, i01, eq_self, wq7, wq8, wq9, wq10, wrc, wgi, wpi, wpz, wn1, wn2, wn3, wn4, wr1, wr2, wr3, wr4, ww1, ww2, ww3, ww4, fgi, fgq, fpi, frc, at18, at19, at21, at22, at23, at24, at25, at26, at_neg, wat1, wat2, wat3, wat4, reduceCtorEq, bd_some, b1_some, b2_some, b3_some, b4_some, c1_eq, elim_inl, elim_inr, zok0, zok1, getQ_si, getQ_sj, getQ_sr, q8_0, q8_1, q8_2, q8_4, q8_7, q8_8, q8_9, q8_10, q8_11, q9_0, q9_3, q9_4, q9_8, q17_0, q17_1, q17_2, q17_4, q17_5, q17_6, q17_9, q17_10, q17_11, q27_4, q27_5, q27_6, q27_7, q27_8, q27_11, q45_0, q45_1, q45_11, q45_12, q45_13, q45_14, q45_15, q45_16, q45_17, q45_18, q45_19, q45_20, q45_21, q45_22, q45_23, q45_24, q45_30, q45_31, q45_32, q45_33, q45_34, q45_35, q45_36, q45_37, q45_38, q45_39, q45_43, q45_44, q45_45, q45_46, q45_47, q45_48, q45_52, q45_53, q45_54, q45_59, q45_60, q45_61, q45_62, q45_65, q45_67, q45_68, gi8, gj8, pi8, pz8, pj8, rc8, gi9, gj9, pi9, pz9, pj9, rc9, gi17, gj17, pi17, pz17, pj17, rc17, gi27, gj27, pi27, pz27, pj27, rc27, gi45, gj45, pi45, pz45, pj45, rc45, aln_si, aln_sj, aln_sq, rc_si, rc_sj, rc_sq, n0, n1, n10, n11, n12, n13, n14, n15, n16, n18, n19, n20, n21, n22, n23, n24, n25, n26, n29, n30, n31, n32, n33, n34, n35, n36, n37, n38, n39, n40, n42, n43, n44, n46, n47, n48, n49, n50, n51, n52, n53, n54, n55, n56, n57, n58, n59, n60, n61, n62, n63, n64, n65, n66, n67, n68, n69, n70, n71, n72, n73, n74, n75, n76, n77, n78, n79, n80, n81, n82, n83, n84, n85, n86, n87, r0, r1, r10, r11, r12, r13, r14, r15, r16, r18, r19, r20, r21, r22, r23, r24, r25, r26, r29, r30, r31, r32, r33, r34, r35, r36, r37, r38, r39, r40, r42, r43, r44, r46, r47, r48, r49, r50, r51, r52, r53, r54, r55, r56, r57, r58, r59, r60, r61, r62, r63, r64, r65, r66, r67, r68, r69, r70, r71, r72, r73, r74, r75, r76, r77, r78, r79, r80, r81, r82, r83, r84, r85, r86, r87, w10, w11, w12, w13, w18, w19, w20, w21, w22, w23, w24, w25, w26, w30, w31, w32, w33, w34, w35, w36, w38, w39, w40, w43, w44, w46, w47, w48, w49, w50, w51, w52, w53, w54, w55, w56, w57, w58, w59, w60, w61, w62, w63, w64, w65, w66, w67, w68, w69, w70, w71, w72, w73, w74, w75, w76, w77, w78, w79, w80, w81, w82, w83, w84, w85, w86, w87, hi_hit, hi_row, hi_col, hj_hit, hj_row, hj_col, hi_sj, hj_si, hq_si, hq_sj, hi_sq, hj_sq, hi_srh, hi_srm]
theorem m_barred (X : FX g) (hnf : nf ≤ 250) (e41 : hi g 45 41 = nI nf) {f : Nat} (hf : f < nf) : f_X9_isBarred 45 (nI f) k g = some (if BRn (vF g) (vF g 1 f) k (vF g 2 f) nf = true then 1 else 0, g) := by
  have h250 : f < 250 := by omega
  obtain ⟨r, h1, h2⟩ := forN (fun n i (_ : Unit) => f_X9_isBarred_L2 n 45 (nI f) k i g) nf (by omega) (fun i _ => BRn (vF g) (vF g 1 f) k (vF g 2 f) i = false) (fun r => (r = Sum.inl g ∧ BRn (vF g) (vF g 1 f) k (vF g 2 f) nf = true) ∨ (r = Sum.inr g ∧ BRn (vF g) (vF g 1 f) k (vF g 2 f) nf = false))
    (by
      rintro n - I
      refine ⟨Sum.inr g, ?_, Or.inr ⟨rfl, I⟩⟩
      simp only [f_X9_isBarred_L2.eq_2]
      simp (disch := (first | assumption | (simp only [FX_si, FX_sj, FX_sr, WX_si, WX_sj, WX_sr, FK_si, FK_sj, FK_sr]; assumption) | omega | decide)) only [e41, ↓reduceIte, if_true, if_false, i10, i01, eq_self, wq7, wq8, wq9, wq10, wrc, wgi, wpi, wpz, wn1, wn2, wn3, wn4, wr1, wr2, wr3, wr4, ww1, ww2, ww3, ww4, fgi, fgq, fpi, frc, at18, at19, at21, at22, at23, at24, at25, at26, at_neg, wat1, wat2, wat3, wat4, reduceCtorEq, bd_some, b1_some, b2_some, b3_some, b4_some, c1_eq, elim_inl, elim_inr, zok0, zok1, getQ_si, getQ_sj, getQ_sr, q8_0, q8_1, q8_2, q8_4, q8_7, q8_8, q8_9, q8_10, q8_11, q9_0, q9_3, q9_4, q9_8, q17_0, q17_1, q17_2, q17_4, q17_5, q17_6, q17_9, q17_10, q17_11, q27_4, q27_5, q27_6, q27_7, q27_8, q27_11, q45_0, q45_1, q45_11, q45_12, q45_13, q45_14, q45_15, q45_16, q45_17, q45_18, q45_19, q45_20, q45_21, q45_22, q45_23, q45_24, q45_30, q45_31, q45_32, q45_33, q45_34, q45_35, q45_36, q45_37, q45_38, q45_39, q45_43, q45_44, q45_45, q45_46, q45_47, q45_48, q45_52, q45_53, q45_54, q45_59, q45_60, q45_61, q45_62, q45_65, q45_67, q45_68, gi8, gj8, pi8, pz8, pj8, rc8, gi9, gj9, pi9, pz9, pj9, rc9, gi17, gj17, pi17, pz17, pj17, rc17, gi27, gj27, pi27, pz27, pj27, rc27, gi45, gj45, pi45, pz45, pj45, rc45, aln_si, aln_sj, aln_sq, rc_si, rc_sj, rc_sq, n0, n1, n10, n11, n12, n13, n14, n15, n16, n18, n19, n20, n21, n22, n23, n24, n25, n26, n29, n30, n31, n32, n33, n34, n35, n36, n37, n38, n39, n40, n42, n43, n44, n46, n47, n48, n49, n50, n51, n52, n53, n54, n55, n56, n57, n58, n59, n60, n61, n62, n63, n64, n65, n66, n67, n68, n69, n70, n71, n72, n73, n74, n75, n76, n77, n78, n79, n80, n81, n82, n83, n84, n85, n86, n87, r0, r1, r10, r11, r12, r13, r14, r15, r16, r18, r19, r20, r21, r22, r23, r24, r25, r26, r29, r30, r31, r32, r33, r34, r35, r36, r37, r38, r39, r40, r42, r43, r44, r46, r47, r48, r49, r50, r51, r52, r53, r54, r55, r56, r57, r58, r59, r60, r61, r62, r63, r64, r65, r66, r67, r68, r69, r70, r71, r72, r73, r74, r75, r76, r77, r78, r79, r80, r81, r82, r83, r84, r85, r86, r87, w10, w11, w12, w13, w18, w19, w20, w21, w22, w23, w24, w25, w26, w30, w31, w32, w33, w34, w35, w36, w38, w39, w40, w43, w44, w46, w47, w48, w49, w50, w51, w52, w53, w54, w55, w56, w57, w58, w59, w60, w61, w62, w63, w64, w65, w66, w67, w68, w69, w70, w71, w72, w73, w74, w75, w76, w77, w78, w79, w80, w81, w82, w83, w84, w85, w86, w87, hi_hit, hi_row, hi_col, hj_hit, hj_row, hj_col, hi_sj, hj_si, hq_si, hq_sj, hi_sq, hj_sq, hi_srh, hi_srm]
      rw [if_pos (Int32.le_refl _)])
    (by
      rintro n i - hi' I
      have n0 : ¬ nI nf ≤ nI i := by rw [nI_leI (by omega) (by omega)]; omega
      have i250 : i < 250 := by omega
      have mc' := m_counts X i250 4 (vF g 1 f) k
      have e1 : hi g 65 f = vF g 1 f := rfl
      have e2 : hi g 66 f = vF g 2 f := rfl
      have e3 : hi g 66 i = vF g 2 i := rfl
      have e4 : hi g 67 i = vF g 3 i := rfl
      by_cases c : cnts (vF g) 4 (vF g 1 f) k i = true
      · rw [if_pos c] at mc'
        have ew := m_isIn (vF g 2 f) (vF g 2 i) (vF g 3 i) g
        by_cases y : (decide (¬ vF g 2 f < vF g 2 i) && decide (¬ vF g 3 i < vF g 2 f)) = true
        · rw [if_pos y] at ew
          left
          refine ⟨Sum.inl g, ?_, Or.inl ⟨rfl, BRn_mono (n := i + 1) hi' ?_⟩⟩
          · simp only [f_X9_isBarred_L2.eq_2]
            simp (disch := (first | assumption | (simp only [FX_si, FX_sj, FX_sr, WX_si, WX_sj, WX_sr, FK_si, FK_sj, FK_sr]; assumption) | omega | decide)) only [e41, n0, e1, e2, e3, e4, mc', ew, ↓reduceIte, if_true, if_false, i10, i01, eq_self, wq7, wq8, wq9, wq10, wrc, wgi, wpi, wpz, wn1, wn2, wn3, wn4, wr1, wr2, wr3, wr4, ww1, ww2, ww3, ww4, fgi, fgq, fpi, frc, at18, at19, at21, at22, at23, at24, at25, at26, at_neg, wat1, wat2, wat3, wat4, reduceCtorEq, bd_some, b1_some, b2_some, b3_some, b4_some, c1_eq, elim_inl, elim_inr, zok0, zok1, getQ_si, getQ_sj, getQ_sr, q8_0, q8_1, q8_2, q8_4, q8_7, q8_8, q8_9, q8_10, q8_11, q9_0, q9_3, q9_4, q9_8, q17_0, q17_1, q17_2, q17_4, q17_5, q17_6, q17_9, q17_10, q17_11, q27_4, q27_5, q27_6, q27_7, q27_8, q27_11, q45_0, q45_1, q45_11, q45_12, q45_13, q45_14, q45_15, q45_16, q45_17, q45_18, q45_19, q45_20, q45_21, q45_22, q45_23, q45_24, q45_30, q45_31, q45_32, q45_33, q45_34, q45_35, q45_36, q45_37, q45_38, q45_39, q45_43, q45_44, q45_45, q45_46, q45_47, q45_48, q45_52, q45_53, q45_54, q45_59, q45_60, q45_61, q45_62, q45_65, q45_67, q45_68, gi8, gj8, pi8, pz8, pj8, rc8, gi9, gj9, pi9, pz9, pj9, rc9, gi17, gj17, pi17, pz17, pj17, rc17, gi27, gj27, pi27, pz27, pj27, rc27, gi45, gj45, pi45, pz45, pj45, rc45, aln_si, aln_sj, aln_sq, rc_si, rc_sj, rc_sq, n0, n1, n10, n11, n12, n13, n14, n15, n16, n18, n19, n20, n21, n22, n23, n24, n25, n26, n29, n30, n31, n32, n33, n34, n35, n36, n37, n38, n39, n40, n42, n43, n44, n46, n47, n48, n49, n50, n51, n52, n53, n54, n55, n56, n57, n58, n59, n60, n61, n62, n63, n64, n65, n66, n67, n68, n69, n70, n71, n72, n73, n74, n75, n76, n77, n78, n79, n80, n81, n82, n83, n84, n85, n86, n87, r0, r1, r10, r11, r12, r13, r14, r15, r16, r18, r19, r20, r21, r22, r23, r24, r25, r26, r29, r30, r31, r32, r33, r34, r35, r36, r37, r38, r39, r40, r42, r43, r44, r46, r47, r48, r49, r50, r51, r52, r53, r54, r55, r56, r57, r58, r59, r60, r61, r62, r63, r64, r65, r66, r67, r68, r69, r70, r71, r72, r73, r74, r75, r76, r77, r78, r79, r80, r81, r82, r83, r84, r85, r86, r87, w10, w11, w12, w13, w18, w19, w20, w21, w22, w23, w24, w25, w26, w30, w31, w32, w33, w34, w35, w36, w38, w39, w40, w43, w44, w46, w47, w48, w49, w50, w51, w52, w53, w54, w55, w56, w57, w58, w59, w60, w61, w62, w63, w64, w65, w66, w67, w68, w69, w70, w71, w72, w73, w74, w75, w76, w77, w78, w79, w80, w81, w82, w83, w84, w85, w86, w87, hi_hit, hi_row, hi_col, hj_hit, hj_row, hj_col, hi_sj, hj_si, hq_si, hq_sj, hi_sq, hj_sq, hi_srh, hi_srm]
          · rw [BRn.eq_2, c, y]
            rfl
        · rw [if_neg y] at ew
          right
          refine ⟨(), ?_, ?_⟩
          · simp only [f_X9_isBarred_L2.eq_2]
            simp (disch := (first | assumption | (simp only [FX_si, FX_sj, FX_sr, WX_si, WX_sj, WX_sr, FK_si, FK_sj, FK_sr]; assumption) | omega | decide)) only [e41, n0, e1, e2, e3, e4, mc', ew, nI_1, ↓reduceIte, if_true, if_false, i10, i01, eq_self, wq7, wq8, wq9, wq10, wrc, wgi, wpi, wpz, wn1, wn2, wn3, wn4, wr1, wr2, wr3, wr4, ww1, ww2, ww3, ww4, fgi, fgq, fpi, frc, at18, at19, at21, at22, at23, at24, at25, at26, at_neg, wat1, wat2, wat3, wat4, reduceCtorEq, bd_some, b1_some, b2_some, b3_some, b4_some, c1_eq, elim_inl, elim_inr, zok0, zok1, getQ_si, getQ_sj, getQ_sr, q8_0, q8_1, q8_2, q8_4, q8_7, q8_8, q8_9, q8_10, q8_11, q9_0, q9_3, q9_4, q9_8, q17_0, q17_1, q17_2, q17_4, q17_5, q17_6, q17_9, q17_10, q17_11, q27_4, q27_5, q27_6, q27_7, q27_8, q27_11, q45_0, q45_1, q45_11, q45_12, q45_13, q45_14, q45_15, q45_16, q45_17, q45_18, q45_19, q45_20, q45_21, q45_22, q45_23, q45_24, q45_30, q45_31, q45_32, q45_33, q45_34, q45_35, q45_36, q45_37, q45_38, q45_39, q45_43, q45_44, q45_45, q45_46, q45_47, q45_48, q45_52, q45_53, q45_54, q45_59, q45_60, q45_61, q45_62, q45_65, q45_67, q45_68, gi8, gj8, pi8, pz8, pj8, rc8, gi9, gj9, pi9, pz9, pj9, rc9, gi17, gj17, pi17, pz17, pj17, rc17, gi27, gj27, pi27, pz27, pj27, rc27, gi45, gj45, pi45, pz45, pj45, rc45, aln_si, aln_sj, aln_sq, rc_si, rc_sj, rc_sq, n0, n1, n10, n11, n12, n13, n14, n15, n16, n18, n19, n20, n21, n22, n23, n24, n25, n26, n29, n30, n31, n32, n33, n34, n35, n36, n37, n38, n39, n40, n42, n43, n44, n46, n47, n48, n49, n50, n51, n52, n53, n54, n55, n56, n57, n58, n59, n60, n61, n62, n63, n64, n65, n66, n67, n68, n69, n70, n71, n72, n73, n74, n75, n76, n77, n78, n79, n80, n81, n82, n83, n84, n85, n86, n87, r0, r1, r10, r11, r12, r13, r14, r15, r16, r18, r19, r20, r21, r22, r23, r24, r25, r26, r29, r30, r31, r32, r33, r34, r35, r36, r37, r38, r39, r40, r42, r43, r44, r46, r47, r48, r49, r50, r51, r52, r53, r54, r55, r56, r57, r58, r59, r60, r61, r62, r63, r64, r65, r66, r67, r68, r69, r70, r71, r72, r73, r74, r75, r76, r77, r78, r79, r80, r81, r82, r83, r84, r85, r86, r87, w10, w11, w12, w13, w18, w19, w20, w21, w22, w23, w24, w25, w26, w30, w31, w32, w33, w34, w35, w36, w38, w39, w40, w43, w44, w46, w47, w48, w49, w50, w51, w52, w53, w54, w55, w56, w57, w58, w59, w60, w61, w62, w63, w64, w65, w66, w67, w68, w69, w70, w71, w72, w73, w74, w75, w76, w77, w78, w79, w80, w81, w82, w83, w84, w85, w86, w87, hi_hit, hi_row, hi_col, hj_hit, hj_row, hj_col, hi_sj, hj_si, hq_si, hq_sj, hi_sq, hj_sq, hi_srh, hi_srm]
          · rw [BRn.eq_2, c, Bool.eq_false_iff.mpr y, Bool.and_false, Bool.false_or]
            exact I
      · rw [if_neg c] at mc'
        right
        refine ⟨(), ?_, ?_⟩
        · simp only [f_X9_isBarred_L2.eq_2]
          simp (disch := (first | assumption | (simp only [FX_si, FX_sj, FX_sr, WX_si, WX_sj, WX_sr, FK_si, FK_sj, FK_sr]; assumption) | omega | decide)) only [e41, n0, e1, mc', nI_1, ↓reduceIte, if_true, if_false, i10, i01, eq_self, wq7, wq8, wq9, wq10, wrc, wgi, wpi, wpz, wn1, wn2, wn3, wn4, wr1, wr2, wr3, wr4, ww1, ww2, ww3, ww4, fgi, fgq, fpi, frc, at18, at19, at21, at22, at23, at24, at25, at26, at_neg, wat1, wat2, wat3, wat4, reduceCtorEq, bd_some, b1_some, b2_some, b3_some, b4_some, c1_eq, elim_inl, elim_inr, zok0, zok1, getQ_si, getQ_sj, getQ_sr, q8_0, q8_1, q8_2, q8_4, q8_7, q8_8, q8_9, q8_10, q8_11, q9_0, q9_3, q9_4, q9_8, q17_0, q17_1, q17_2, q17_4, q17_5, q17_6, q17_9, q17_10, q17_11, q27_4, q27_5, q27_6, q27_7, q27_8, q27_11, q45_0, q45_1, q45_11, q45_12, q45_13, q45_14, q45_15, q45_16, q45_17, q45_18, q45_19, q45_20, q45_21, q45_22, q45_23, q45_24, q45_30, q45_31, q45_32, q45_33, q45_34, q45_35, q45_36, q45_37, q45_38, q45_39, q45_43, q45_44, q45_45, q45_46, q45_47, q45_48, q45_52, q45_53, q45_54, q45_59, q45_60, q45_61, q45_62, q45_65, q45_67, q45_68, gi8, gj8, pi8, pz8, pj8, rc8, gi9, gj9, pi9, pz9, pj9, rc9, gi17, gj17, pi17, pz17, pj17, rc17, gi27, gj27, pi27, pz27, pj27, rc27, gi45, gj45, pi45, pz45, pj45, rc45, aln_si, aln_sj, aln_sq, rc_si, rc_sj, rc_sq, n0, n1, n10, n11, n12, n13, n14, n15, n16, n18, n19, n20, n21, n22, n23, n24, n25, n26, n29, n30, n31, n32, n33, n34, n35, n36, n37, n38, n39, n40, n42, n43, n44, n46, n47, n48, n49, n50, n51, n52, n53, n54, n55, n56, n57, n58, n59, n60, n61, n62, n63, n64, n65, n66, n67, n68, n69, n70, n71, n72, n73, n74, n75, n76, n77, n78, n79, n80, n81, n82, n83, n84, n85, n86, n87, r0, r1, r10, r11, r12, r13, r14, r15, r16, r18, r19, r20, r21, r22, r23, r24, r25, r26, r29, r30, r31, r32, r33, r34, r35, r36, r37, r38, r39, r40, r42, r43, r44, r46, r47, r48, r49, r50, r51, r52, r53, r54, r55, r56, r57, r58, r59, r60, r61, r62, r63, r64, r65, r66, r67, r68, r69, r70, r71, r72, r73, r74, r75, r76, r77, r78, r79, r80, r81, r82, r83, r84, r85, r86, r87, w10, w11, w12, w13, w18, w19, w20, w21, w22, w23, w24, w25, w26, w30, w31, w32, w33, w34, w35, w36, w38, w39, w40, w43, w44, w46, w47, w48, w49, w50, w51, w52, w53, w54, w55, w56, w57, w58, w59, w60, w61, w62, w63, w64, w65, w66, w67, w68, w69, w70, w71, w72, w73, w74, w75, w76, w77, w78, w79, w80, w81, w82, w83, w84, w85, w86, w87, hi_hit, hi_row, hi_col, hj_hit, hj_row, hj_col, hi_sj, hj_si, hq_si, hq_sj, hi_sq, hj_sq, hi_srh, hi_srm]
        · rw [BRn.eq_2, Bool.eq_false_iff.mpr c, Bool.false_and, Bool.false_or]
          exact I) (i0 := 0) (s := ()) (Nat.zero_le _) rfl
  have h1' : f_X9_isBarred_L2 fu 45 (nI f) k 0 g = some r := h1
  unfold f_X9_isBarred
  rcases h2 with ⟨rfl, q⟩ | ⟨rfl, q⟩
  · rw [h1', bd_some, elim_inl, q, if_pos rfl]
  · rw [h1', bd_some, elim_inr, q, if_neg (by decide)]
theorem m_owed (X : FX g) {s : Nat} (hs : s < 5) (D : MA g s A) (ok : AOK A) (K : RCK pd pl tm A g) (R : RG (vF g) nw nf) (hnf : nf ≤ 250) (e41 : hi g 45 41 = nI nf) {f : Nat} (hf : f < nf) (h3 : vF g 0 f = 3) :
    ∃ g', f_X9_owedOf 45 (nI s) (nI f) k g = some (OWV pd pl tm A (vF g) (vF g 1 f) k nf f, g') ∧ FrM [] [56, 57, 58] g g' ∧ hi g' 45 56 = AVG pd pl tm A ((vF g 2 f).toNatClampNeg / 7) ∧ hi g' 45 57 = nI (AVR pd pl tm A ((vF g 2 f).toNatClampNeg / 7)).2.1 ∧ hi g' 45 58 = OMK pd pl tm A (vF g) f := by
  obtain ⟨d, n, p, r1, r2, r3, r4, r5, r6, r7⟩ := (R.1 f hf).2.2.2.2.1 h3
  have h250 : f < 250 := by omega
  have ok' := ok
  obtain ⟨-, -, -, -, ⟨n2, o1, o2, o3⟩, -⟩ := ok'
  obtain ⟨g2, a1, a2, a3, a4, a5⟩ := m_avg X hs D ok K h250 (day := d) (by omega) r5
  have X2 := a2.fx X
  have e2 : (vF g 2 f).toNatClampNeg / 7 = d / 7 := by rw [r5, nI_tn (by omega)]
  rw [e2]
  have v2 := vF_frE a2 (by decide)
  have bar := m_barred (k := k) X2 hnf ((a2.ef (by decide)).trans e41) hf
  rw [v2] at bar
  have k2 : hi g2 48 (7 * s + 2) = nI n2 := by rw [a2.ei _ (by decide) (by decide)]; have := D.1 2 (by omega); rw [o3] at this; exact this
  have h72 : 7 * s + 2 < 35 := by omega
  have e72 : (7 : Int32) * nI s + 2 = nI (7 * s + 2) := by rw [show (2 : Int32) = nI 2 from rfl, nI_7]
  have e67 : hi g2 67 f = nI n := by rw [a2.ei _ (by decide) (by decide)]; exact r6
  have e68 : hi g2 68 f = nI p := by rw [a2.ei _ (by decide) (by decide)]; exact r7
  have dv : dvI (AVG pd pl tm A (d / 7) * nI n) (nI n2) = some (AVG pd pl tm A (d / 7) * nI n / nI n2) := if_neg (nI_ne0 (by omega) (by omega))
  have ev : OWV pd pl tm A (vF g) (vF g 1 f) k nf f = if AVG pd pl tm A (d / 7) * nI n / nI n2 - nI p ≤ 0 then 0 else if BRn (vF g) (vF g 1 f) k (vF g 2 f) nf = true then 0 else AVG pd pl tm A (d / 7) * nI n / nI n2 - nI p := by
    unfold OWV
    rw [e2, r6, r7, o3]
    by_cases c1 : BRn (vF g) (vF g 1 f) k (vF g 2 f) nf = true
    · rw [if_pos c1, if_pos c1]
      split <;> rfl
    · rw [if_neg c1, if_neg c1]
  refine ⟨g2, ?_, a2, a3, a4, by rw [a5]; unfold OMK; rw [e2]⟩
  rw [ev]
  unfold f_X9_owedOf
  by_cases c1 : AVG pd pl tm A (d / 7) * nI n / nI n2 - nI p ≤ 0
  · simp (disch := (first | assumption | (simp only [FX_si, FX_sj, FX_sr, WX_si, WX_sj, WX_sr, FK_si, FK_sj, FK_sr]; assumption) | omega | decide)) only [a1, a3, e67, e72, k2, dv, e68, c1, ↓reduceIte, if_true, if_false, i10, i01, eq_self, wq7, wq8, wq9, wq10, wrc, wgi, wpi, wpz, wn1, wn2, wn3, wn4, wr1, wr2, wr3, wr4, ww1, ww2, ww3, ww4, fgi, fgq, fpi, frc, at18, at19, at21, at22, at23, at24, at25, at26, at_neg, wat1, wat2, wat3, wat4, reduceCtorEq, bd_some, b1_some, b2_some, b3_some, b4_some, c1_eq, elim_inl, elim_inr, zok0, zok1, getQ_si, getQ_sj, getQ_sr, q8_0, q8_1, q8_2, q8_4, q8_7, q8_8, q8_9, q8_10, q8_11, q9_0, q9_3, q9_4, q9_8, q17_0, q17_1, q17_2, q17_4, q17_5, q17_6, q17_9, q17_10, q17_11, q27_4, q27_5, q27_6, q27_7, q27_8, q27_11, q45_0, q45_1, q45_11, q45_12, q45_13, q45_14, q45_15, q45_16, q45_17, q45_18, q45_19, q45_20, q45_21, q45_22, q45_23, q45_24, q45_30, q45_31, q45_32, q45_33, q45_34, q45_35, q45_36, q45_37, q45_38, q45_39, q45_43, q45_44, q45_45, q45_46, q45_47, q45_48, q45_52, q45_53, q45_54, q45_59, q45_60, q45_61, q45_62, q45_65, q45_67, q45_68, gi8, gj8, pi8, pz8, pj8, rc8, gi9, gj9, pi9, pz9, pj9, rc9, gi17, gj17, pi17, pz17, pj17, rc17, gi27, gj27, pi27, pz27, pj27, rc27, gi45, gj45, pi45, pz45, pj45, rc45, aln_si, aln_sj, aln_sq, rc_si, rc_sj, rc_sq, n0, n1, n10, n11, n12, n13, n14, n15, n16, n18, n19, n20, n21, n22, n23, n24, n25, n26, n29, n30, n31, n32, n33, n34, n35, n36, n37, n38, n39, n40, n42, n43, n44, n46, n47, n48, n49, n50, n51, n52, n53, n54, n55, n56, n57, n58, n59, n60, n61, n62, n63, n64, n65, n66, n67, n68, n69, n70, n71, n72, n73, n74, n75, n76, n77, n78, n79, n80, n81, n82, n83, n84, n85, n86, n87, r0, r1, r10, r11, r12, r13, r14, r15, r16, r18, r19, r20, r21, r22, r23, r24, r25, r26, r29, r30, r31, r32, r33, r34, r35, r36, r37, r38, r39, r40, r42, r43, r44, r46, r47, r48, r49, r50, r51, r52, r53, r54, r55, r56, r57, r58, r59, r60, r61, r62, r63, r64, r65, r66, r67, r68, r69, r70, r71, r72, r73, r74, r75, r76, r77, r78, r79, r80, r81, r82, r83, r84, r85, r86, r87, w10, w11, w12, w13, w18, w19, w20, w21, w22, w23, w24, w25, w26, w30, w31, w32, w33, w34, w35, w36, w38, w39, w40, w43, w44, w46, w47, w48, w49, w50, w51, w52, w53, w54, w55, w56, w57, w58, w59, w60, w61, w62, w63, w64, w65, w66, w67, w68, w69, w70, w71, w72, w73, w74, w75, w76, w77, w78, w79, w80, w81, w82, w83, w84, w85, w86, w87, hi_hit, hi_row, hi_col, hj_hit, hj_row, hj_col, hi_sj, hj_si, hq_si, hq_sj, hi_sq, hj_sq, hi_srh, hi_srm]
  · by_cases c2 : BRn (vF g) (vF g 1 f) k (vF g 2 f) nf = true
    · rw [if_pos c2] at bar ⊢
      simp (disch := (first | assumption | (simp only [FX_si, FX_sj, FX_sr, WX_si, WX_sj, WX_sr, FK_si, FK_sj, FK_sr]; assumption) | omega | decide)) only [a1, a3, e67, e72, k2, dv, e68, c1, bar, ↓reduceIte, if_true, if_false, i10, i01, eq_self, wq7, wq8, wq9, wq10, wrc, wgi, wpi, wpz, wn1, wn2, wn3, wn4, wr1, wr2, wr3, wr4, ww1, ww2, ww3, ww4, fgi, fgq, fpi, frc, at18, at19, at21, at22, at23, at24, at25, at26, at_neg, wat1, wat2, wat3, wat4, reduceCtorEq, bd_some, b1_some, b2_some, b3_some, b4_some, c1_eq, elim_inl, elim_inr, zok0, zok1, getQ_si, getQ_sj, getQ_sr, q8_0, q8_1, q8_2, q8_4, q8_7, q8_8, q8_9, q8_10, q8_11, q9_0, q9_3, q9_4, q9_8, q17_0, q17_1, q17_2, q17_4, q17_5, q17_6, q17_9, q17_10, q17_11, q27_4, q27_5, q27_6, q27_7, q27_8, q27_11, q45_0, q45_1, q45_11, q45_12, q45_13, q45_14, q45_15, q45_16, q45_17, q45_18, q45_19, q45_20, q45_21, q45_22, q45_23, q45_24, q45_30, q45_31, q45_32, q45_33, q45_34, q45_35, q45_36, q45_37, q45_38, q45_39, q45_43, q45_44, q45_45, q45_46, q45_47, q45_48, q45_52, q45_53, q45_54, q45_59, q45_60, q45_61, q45_62, q45_65, q45_67, q45_68, gi8, gj8, pi8, pz8, pj8, rc8, gi9, gj9, pi9, pz9, pj9, rc9, gi17, gj17, pi17, pz17, pj17, rc17, gi27, gj27, pi27, pz27, pj27, rc27, gi45, gj45, pi45, pz45, pj45, rc45, aln_si, aln_sj, aln_sq, rc_si, rc_sj, rc_sq, n0, n1, n10, n11, n12, n13, n14, n15, n16, n18, n19, n20, n21, n22, n23, n24, n25, n26, n29, n30, n31, n32, n33, n34, n35, n36, n37, n38, n39, n40, n42, n43, n44, n46, n47, n48, n49, n50, n51, n52, n53, n54, n55, n56, n57, n58, n59, n60, n61, n62, n63, n64, n65, n66, n67, n68, n69, n70, n71, n72, n73, n74, n75, n76, n77, n78, n79, n80, n81, n82, n83, n84, n85, n86, n87, r0, r1, r10, r11, r12, r13, r14, r15, r16, r18, r19, r20, r21, r22, r23, r24, r25, r26, r29, r30, r31, r32, r33, r34, r35, r36, r37, r38, r39, r40, r42, r43, r44, r46, r47, r48, r49, r50, r51, r52, r53, r54, r55, r56, r57, r58, r59, r60, r61, r62, r63, r64, r65, r66, r67, r68, r69, r70, r71, r72, r73, r74, r75, r76, r77, r78, r79, r80, r81, r82, r83, r84, r85, r86, r87, w10, w11, w12, w13, w18, w19, w20, w21, w22, w23, w24, w25, w26, w30, w31, w32, w33, w34, w35, w36, w38, w39, w40, w43, w44, w46, w47, w48, w49, w50, w51, w52, w53, w54, w55, w56, w57, w58, w59, w60, w61, w62, w63, w64, w65, w66, w67, w68, w69, w70, w71, w72, w73, w74, w75, w76, w77, w78, w79, w80, w81, w82, w83, w84, w85, w86, w87, hi_hit, hi_row, hi_col, hj_hit, hj_row, hj_col, hi_sj, hj_si, hq_si, hq_sj, hi_sq, hj_sq, hi_srh, hi_srm]
    · rw [if_neg c2] at bar ⊢
      simp (disch := (first | assumption | (simp only [FX_si, FX_sj, FX_sr, WX_si, WX_sj, WX_sr, FK_si, FK_sj, FK_sr]; assumption) | omega | decide)) only [a1, a3, e67, e72, k2, dv, e68, c1, bar, ↓reduceIte, if_true, if_false, i10, i01, eq_self, wq7, wq8, wq9, wq10, wrc, wgi, wpi, wpz, wn1, wn2, wn3, wn4, wr1, wr2, wr3, wr4, ww1, ww2, ww3, ww4, fgi, fgq, fpi, frc, at18, at19, at21, at22, at23, at24, at25, at26, at_neg, wat1, wat2, wat3, wat4, reduceCtorEq, bd_some, b1_some, b2_some, b3_some, b4_some, c1_eq, elim_inl, elim_inr, zok0, zok1, getQ_si, getQ_sj, getQ_sr, q8_0, q8_1, q8_2, q8_4, q8_7, q8_8, q8_9, q8_10, q8_11, q9_0, q9_3, q9_4, q9_8, q17_0, q17_1, q17_2, q17_4, q17_5, q17_6, q17_9, q17_10, q17_11, q27_4, q27_5, q27_6, q27_7, q27_8, q27_11, q45_0, q45_1, q45_11, q45_12, q45_13, q45_14, q45_15, q45_16, q45_17, q45_18, q45_19, q45_20, q45_21, q45_22, q45_23, q45_24, q45_30, q45_31, q45_32, q45_33, q45_34, q45_35, q45_36, q45_37, q45_38, q45_39, q45_43, q45_44, q45_45, q45_46, q45_47, q45_48, q45_52, q45_53, q45_54, q45_59, q45_60, q45_61, q45_62, q45_65, q45_67, q45_68, gi8, gj8, pi8, pz8, pj8, rc8, gi9, gj9, pi9, pz9, pj9, rc9, gi17, gj17, pi17, pz17, pj17, rc17, gi27, gj27, pi27, pz27, pj27, rc27, gi45, gj45, pi45, pz45, pj45, rc45, aln_si, aln_sj, aln_sq, rc_si, rc_sj, rc_sq, n0, n1, n10, n11, n12, n13, n14, n15, n16, n18, n19, n20, n21, n22, n23, n24, n25, n26, n29, n30, n31, n32, n33, n34, n35, n36, n37, n38, n39, n40, n42, n43, n44, n46, n47, n48, n49, n50, n51, n52, n53, n54, n55, n56, n57, n58, n59, n60, n61, n62, n63, n64, n65, n66, n67, n68, n69, n70, n71, n72, n73, n74, n75, n76, n77, n78, n79, n80, n81, n82, n83, n84, n85, n86, n87, r0, r1, r10, r11, r12, r13, r14, r15, r16, r18, r19, r20, r21, r22, r23, r24, r25, r26, r29, r30, r31, r32, r33, r34, r35, r36, r37, r38, r39, r40, r42, r43, r44, r46, r47, r48, r49, r50, r51, r52, r53, r54, r55, r56, r57, r58, r59, r60, r61, r62, r63, r64, r65, r66, r67, r68, r69, r70, r71, r72, r73, r74, r75, r76, r77, r78, r79, r80, r81, r82, r83, r84, r85, r86, r87, w10, w11, w12, w13, w18, w19, w20, w21, w22, w23, w24, w25, w26, w30, w31, w32, w33, w34, w35, w36, w38, w39, w40, w43, w44, w46, w47, w48, w49, w50, w51, w52, w53, w54, w55, w56, w57, w58, w59, w60, w61, w62, w63, w64, w65, w66, w67, w68, w69, w70, w71, w72, w73, w74, w75, w76, w77, w78, w79, w80, w81, w82, w83, w84, w85, w86, w87, hi_hit, hi_row, hi_col, hj_hit, hj_row, hj_col, hi_sj, hj_si, hq_si, hq_sj, hi_sq, hj_sq, hi_srh, hi_srm]
end Ow
