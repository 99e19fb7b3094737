/-! Acts as data; the model's reckoning of a worker's weeks under an act. -/
/-- kind, percent, steps -/
abbrev Rl : Type := Nat × Int32 × List Nat
/-- the seven numbers, the lines, the counts lines, the empty line -/
abbrev Ac : Type := (Nat → Int32) × Int32 × List Rl × Option (List Nat)
def ROK (R : List Rl) : Prop := R.length ≤ 10 ∧ ∀ r ∈ R, r.1 < 5 ∧ (∃ p, p ≤ 100 ∧ r.2.1 = nI p) ∧ OKC r.2.2
def AOK (A : Ac) : Prop := ROK A.2.2.1 ∧ (∀ C, A.2.2.2 = some C → OKC C) ∧ (∃ n, 1 ≤ n ∧ n ≤ 52 ∧ A.1 0 = nI n) ∧ (∃ n, 1 ≤ n ∧ n ≤ 104 ∧ A.1 1 = nI n) ∧ (∃ n, 1 ≤ n ∧ n ≤ 7 ∧ A.1 2 = nI n) ∧ (∃ n, 1 ≤ n ∧ n ≤ 999 ∧ A.1 3 = nI n) ∧ (∃ n, n ≤ 999 ∧ A.1 4 = nI n) ∧ (∃ n, n ≤ 9999 ∧ A.1 5 = nI n) ∧ ∃ n, n ≤ 999 ∧ A.1 6 = nI n
/-- the percent by which a kind counts -/
def prt (ev : List Nat → Int32) (i : Nat) : List Rl → Int32
  | [] => 0
  | r :: l => if r.1 = i ∧ ¬ ev r.2.2 = 0 then r.2.1 else prt ev i l
section Ct
variable (pd : Nat → Nat → Int32) (pl tm : Int32) (A : Ac) (u : Nat)
def ctT (i : Nat) : Int32 := pd i u * prt (evV pd pl tm u) i A.2.2.1 / 100
def ctS : Nat → Int32
  | 0 => 0
  | n + 1 => ctS n + ctT pd pl tm A u n
def cntW : Int32 := ctS pd pl tm A u 5
def mkpP (i : Nat) : Bool := decide (¬ prt (evV pd pl tm u) i A.2.2.1 ≤ 0) && decide (¬ pd i u ≤ 0)
def mkwW : Nat := hpN (mkpP pd pl tm A u) 5
def empW : Bool := match A.2.2.2 with
  | none => false
  | some C => decide (¬ evV pd pl tm u C = 0)
end Ct
/-- an act in the model's rows -/
def RLM (g : Hp) (s : Nat) (R : List Rl) : Prop := hi g 50 s = nI R.length ∧ ∀ l (hl : l < R.length), hi g 51 (11 * s + l) = nI R[l].1 ∧ hi g 52 (11 * s + l) = R[l].2.1 ∧ CD g s l R[l].2.2
def MEm (g : Hp) (s : Nat) (e : Option (List Nat)) : Prop := match e with
  | none => hi g 61 s = 0
  | some C => hi g 61 s = 1 ∧ CD g s 10 C
def MA (g : Hp) (s : Nat) (A : Ac) : Prop := (∀ n, n < 7 → hi g 48 (7 * s + n) = A.1 n) ∧ hi g 49 s = A.2.1 ∧ RLM g s A.2.2.1 ∧ MEm g s A.2.2.2
theorem RLM.fr {g g' : Hp} {s : Nat} {R : List Rl} (D : RLM g s R) {A B : List Nat} (fr : FrM A B g g') (h1 : [50, 51, 52, 53, 54, 55, 56].all (fun x => !A.contains x) = true) : RLM g' s R := by
  have h1' := h1
  simp at h1
  refine ⟨(fr.ei _ h1.1 (by decide)).trans D.1, fun l hl => ?_⟩
  obtain ⟨a, b, c⟩ := D.2 l hl
  exact ⟨(fr.ei _ h1.2.1 (by decide)).trans a, (fr.ei _ h1.2.2.1 (by decide)).trans b, c.fr fr (by simp; exact h1.2.2.2)⟩
theorem MEm.fr {g g' : Hp} {s : Nat} {e : Option (List Nat)} (D : MEm g s e) {A B : List Nat} (fr : FrM A B g g') (h1 : [53, 54, 55, 56, 61].all (fun x => !A.contains x) = true) : MEm g' s e := by
  simp at h1
  cases e with
  | none => exact (fr.ei _ h1.2.2.2.2 (by decide)).trans D
  | some C => exact ⟨(fr.ei _ h1.2.2.2.2 (by decide)).trans D.1, D.2.fr fr (by simp; exact ⟨h1.1, h1.2.1, h1.2.2.1, h1.2.2.2.1⟩)⟩
theorem MA.fr {g g' : Hp} {s : Nat} {a : Ac} (D : MA g s a) {A B : List Nat} (fr : FrM A B g g') (h1 : [48, 49, 50, 51, 52, 53, 54, 55, 56, 61].all (fun x => !A.contains x) = true) : MA g' s a := by
  simp at h1
  obtain ⟨p48, p49, p50, p51, p52, p53, p54, p55, p56, p61⟩ := h1
  exact ⟨fun n hn => (fr.ei _ p48 (by decide)).trans (D.1 n hn), (fr.ei _ p49 (by decide)).trans D.2.1, D.2.2.1.fr fr (by simp; exact ⟨p50, p51, p52, p53, p54, p55, p56⟩), D.2.2.2.fr fr (by simp; exact ⟨p53, p54, p55, p56, p61⟩)⟩
theorem dv100 (x : Int32) : dvI x 100 = some (x / 100) := if_neg (by decide)
section Mr
variable {g : Hp} {pd : Nat → Nat → Int32} {pl tm : Int32} {u s : Nat} {A : Ac}
theorem m_partOf (X : FX g) (E : MHE g pd pl tm) (hu : u < 104) (hs : s < 5) {R : List Rl} (D : RLM g s R) (ok : ROK R) {i : Nat} (hi5 : i < 5) :
    ∃ g', f_X9_partOf 45 (nI s) (nI i) (nI u) g = some (prt (evV pd pl tm u) i R, g') ∧ FrM [59] [] g g' := by
  have hlen := ok.1
  have key : ∃ r, f_X9_partOf_L3 fu 45 (nI s) (nI i) (nI u) 0 g = some r ∧ ((∃ l g', r = Sum.inl (nI l, g') ∧ FrM [59] [] g g' ∧ l < 11 ∧ hi g' 52 (11 * s + l) = prt (evV pd pl tm u) i R) ∨ ∃ g', r = Sum.inr g' ∧ FrM [59] [] g g' ∧ prt (evV pd pl tm u) i R = 0) := by
    refine forN (fun n l g => f_X9_partOf_L3 n 45 (nI s) (nI i) (nI u) l g) R.length (by omega) (fun l g' => FrM [59] [] g g' ∧ prt (evV pd pl tm u) i R = prt (evV pd pl tm u) i (R.drop l)) (fun r => (∃ l g', r = Sum.inl (nI l, g') ∧ FrM [59] [] g g' ∧ l < 11 ∧ hi g' 52 (11 * s + l) = prt (evV pd pl tm u) i R) ∨ ∃ g', r = Sum.inr g' ∧ FrM [59] [] g g' ∧ prt (evV pd pl tm u) i R = 0) ?_ ?_ (i0 := 0) (Nat.zero_le _) ⟨FrM.rfl, rfl⟩
    · rintro n g1 ⟨I1, I2⟩
      have X1 := I1.fx X
      have D1 := D.fr I1 (by decide)
      refine ⟨Sum.inr g1, ?_, Or.inr ⟨g1, rfl, I1, by rw [I2, List.drop_length]; rfl⟩⟩
      simp only [f_X9_partOf_L3.eq_2]
      simp (disch := (first | assumption | (simp only [FX_si, FX_sj, FX_sr, WX_si, WX_sj, WX_sr, FK_si, FK_sj, FK_sr]; assumption) | omega | decide)) only [D1.1, ↓reduceIte, if_true, if_false, i10, i01, eq_self, wq7, wq8, wq9, wq10, wrc, wgi, wpi, wpz, wn1, wn2, wn3, wn4, wr1, wr2, wr3, wr4, ww1, ww2, ww3, ww4, fgi, fgq, fpi, frc, at18, at19, at21, at22, at23, at24, at25, at26, at_neg, wat1, wat2, wat3, wat4, reduceCtorEq, bd_some, b1_some, b2_some, b3_some, b4_some, c1_eq, elim_inl, elim_inr, zok0, zok1, getQ_si, getQ_sj, getQ_sr, q8_0, q8_1, q8_2, q8_4, q8_7, q8_8, q8_9, q8_10, q8_11, q9_0, q9_3, q9_4, q9_8, q17_0, q17_1, q17_2, q17_4, q17_5, q17_6, q17_9, q17_10, q17_11, q27_4, q27_5, q27_6, q27_7, q27_8, q27_11, q45_0, q45_1, q45_11, q45_12, q45_13, q45_14, q45_15, q45_16, q45_17, q45_18, q45_19, q45_20, q45_21, q45_22, q45_23, q45_24, q45_30, q45_31, q45_32, q45_33, q45_34, q45_35, q45_36, q45_37, q45_38, q45_39, q45_43, q45_44, q45_45, q45_46, q45_47, q45_48, q45_52, q45_53, q45_54, q45_59, q45_60, q45_61, q45_62, q45_65, q45_67, q45_68, gi8, gj8, pi8, pz8, pj8, rc8, gi9, gj9, pi9, pz9, pj9, rc9, gi17, gj17, pi17, pz17, pj17, rc17, gi27, gj27, pi27, pz27, pj27, rc27, gi45, gj45, pi45, pz45, pj45, rc45, aln_si, aln_sj, aln_sq, rc_si, rc_sj, rc_sq, n0, n1, n10, n11, n12, n13, n14, n15, n16, n18, n19, n20, n21, n22, n23, n24, n25, n26, n29, n30, n31, n32, n33, n34, n35, n36, n37, n38, n39, n40, n42, n43, n44, n46, n47, n48, n49, n50, n51, n52, n53, n54, n55, n56, n57, n58, n59, n60, n61, n62, n63, n64, n65, n66, n67, n68, n69, n70, n71, n72, n73, n74, n75, n76, n77, n78, n79, n80, n81, n82, n83, n84, n85, n86, n87, r0, r1, r10, r11, r12, r13, r14, r15, r16, r18, r19, r20, r21, r22, r23, r24, r25, r26, r29, r30, r31, r32, r33, r34, r35, r36, r37, r38, r39, r40, r42, r43, r44, r46, r47, r48, r49, r50, r51, r52, r53, r54, r55, r56, r57, r58, r59, r60, r61, r62, r63, r64, r65, r66, r67, r68, r69, r70, r71, r72, r73, r74, r75, r76, r77, r78, r79, r80, r81, r82, r83, r84, r85, r86, r87, w10, w11, w12, w13, w18, w19, w20, w21, w22, w23, w24, w25, w26, w30, w31, w32, w33, w34, w35, w36, w38, w39, w40, w43, w44, w46, w47, w48, w49, w50, w51, w52, w53, w54, w55, w56, w57, w58, w59, w60, w61, w62, w63, w64, w65, w66, w67, w68, w69, w70, w71, w72, w73, w74, w75, w76, w77, w78, w79, w80, w81, w82, w83, w84, w85, w86, w87, hi_hit, hi_row, hi_col, hj_hit, hj_row, hj_col, hi_sj, hj_si, hq_si, hq_sj, hi_sq, hj_sq, hi_srh, hi_srm]
      rw [if_pos (Int32.le_refl _)]
    · rintro n l g1 hl ⟨I1, I2⟩
      have X1 := I1.fx X
      have D1 := D.fr I1 (by decide)
      have E1 := E.fr I1 (by decide) (by decide)
      obtain ⟨q1, q2, q3⟩ := D1.2 l hl
      obtain ⟨o1, o2, o3⟩ := ok.2 R[l] (List.getElem_mem hl)
      have n0 : ¬ nI R.length ≤ nI l := by rw [nI_leI (by omega) (by omega)]; omega
      have hx : 11 * s + l < 55 := by omega
      have d1 := D1.1
      rw [List.drop_eq_getElem_cons hl] at I2
      have I2' : prt (evV pd pl tm u) i R = if R[l].1 = i ∧ ¬ evV pd pl tm u R[l].2.2 = 0 then R[l].2.1 else prt (evV pd pl tm u) i (R.drop (l + 1)) := I2
      by_cases c : R[l].1 = i
      · obtain ⟨g2, b1', b2'⟩ := m_holds X1 E1 hu hs (show l < 11 by omega) q3 o3
        have X2 := b2'.fx X1
        rw [c] at q1
        by_cases z : evV pd pl tm u R[l].2.2 = 0
        · rw [if_pos z] at b1'
          refine Or.inr ⟨g2, ?_, I1.trans b2', by rw [I2', if_neg (fun q => q.2 z)]⟩
          simp only [f_X9_partOf_L3.eq_2]
          simp (disch := (first | assumption | (simp only [FX_si, FX_sj, FX_sr, WX_si, WX_sj, WX_sr, FK_si, FK_sj, FK_sr]; assumption) | omega | decide)) only [d1, n0, nI_11, q1, b1', nI_1, ↓reduceIte, if_true, if_false, i10, i01, eq_self, wq7, wq8, wq9, wq10, wrc, wgi, wpi, wpz, wn1, wn2, wn3, wn4, wr1, wr2, wr3, wr4, ww1, ww2, ww3, ww4, fgi, fgq, fpi, frc, at18, at19, at21, at22, at23, at24, at25, at26, at_neg, wat1, wat2, wat3, wat4, reduceCtorEq, bd_some, b1_some, b2_some, b3_some, b4_some, c1_eq, elim_inl, elim_inr, zok0, zok1, getQ_si, getQ_sj, getQ_sr, q8_0, q8_1, q8_2, q8_4, q8_7, q8_8, q8_9, q8_10, q8_11, q9_0, q9_3, q9_4, q9_8, q17_0, q17_1, q17_2, q17_4, q17_5, q17_6, q17_9, q17_10, q17_11, q27_4, q27_5, q27_6, q27_7, q27_8, q27_11, q45_0, q45_1, q45_11, q45_12, q45_13, q45_14, q45_15, q45_16, q45_17, q45_18, q45_19, q45_20, q45_21, q45_22, q45_23, q45_24, q45_30, q45_31, q45_32, q45_33, q45_34, q45_35, q45_36, q45_37, q45_38, q45_39, q45_43, q45_44, q45_45, q45_46, q45_47, q45_48, q45_52, q45_53, q45_54, q45_59, q45_60, q45_61, q45_62, q45_65, q45_67, q45_68, gi8, gj8, pi8, pz8, pj8, rc8, gi9, gj9, pi9, pz9, pj9, rc9, gi17, gj17, pi17, pz17, pj17, rc17, gi27, gj27, pi27, pz27, pj27, rc27, gi45, gj45, pi45, pz45, pj45, rc45, aln_si, aln_sj, aln_sq, rc_si, rc_sj, rc_sq, n0, n1, n10, n11, n12, n13, n14, n15, n16, n18, n19, n20, n21, n22, n23, n24, n25, n26, n29, n30, n31, n32, n33, n34, n35, n36, n37, n38, n39, n40, n42, n43, n44, n46, n47, n48, n49, n50, n51, n52, n53, n54, n55, n56, n57, n58, n59, n60, n61, n62, n63, n64, n65, n66, n67, n68, n69, n70, n71, n72, n73, n74, n75, n76, n77, n78, n79, n80, n81, n82, n83, n84, n85, n86, n87, r0, r1, r10, r11, r12, r13, r14, r15, r16, r18, r19, r20, r21, r22, r23, r24, r25, r26, r29, r30, r31, r32, r33, r34, r35, r36, r37, r38, r39, r40, r42, r43, r44, r46, r47, r48, r49, r50, r51, r52, r53, r54, r55, r56, r57, r58, r59, r60, r61, r62, r63, r64, r65, r66, r67, r68, r69, r70, r71, r72, r73, r74, r75, r76, r77, r78, r79, r80, r81, r82, r83, r84, r85, r86, r87, w10, w11, w12, w13, w18, w19, w20, w21, w22, w23, w24, w25, w26, w30, w31, w32, w33, w34, w35, w36, w38, w39, w40, w43, w44, w46, w47, w48, w49, w50, w51, w52, w53, w54, w55, w56, w57, w58, w59, w60, w61, w62, w63, w64, w65, w66, w67, w68, w69, w70, w71, w72, w73, w74, w75, w76, w77, w78, w79, w80, w81, w82, w83, w84, w85, w86, w87, hi_hit, hi_row, hi_col, hj_hit, hj_row, hj_col, hi_sj, hj_si, hq_si, hq_sj, hi_sq, hj_sq, hi_srh, hi_srm]
        · rw [if_neg z] at b1'
          refine Or.inl ⟨Sum.inl (nI l, g2), ?_, Or.inl ⟨l, g2, rfl, I1.trans b2', by omega, ?_⟩⟩
          · simp only [f_X9_partOf_L3.eq_2]
            simp (disch := (first | assumption | (simp only [FX_si, FX_sj, FX_sr, WX_si, WX_sj, WX_sr, FK_si, FK_sj, FK_sr]; assumption) | omega | decide)) only [d1, n0, nI_11, q1, b1', ↓reduceIte, if_true, if_false, i10, i01, eq_self, wq7, wq8, wq9, wq10, wrc, wgi, wpi, wpz, wn1, wn2, wn3, wn4, wr1, wr2, wr3, wr4, ww1, ww2, ww3, ww4, fgi, fgq, fpi, frc, at18, at19, at21, at22, at23, at24, at25, at26, at_neg, wat1, wat2, wat3, wat4, reduceCtorEq, bd_some, b1_some, b2_some, b3_some, b4_some, c1_eq, elim_inl, elim_inr, zok0, zok1, getQ_si, getQ_sj, getQ_sr, q8_0, q8_1, q8_2, q8_4, q8_7, q8_8, q8_9, q8_10, q8_11, q9_0, q9_3, q9_4, q9_8, q17_0, q17_1, q17_2, q17_4, q17_5, q17_6, q17_9, q17_10, q17_11, q27_4, q27_5, q27_6, q27_7, q27_8, q27_11, q45_0, q45_1, q45_11, q45_12, q45_13, q45_14, q45_15, q45_16, q45_17, q45_18, q45_19, q45_20, q45_21, q45_22, q45_23, q45_24, q45_30, q45_31, q45_32, q45_33, q45_34, q45_35, q45_36, q45_37, q45_38, q45_39, q45_43, q45_44, q45_45, q45_46, q45_47, q45_48, q45_52, q45_53, q45_54, q45_59, q45_60, q45_61, q45_62, q45_65, q45_67, q45_68, gi8, gj8, pi8, pz8, pj8, rc8, gi9, gj9, pi9, pz9, pj9, rc9, gi17, gj17, pi17, pz17, pj17, rc17, gi27, gj27, pi27, pz27, pj27, rc27, gi45, gj45, pi45, pz45, pj45, rc45, aln_si, aln_sj, aln_sq, rc_si, rc_sj, rc_sq, n0, n1, n10, n11, n12, n13, n14, n15, n16, n18, n19, n20, n21, n22, n23, n24, n25, n26, n29, n30, n31, n32, n33, n34, n35, n36, n37, n38, n39, n40, n42, n43, n44, n46, n47, n48, n49, n50, n51, n52, n53, n54, n55, n56, n57, n58, n59, n60, n61, n62, n63, n64, n65, n66, n67, n68, n69, n70, n71, n72, n73, n74, n75, n76, n77, n78, n79, n80, n81, n82, n83, n84, n85, n86, n87, r0, r1, r10, r11, r12, r13, r14, r15, r16, r18, r19, r20, r21, r22, r23, r24, r25, r26, r29, r30, r31, r32, r33, r34, r35, r36, r37, r38, r39, r40, r42, r43, r44, r46, r47, r48, r49, r50, r51, r52, r53, r54, r55, r56, r57, r58, r59, r60, r61, r62, r63, r64, r65, r66, r67, r68, r69, r70, r71, r72, r73, r74, r75, r76, r77, r78, r79, r80, r81, r82, r83, r84, r85, r86, r87, w10, w11, w12, w13, w18, w19, w20, w21, w22, w23, w24, w25, w26, w30, w31, w32, w33, w34, w35, w36, w38, w39, w40, w43, w44, w46, w47, w48, w49, w50, w51, w52, w53, w54, w55, w56, w57, w58, w59, w60, w61, w62, w63, w64, w65, w66, w67, w68, w69, w70, w71, w72, w73, w74, w75, w76, w77, w78, w79, w80, w81, w82, w83, w84, w85, w86, w87, hi_hit, hi_row, hi_col, hj_hit, hj_row, hj_col, hi_sj, hj_si, hq_si, hq_sj, hi_sq, hj_sq, hi_srh, hi_srm]
          · rw [I2', if_pos ⟨c, z⟩, b2'.ei _ (by decide) (by decide)]
            exact q2
      · have c' : ¬ nI R[l].1 = nI i := by rw [nI_eq (by omega) (by omega)]; exact c
        refine Or.inr ⟨g1, ?_, I1, by rw [I2', if_neg (fun q => c q.1)]⟩
        simp only [f_X9_partOf_L3.eq_2]
        simp (disch := (first | assumption | (simp only [FX_si, FX_sj, FX_sr, WX_si, WX_sj, WX_sr, FK_si, FK_sj, FK_sr]; assumption) | omega | decide)) only [d1, n0, nI_11, q1, c', nI_1, ↓reduceIte, if_true, if_false, i10, i01, eq_self, wq7, wq8, wq9, wq10, wrc, wgi, wpi, wpz, wn1, wn2, wn3, wn4, wr1, wr2, wr3, wr4, ww1, ww2, ww3, ww4, fgi, fgq, fpi, frc, at18, at19, at21, at22, at23, at24, at25, at26, at_neg, wat1, wat2, wat3, wat4, reduceCtorEq, bd_some, b1_some, b2_some, b3_some, b4_some, c1_eq, elim_inl, elim_inr, zok0, zok1, getQ_si, getQ_sj, getQ_sr, q8_0, q8_1, q8_2, q8_4, q8_7, q8_8, q8_9, q8_10, q8_11, q9_0, q9_3, q9_4, q9_8, q17_0, q17_1, q17_2, q17_4, q17_5, q17_6, q17_9, q17_10, q17_11, q27_4, q27_5, q27_6, q27_7, q27_8, q27_11, q45_0, q45_1, q45_11, q45_12, q45_13, q45_14, q45_15, q45_16, q45_17, q45_18, q45_19, q45_20, q45_21, q45_22, q45_23, q45_24, q45_30, q45_31, q45_32, q45_33, q45_34, q45_35, q45_36, q45_37, q45_38, q45_39, q45_43, q45_44, q45_45, q45_46, q45_47, q45_48, q45_52, q45_53, q45_54, q45_59, q45_60, q45_61, q45_62, q45_65, q45_67, q45_68, gi8, gj8, pi8, pz8, pj8, rc8, gi9, gj9, pi9, pz9, pj9, rc9, gi17, gj17, pi17, pz17, pj17, rc17, gi27, gj27, pi27, pz27, pj27, rc27, gi45, gj45, pi45, pz45, pj45, rc45, aln_si, aln_sj, aln_sq, rc_si, rc_sj, rc_sq, n0, n1, n10, n11, n12, n13, n14, n15, n16, n18, n19, n20, n21, n22, n23, n24, n25, n26, n29, n30, n31, n32, n33, n34, n35, n36, n37, n38, n39, n40, n42, n43, n44, n46, n47, n48, n49, n50, n51, n52, n53, n54, n55, n56, n57, n58, n59, n60, n61, n62, n63, n64, n65, n66, n67, n68, n69, n70, n71, n72, n73, n74, n75, n76, n77, n78, n79, n80, n81, n82, n83, n84, n85, n86, n87, r0, r1, r10, r11, r12, r13, r14, r15, r16, r18, r19, r20, r21, r22, r23, r24, r25, r26, r29, r30, r31, r32, r33, r34, r35, r36, r37, r38, r39, r40, r42, r43, r44, r46, r47, r48, r49, r50, r51, r52, r53, r54, r55, r56, r57, r58, r59, r60, r61, r62, r63, r64, r65, r66, r67, r68, r69, r70, r71, r72, r73, r74, r75, r76, r77, r78, r79, r80, r81, r82, r83, r84, r85, r86, r87, w10, w11, w12, w13, w18, w19, w20, w21, w22, w23, w24, w25, w26, w30, w31, w32, w33, w34, w35, w36, w38, w39, w40, w43, w44, w46, w47, w48, w49, w50, w51, w52, w53, w54, w55, w56, w57, w58, w59, w60, w61, w62, w63, w64, w65, w66, w67, w68, w69, w70, w71, w72, w73, w74, w75, w76, w77, w78, w79, w80, w81, w82, w83, w84, w85, w86, w87, hi_hit, hi_row, hi_col, hj_hit, hj_row, hj_col, hi_sj, hj_si, hq_si, hq_sj, hi_sq, hj_sq, hi_srh, hi_srm]
  obtain ⟨r, b1', b2'⟩ := key
  rcases b2' with ⟨l, g', rfl, k1, k2, k3⟩ | ⟨g', rfl, k1, k2⟩
  · have X' := k1.fx X
    refine ⟨g', ?_, k1⟩
    have hx : 11 * s + l < 55 := by omega
    unfold f_X9_partOf
    simp (disch := (first | assumption | (simp only [FX_si, FX_sj, FX_sr, WX_si, WX_sj, WX_sr, FK_si, FK_sj, FK_sr]; assumption) | omega | decide)) only [b1', nI_11, k3, ↓reduceIte, if_true, if_false, i10, i01, eq_self, wq7, wq8, wq9, wq10, wrc, wgi, wpi, wpz, wn1, wn2, wn3, wn4, wr1, wr2, wr3, wr4, ww1, ww2, ww3, ww4, fgi, fgq, fpi, frc, at18, at19, at21, at22, at23, at24, at25, at26, at_neg, wat1, wat2, wat3, wat4, reduceCtorEq, bd_some, b1_some, b2_some, b3_some, b4_some, c1_eq, elim_inl, elim_inr, zok0, zok1, getQ_si, getQ_sj, getQ_sr, q8_0, q8_1, q8_2, q8_4, q8_7, q8_8, q8_9, q8_10, q8_11, q9_0, q9_3, q9_4, q9_8, q17_0, q17_1, q17_2, q17_4, q17_5, q17_6, q17_9, q17_10, q17_11, q27_4, q27_5, q27_6, q27_7, q27_8, q27_11, q45_0, q45_1, q45_11, q45_12, q45_13, q45_14, q45_15, q45_16, q45_17, q45_18, q45_19, q45_20, q45_21, q45_22, q45_23, q45_24, q45_30, q45_31, q45_32, q45_33, q45_34, q45_35, q45_36, q45_37, q45_38, q45_39, q45_43, q45_44, q45_45, q45_46, q45_47, q45_48, q45_52, q45_53, q45_54, q45_59, q45_60, q45_61, q45_62, q45_65, q45_67, q45_68, gi8, gj8, pi8, pz8, pj8, rc8, gi9, gj9, pi9, pz9, pj9, rc9, gi17, gj17, pi17, pz17, pj17, rc17, gi27, gj27, pi27, pz27, pj27, rc27, gi45, gj45, pi45, pz45, pj45, rc45, aln_si, aln_sj, aln_sq, rc_si, rc_sj, rc_sq, n0, n1, n10, n11, n12, n13, n14, n15, n16, n18, n19, n20, n21, n22, n23, n24, n25, n26, n29, n30, n31, n32, n33, n34, n35, n36, n37, n38, n39, n40, n42, n43, n44, n46, n47, n48, n49, n50, n51, n52, n53, n54, n55, n56, n57, n58, n59, n60, n61, n62, n63, n64, n65, n66, n67, n68, n69, n70, n71, n72, n73, n74, n75, n76, n77, n78, n79, n80, n81, n82, n83, n84, n85, n86, n87, r0, r1, r10, r11, r12, r13, r14, r15, r16, r18, r19, r20, r21, r22, r23, r24, r25, r26, r29, r30, r31, r32, r33, r34, r35, r36, r37, r38, r39, r40, r42, r43, r44, r46, r47, r48, r49, r50, r51, r52, r53, r54, r55, r56, r57, r58, r59, r60, r61, r62, r63, r64, r65, r66, r67, r68, r69, r70, r71, r72, r73, r74, r75, r76, r77, r78, r79, r80, r81, r82, r83, r84, r85, r86, r87, w10, w11, w12, w13, w18, w19, w20, w21, w22, w23, w24, w25, w26, w30, w31, w32, w33, w34, w35, w36, w38, w39, w40, w43, w44, w46, w47, w48, w49, w50, w51, w52, w53, w54, w55, w56, w57, w58, w59, w60, w61, w62, w63, w64, w65, w66, w67, w68, w69, w70, w71, w72, w73, w74, w75, w76, w77, w78, w79, w80, w81, w82, w83, w84, w85, w86, w87, hi_hit, hi_row, hi_col, hj_hit, hj_row, hj_col, hi_sj, hj_si, hq_si, hq_sj, hi_sq, hj_sq, hi_srh, hi_srm]
  · refine ⟨g', ?_, k1⟩
    unfold f_X9_partOf
    simp (disch := (first | assumption | (simp only [FX_si, FX_sj, FX_sr, WX_si, WX_sj, WX_sr, FK_si, FK_sj, FK_sr]; assumption) | omega | decide)) only [b1', k2, ↓reduceIte, if_true, if_false, i10, i01, eq_self, wq7, wq8, wq9, wq10, wrc, wgi, wpi, wpz, wn1, wn2, wn3, wn4, wr1, wr2, wr3, wr4, ww1, ww2, ww3, ww4, fgi, fgq, fpi, frc, at18, at19, at21, at22, at23, at24, at25, at26, at_neg, wat1, wat2, wat3, wat4, reduceCtorEq, bd_some, b1_some, b2_some, b3_some, b4_some, c1_eq, elim_inl, elim_inr, zok0, zok1, getQ_si, getQ_sj, getQ_sr, q8_0, q8_1, q8_2, q8_4, q8_7, q8_8, q8_9, q8_10, q8_11, q9_0, q9_3, q9_4, q9_8, q17_0, q17_1, q17_2, q17_4, q17_5, q17_6, q17_9, q17_10, q17_11, q27_4, q27_5, q27_6, q27_7, q27_8, q27_11, q45_0, q45_1, q45_11, q45_12, q45_13, q45_14, q45_15, q45_16, q45_17, q45_18, q45_19, q45_20, q45_21, q45_22, q45_23, q45_24, q45_30, q45_31, q45_32, q45_33, q45_34, q45_35, q45_36, q45_37, q45_38, q45_39, q45_43, q45_44, q45_45, q45_46, q45_47, q45_48, q45_52, q45_53, q45_54, q45_59, q45_60, q45_61, q45_62, q45_65, q45_67, q45_68, gi8, gj8, pi8, pz8, pj8, rc8, gi9, gj9, pi9, pz9, pj9, rc9, gi17, gj17, pi17, pz17, pj17, rc17, gi27, gj27, pi27, pz27, pj27, rc27, gi45, gj45, pi45, pz45, pj45, rc45, aln_si, aln_sj, aln_sq, rc_si, rc_sj, rc_sq, n0, n1, n10, n11, n12, n13, n14, n15, n16, n18, n19, n20, n21, n22, n23, n24, n25, n26, n29, n30, n31, n32, n33, n34, n35, n36, n37, n38, n39, n40, n42, n43, n44, n46, n47, n48, n49, n50, n51, n52, n53, n54, n55, n56, n57, n58, n59, n60, n61, n62, n63, n64, n65, n66, n67, n68, n69, n70, n71, n72, n73, n74, n75, n76, n77, n78, n79, n80, n81, n82, n83, n84, n85, n86, n87, r0, r1, r10, r11, r12, r13, r14, r15, r16, r18, r19, r20, r21, r22, r23, r24, r25, r26, r29, r30, r31, r32, r33, r34, r35, r36, r37, r38, r39, r40, r42, r43, r44, r46, r47, r48, r49, r50, r51, r52, r53, r54, r55, r56, r57, r58, r59, r60, r61, r62, r63, r64, r65, r66, r67, r68, r69, r70, r71, r72, r73, r74, r75, r76, r77, r78, r79, r80, r81, r82, r83, r84, r85, r86, r87, w10, w11, w12, w13, w18, w19, w20, w21, w22, w23, w24, w25, w26, w30, w31, w32, w33, w34, w35, w36, w38, w39, w40, w43, w44, w46, w47, w48, w49, w50, w51, w52, w53, w54, w55, w56, w57, w58, w59, w60, w61, w62, w63, w64, w65, w66, w67, w68, w69, w70, w71, w72, w73, w74, w75, w76, w77, w78, w79, w80, w81, w82, w83, w84, w85, w86, w87, hi_hit, hi_row, hi_col, hj_hit, hj_row, hj_col, hi_sj, hj_si, hq_si, hq_sj, hi_sq, hj_sq, hi_srh, hi_srm]
theorem m_reckon131 (X : FX g) (E : MHE g pd pl tm) (hu : u < 104) (hs : s < 5) (D : RLM g s A.2.2.1) (ok : ROK A.2.2.1) (z1 : hi g 78 u = 0) (z2 : hi g 79 u = 0) :
    ∃ g', f_X9_reckon_L131 fu 45 (nI s) (nI u) 0 g = some g' ∧ FrM [59, 78, 79] [] g g' ∧ hi g' 78 u = cntW pd pl tm A u ∧ hi g' 79 u = nI (mkwW pd pl tm A u) ∧ ∀ v, v ≠ u → hi g' 78 v = hi g 78 v ∧ hi g' 79 v = hi g 79 v := by
  refine forN (fun n i g => f_X9_reckon_L131 n 45 (nI s) (nI u) i g) 5 (by omega) (fun i g' => FrM [59, 78, 79] [] g g' ∧ hi g' 78 u = ctS pd pl tm A u i ∧ hi g' 79 u = nI (hpN (mkpP pd pl tm A u) i) ∧ ∀ v, v ≠ u → hi g' 78 v = hi g 78 v ∧ hi g' 79 v = hi g 79 v) (fun g' => FrM [59, 78, 79] [] g g' ∧ hi g' 78 u = cntW pd pl tm A u ∧ hi g' 79 u = nI (mkwW pd pl tm A u) ∧ ∀ v, v ≠ u → hi g' 78 v = hi g 78 v ∧ hi g' 79 v = hi g 79 v) ?_ ?_ (i0 := 0) (Nat.zero_le _) ⟨FrM.rfl, z1, z2, fun _ _ => ⟨rfl, rfl⟩⟩
  · rintro n g1 ⟨I1, I2, I3, I4⟩
    exact ⟨g1, by simp only [f_X9_reckon_L131.eq_2]; rw [if_pos (by decide)], I1, I2, I3, I4⟩
  · rintro n i g1 hi5 ⟨I1, I2, I3, I4⟩
    have X1 := I1.fx X
    obtain ⟨g2, b1', b2'⟩ := m_partOf X1 (E.fr I1 (by decide) (by decide)) hu hs (D.fr I1 (by decide)) ok hi5
    have X2 := b2'.fx X1
    have E2 := (E.fr I1 (by decide) (by decide)).fr b2' (by decide) (by decide)
    have n0 : ¬ (5 : Int32) ≤ nI i := by rw [L5, nI_leI (by omega) (by omega)]; omega
    have e72 := E2.1 i u (by omega) hu
    have hx : 6 * u + i < 624 := by omega
    have i31 : i < 31 := by omega
    have e78 : hi g2 78 u = ctS pd pl tm A u i := (b2'.ei _ (by decide) (by decide)).trans I2
    have e79 : hi g2 79 u = nI (hpN (mkpP pd pl tm A u) i) := (b2'.ei _ (by decide) (by decide)).trans I3
    right
    have fin : ∀ x : Int32, x = nI (hpN (mkpP pd pl tm A u) (i + 1)) → f_X9_reckon_L131 (n + 1) 45 (nI s) (nI u) (nI i) g1 = f_X9_reckon_L131 n 45 (nI s) (nI u) (nI (i + 1)) (si (si g2 78 u (ctS pd pl tm A u i + ctT pd pl tm A u i)) 79 u x) → ∃ s', f_X9_reckon_L131 (n + 1) 45 (nI s) (nI u) (nI i) g1 = f_X9_reckon_L131 n 45 (nI s) (nI u) (nI (i + 1)) s' ∧ FrM [59, 78, 79] [] g s' ∧ hi s' 78 u = ctS pd pl tm A u (i + 1) ∧ hi s' 79 u = nI (hpN (mkpP pd pl tm A u) (i + 1)) ∧ ∀ v, v ≠ u → hi s' 78 v = hi g 78 v ∧ hi s' 79 v = hi g 79 v := by
      intro x hx e
      refine ⟨_, e, ((I1.trans (b2'.wk (by decide) (by decide))).trans (FrM.row (by decide) (by decide))).trans (FrM.row (by decide) (by decide)), ?_, ?_, fun v hv => ?_⟩
      · simp (disch := (first | assumption | omega | decide)) only [hi_hit, hi_row, hi_col, hj_hit, hj_row, hj_col, hi_sj, hj_si, hq_si, hq_sj, hi_sq, hj_sq, hi_srh, hi_srm, hj_sr, hq_sr, hq_hit, hq_row, hq_col]
        rfl
      · rw [hi_hit, hx]
      · simp (disch := (first | assumption | omega | decide)) only [hi_hit, hi_row, hi_col, hj_hit, hj_row, hj_col, hi_sj, hj_si, hq_si, hq_sj, hi_sq, hj_sq, hi_srh, hi_srm, hj_sr, hq_sr, hq_hit, hq_row, hq_col]
        rw [b2'.ei _ (by decide) (by decide), b2'.ei _ (by decide) (by decide)]
        exact I4 v hv
    have hp : hpN (mkpP pd pl tm A u) (i + 1) = hpN (mkpP pd pl tm A u) i ||| (if mkpP pd pl tm A u i = true then 2 ^ i else 0) := rfl
    by_cases c1 : prt (evV pd pl tm u) i A.2.2.1 ≤ 0
    · have mp : mkpP pd pl tm A u i = false := by unfold mkpP; simp [c1]
      refine fin (nI (hpN (mkpP pd pl tm A u) i) ||| 0) ?_ ?_
      · rw [hp, mp, if_neg (by decide), Nat.or_zero, Int32.or_zero]
      · rw [f_X9_reckon_L131.eq_2]
        simp (disch := (first | assumption | (simp only [FX_si, FX_sj, FX_sr, WX_si, WX_sj, WX_sr, FK_si, FK_sj, FK_sr]; assumption) | omega | decide)) only [n0, b1', e78, e79, nI_6, e72, dv100, c1, nI_1, ↓reduceIte, if_true, if_false, i10, i01, eq_self, wq7, wq8, wq9, wq10, wrc, wgi, wpi, wpz, wn1, wn2, wn3, wn4, wr1, wr2, wr3, wr4, ww1, ww2, ww3, ww4, fgi, fgq, fpi, frc, at18, at19, at21, at22, at23, at24, at25, at26, at_neg, wat1, wat2, wat3, wat4, reduceCtorEq, bd_some, b1_some, b2_some, b3_some, b4_some, c1_eq, elim_inl, elim_inr, zok0, zok1, getQ_si, getQ_sj, getQ_sr, q8_0, q8_1, q8_2, q8_4, q8_7, q8_8, q8_9, q8_10, q8_11, q9_0, q9_3, q9_4, q9_8, q17_0, q17_1, q17_2, q17_4, q17_5, q17_6, q17_9, q17_10, q17_11, q27_4, q27_5, q27_6, q27_7, q27_8, q27_11, q45_0, q45_1, q45_11, q45_12, q45_13, q45_14, q45_15, q45_16, q45_17, q45_18, q45_19, q45_20, q45_21, q45_22, q45_23, q45_24, q45_30, q45_31, q45_32, q45_33, q45_34, q45_35, q45_36, q45_37, q45_38, q45_39, q45_43, q45_44, q45_45, q45_46, q45_47, q45_48, q45_52, q45_53, q45_54, q45_59, q45_60, q45_61, q45_62, q45_65, q45_67, q45_68, gi8, gj8, pi8, pz8, pj8, rc8, gi9, gj9, pi9, pz9, pj9, rc9, gi17, gj17, pi17, pz17, pj17, rc17, gi27, gj27, pi27, pz27, pj27, rc27, gi45, gj45, pi45, pz45, pj45, rc45, aln_si, aln_sj, aln_sq, rc_si, rc_sj, rc_sq, n0, n1, n10, n11, n12, n13, n14, n15, n16, n18, n19, n20, n21, n22, n23, n24, n25, n26, n29, n30, n31, n32, n33, n34, n35, n36, n37, n38, n39, n40, n42, n43, n44, n46, n47, n48, n49, n50, n51, n52, n53, n54, n55, n56, n57, n58, n59, n60, n61, n62, n63, n64, n65, n66, n67, n68, n69, n70, n71, n72, n73, n74, n75, n76, n77, n78, n79, n80, n81, n82, n83, n84, n85, n86, n87, r0, r1, r10, r11, r12, r13, r14, r15, r16, r18, r19, r20, r21, r22, r23, r24, r25, r26, r29, r30, r31, r32, r33, r34, r35, r36, r37, r38, r39, r40, r42, r43, r44, r46, r47, r48, r49, r50, r51, r52, r53, r54, r55, r56, r57, r58, r59, r60, r61, r62, r63, r64, r65, r66, r67, r68, r69, r70, r71, r72, r73, r74, r75, r76, r77, r78, r79, r80, r81, r82, r83, r84, r85, r86, r87, w10, w11, w12, w13, w18, w19, w20, w21, w22, w23, w24, w25, w26, w30, w31, w32, w33, w34, w35, w36, w38, w39, w40, w43, w44, w46, w47, w48, w49, w50, w51, w52, w53, w54, w55, w56, w57, w58, w59, w60, w61, w62, w63, w64, w65, w66, w67, w68, w69, w70, w71, w72, w73, w74, w75, w76, w77, w78, w79, w80, w81, w82, w83, w84, w85, w86, w87, hi_hit, hi_row, hi_col, hj_hit, hj_row, hj_col, hi_sj, hj_si, hq_si, hq_sj, hi_sq, hj_sq, hi_srh, hi_srm]
        rfl
    · by_cases c2 : pd i u ≤ 0
      · have mp : mkpP pd pl tm A u i = false := by unfold mkpP; simp [c2]
        refine fin (nI (hpN (mkpP pd pl tm A u) i) ||| 0) ?_ ?_
        · rw [hp, mp, if_neg (by decide), Nat.or_zero, Int32.or_zero]
        · rw [f_X9_reckon_L131.eq_2]
          simp (disch := (first | assumption | (simp only [FX_si, FX_sj, FX_sr, WX_si, WX_sj, WX_sr, FK_si, FK_sj, FK_sr]; assumption) | omega | decide)) only [n0, b1', e78, e79, nI_6, e72, dv100, c1, c2, nI_1, ↓reduceIte, if_true, if_false, i10, i01, eq_self, wq7, wq8, wq9, wq10, wrc, wgi, wpi, wpz, wn1, wn2, wn3, wn4, wr1, wr2, wr3, wr4, ww1, ww2, ww3, ww4, fgi, fgq, fpi, frc, at18, at19, at21, at22, at23, at24, at25, at26, at_neg, wat1, wat2, wat3, wat4, reduceCtorEq, bd_some, b1_some, b2_some, b3_some, b4_some, c1_eq, elim_inl, elim_inr, zok0, zok1, getQ_si, getQ_sj, getQ_sr, q8_0, q8_1, q8_2, q8_4, q8_7, q8_8, q8_9, q8_10, q8_11, q9_0, q9_3, q9_4, q9_8, q17_0, q17_1, q17_2, q17_4, q17_5, q17_6, q17_9, q17_10, q17_11, q27_4, q27_5, q27_6, q27_7, q27_8, q27_11, q45_0, q45_1, q45_11, q45_12, q45_13, q45_14, q45_15, q45_16, q45_17, q45_18, q45_19, q45_20, q45_21, q45_22, q45_23, q45_24, q45_30, q45_31, q45_32, q45_33, q45_34, q45_35, q45_36, q45_37, q45_38, q45_39, q45_43, q45_44, q45_45, q45_46, q45_47, q45_48, q45_52, q45_53, q45_54, q45_59, q45_60, q45_61, q45_62, q45_65, q45_67, q45_68, gi8, gj8, pi8, pz8, pj8, rc8, gi9, gj9, pi9, pz9, pj9, rc9, gi17, gj17, pi17, pz17, pj17, rc17, gi27, gj27, pi27, pz27, pj27, rc27, gi45, gj45, pi45, pz45, pj45, rc45, aln_si, aln_sj, aln_sq, rc_si, rc_sj, rc_sq, n0, n1, n10, n11, n12, n13, n14, n15, n16, n18, n19, n20, n21, n22, n23, n24, n25, n26, n29, n30, n31, n32, n33, n34, n35, n36, n37, n38, n39, n40, n42, n43, n44, n46, n47, n48, n49, n50, n51, n52, n53, n54, n55, n56, n57, n58, n59, n60, n61, n62, n63, n64, n65, n66, n67, n68, n69, n70, n71, n72, n73, n74, n75, n76, n77, n78, n79, n80, n81, n82, n83, n84, n85, n86, n87, r0, r1, r10, r11, r12, r13, r14, r15, r16, r18, r19, r20, r21, r22, r23, r24, r25, r26, r29, r30, r31, r32, r33, r34, r35, r36, r37, r38, r39, r40, r42, r43, r44, r46, r47, r48, r49, r50, r51, r52, r53, r54, r55, r56, r57, r58, r59, r60, r61, r62, r63, r64, r65, r66, r67, r68, r69, r70, r71, r72, r73, r74, r75, r76, r77, r78, r79, r80, r81, r82, r83, r84, r85, r86, r87, w10, w11, w12, w13, w18, w19, w20, w21, w22, w23, w24, w25, w26, w30, w31, w32, w33, w34, w35, w36, w38, w39, w40, w43, w44, w46, w47, w48, w49, w50, w51, w52, w53, w54, w55, w56, w57, w58, w59, w60, w61, w62, w63, w64, w65, w66, w67, w68, w69, w70, w71, w72, w73, w74, w75, w76, w77, w78, w79, w80, w81, w82, w83, w84, w85, w86, w87, hi_hit, hi_row, hi_col, hj_hit, hj_row, hj_col, hi_sj, hj_si, hq_si, hq_sj, hi_sq, hj_sq, hi_srh, hi_srm]
          rfl
      · have mp : mkpP pd pl tm A u i = true := by unfold mkpP; simp [c1, c2]
        refine fin (nI (hpN (mkpP pd pl tm A u) i) ||| nI (2 ^ i)) ?_ ?_
        · rw [hp, mp, if_pos rfl, bor_of]
        · rw [f_X9_reckon_L131.eq_2]
          simp (disch := (first | assumption | (simp only [FX_si, FX_sj, FX_sr, WX_si, WX_sj, WX_sr, FK_si, FK_sj, FK_sr]; assumption) | omega | decide)) only [n0, b1', e78, e79, nI_6, e72, dv100, c1, c2, shl_of, nI_1, ↓reduceIte, if_true, if_false, i10, i01, eq_self, wq7, wq8, wq9, wq10, wrc, wgi, wpi, wpz, wn1, wn2, wn3, wn4, wr1, wr2, wr3, wr4, ww1, ww2, ww3, ww4, fgi, fgq, fpi, frc, at18, at19, at21, at22, at23, at24, at25, at26, at_neg, wat1, wat2, wat3, wat4, reduceCtorEq, bd_some, b1_some, b2_some, b3_some, b4_some, c1_eq, elim_inl, elim_inr, zok0, zok1, getQ_si, getQ_sj, getQ_sr, q8_0, q8_1, q8_2, q8_4, q8_7, q8_8, q8_9, q8_10, q8_11, q9_0, q9_3, q9_4, q9_8, q17_0, q17_1, q17_2, q17_4, q17_5, q17_6, q17_9, q17_10, q17_11, q27_4, q27_5, q27_6, q27_7, q27_8, q27_11, q45_0, q45_1, q45_11, q45_12, q45_13, q45_14, q45_15, q45_16, q45_17, q45_18, q45_19, q45_20, q45_21, q45_22, q45_23, q45_24, q45_30, q45_31, q45_32, q45_33, q45_34, q45_35, q45_36, q45_37, q45_38, q45_39, q45_43, q45_44, q45_45, q45_46, q45_47, q45_48, q45_52, q45_53, q45_54, q45_59, q45_60, q45_61, q45_62, q45_65, q45_67, q45_68, gi8, gj8, pi8, pz8, pj8, rc8, gi9, gj9, pi9, pz9, pj9, rc9, gi17, gj17, pi17, pz17, pj17, rc17, gi27, gj27, pi27, pz27, pj27, rc27, gi45, gj45, pi45, pz45, pj45, rc45, aln_si, aln_sj, aln_sq, rc_si, rc_sj, rc_sq, n0, n1, n10, n11, n12, n13, n14, n15, n16, n18, n19, n20, n21, n22, n23, n24, n25, n26, n29, n30, n31, n32, n33, n34, n35, n36, n37, n38, n39, n40, n42, n43, n44, n46, n47, n48, n49, n50, n51, n52, n53, n54, n55, n56, n57, n58, n59, n60, n61, n62, n63, n64, n65, n66, n67, n68, n69, n70, n71, n72, n73, n74, n75, n76, n77, n78, n79, n80, n81, n82, n83, n84, n85, n86, n87, r0, r1, r10, r11, r12, r13, r14, r15, r16, r18, r19, r20, r21, r22, r23, r24, r25, r26, r29, r30, r31, r32, r33, r34, r35, r36, r37, r38, r39, r40, r42, r43, r44, r46, r47, r48, r49, r50, r51, r52, r53, r54, r55, r56, r57, r58, r59, r60, r61, r62, r63, r64, r65, r66, r67, r68, r69, r70, r71, r72, r73, r74, r75, r76, r77, r78, r79, r80, r81, r82, r83, r84, r85, r86, r87, w10, w11, w12, w13, w18, w19, w20, w21, w22, w23, w24, w25, w26, w30, w31, w32, w33, w34, w35, w36, w38, w39, w40, w43, w44, w46, w47, w48, w49, w50, w51, w52, w53, w54, w55, w56, w57, w58, w59, w60, w61, w62, w63, w64, w65, w66, w67, w68, w69, w70, w71, w72, w73, w74, w75, w76, w77, w78, w79, w80, w81, w82, w83, w84, w85, w86, w87, hi_hit, hi_row, hi_col, hj_hit, hj_row, hj_col, hi_sj, hj_si, hq_si, hq_sj, hi_sq, hj_sq, hi_srh, hi_srm]
          rfl
/-- what the reckoning leaves in the rows -/
def RCK (pd : Nat → Nat → Int32) (pl tm : Int32) (A : Ac) (g : Hp) : Prop := ∀ u, u < 104 → hi g 78 u = cntW pd pl tm A u ∧ hi g 79 u = nI (mkwW pd pl tm A u) ∧ hi g 80 u = if empW pd pl tm A u = true then 1 else 0
theorem m_reckon72 (X : FX g) (E : MHE g pd pl tm) (hs : s < 5) (D : MA g s A) (ok : AOK A) :
    ∃ g', f_X9_reckon_L72 fu 45 (nI s) 0 g = some g' ∧ FrM [59, 78, 79, 80] [] g g' ∧ RCK pd pl tm A g' := by
  refine forN (fun n v g => f_X9_reckon_L72 n 45 (nI s) v g) 104 (by omega) (fun v g' => FrM [59, 78, 79, 80] [] g g' ∧ ∀ u, u < v → hi g' 78 u = cntW pd pl tm A u ∧ hi g' 79 u = nI (mkwW pd pl tm A u) ∧ hi g' 80 u = if empW pd pl tm A u = true then 1 else 0) (fun g' => FrM [59, 78, 79, 80] [] g g' ∧ RCK pd pl tm A g') ?_ ?_ (i0 := 0) (Nat.zero_le _) ⟨FrM.rfl, fun u hu => absurd hu (Nat.not_lt_zero _)⟩
  · rintro n g1 ⟨I1, I2⟩
    exact ⟨g1, by simp only [f_X9_reckon_L72.eq_2]; rw [if_pos (by decide)], I1, I2⟩
  · rintro n v g1 hv ⟨I1, I2⟩
    right
    have X1 := I1.fx X
    have n0 : ¬ (104 : Int32) ≤ nI v := by rw [L104, nI_leI (by omega) (by omega)]; omega
    obtain ⟨g2, eg2⟩ : ∃ g2, g2 = si (si g1 78 v 0) 79 v 0 := ⟨_, rfl⟩
    have fr2 : FrM [59, 78, 79, 80] [] g1 g2 := by rw [eg2]; exact (FrM.row (by decide) (by decide)).trans (FrM.row (by decide) (by decide))
    have X2 := fr2.fx X1
    have fr12 := I1.trans fr2
    have E2 := E.fr fr12 (by decide) (by decide)
    have D2 := D.fr fr12 (by decide)
    -- the empty line
    have emp : ∃ g3, FrM [59] [] g2 g3 ∧ (b1 ((if hi g2 61 s = (0 : Int32) then some (0, g2) else (rc g2 (some 45) 8).bind fun g88 => b1 (f_X9_holds g88 (nI s) (10 : Int32) (nI v) g2) fun x90 h86 => if x90 = (0 : Int32) then some (0, h86) else some (1, h86) : Option (Int32 × Hp))) (fun w92 h93 => some (w92, h93)) = some ((if empW pd pl tm A v = true then 1 else 0), g3)) := by
      have D4 := D2.2.2.2
      unfold MEm at D4
      unfold empW
      cases hA : A.2.2.2 with
      | none =>
        rw [hA] at D4
        have D4' : hi g2 61 s = 0 := D4
        exact ⟨g2, FrM.rfl, by rw [D4', if_pos rfl]; rfl⟩
      | some C =>
        rw [hA] at D4
        have D4' : hi g2 61 s = 1 ∧ CD g2 s 10 C := D4
        obtain ⟨g3, b1', b2'⟩ := m_holds X2 E2 hv hs (show 10 < 11 by omega) D4'.2 (ok.2.1 C hA)
        have b1'' : f_X9_holds 45 (nI s) (10 : Int32) (nI v) g2 = some (if evV pd pl tm v C = 0 then 0 else 1, g3) := b1'
        refine ⟨g3, b2', ?_⟩
        rw [D4'.1, if_neg (by decide), rc45 X2, bd_some, b1'', b1_some]
        by_cases z : evV pd pl tm v C = 0 <;> simp [z, b1]
    obtain ⟨g3, fr3, em⟩ := emp
    have X3 := fr3.fx X2
    obtain ⟨g4, eg4⟩ : ∃ g4, g4 = si g3 80 v (if empW pd pl tm A v = true then 1 else 0) := ⟨_, rfl⟩
    have fr4 : FrM [59, 78, 79, 80] [] g3 g4 := by rw [eg4]; exact FrM.row (by decide) (by decide)
    have fr14 := (fr12.trans (fr3.wk (by decide) (by decide))).trans fr4
    have X4 := fr14.fx X
    obtain ⟨g5, c1', c2', c3', c4', c5'⟩ := m_reckon131 (A := A) X4 (E.fr fr14 (by decide) (by decide)) hv hs (D.fr fr14 (by decide)).2.2.1 ok.1
      (by rw [eg4]; simp (disch := (first | assumption | omega | decide)) only [hi_hit, hi_row, hi_col, hj_hit, hj_row, hj_col, hi_sj, hj_si, hq_si, hq_sj, hi_sq, hj_sq, hi_srh, hi_srm, hj_sr, hq_sr, hq_hit, hq_row, hq_col]; rw [fr3.ei _ (by decide) (by decide), eg2]; simp (disch := (first | assumption | omega | decide)) only [hi_hit, hi_row, hi_col, hj_hit, hj_row, hj_col, hi_sj, hj_si, hq_si, hq_sj, hi_sq, hj_sq, hi_srh, hi_srm, hj_sr, hq_sr, hq_hit, hq_row, hq_col])
      (by rw [eg4]; simp (disch := (first | assumption | omega | decide)) only [hi_hit, hi_row, hi_col, hj_hit, hj_row, hj_col, hi_sj, hj_si, hq_si, hq_sj, hi_sq, hj_sq, hi_srh, hi_srm, hj_sr, hq_sr, hq_hit, hq_row, hq_col]; rw [fr3.ei _ (by decide) (by decide), eg2]; simp (disch := (first | assumption | omega | decide)) only [hi_hit, hi_row, hi_col, hj_hit, hj_row, hj_col, hi_sj, hj_si, hq_si, hq_sj, hi_sq, hj_sq, hi_srh, hi_srm, hj_sr, hq_sr, hq_hit, hq_row, hq_col])
    have z01 : (if empW pd pl tm A v = true then (1 : Int32) else 0) = 0 ∨ (if empW pd pl tm A v = true then (1 : Int32) else 0) = 1 := by split <;> simp
    refine ⟨g5, ?_, fr14.trans (c2'.wk (by decide) (by decide)), fun u hu => ?_⟩
    · obtain ⟨e, he⟩ : ∃ e, e = (if empW pd pl tm A v = true then (1 : Int32) else 0) := ⟨_, rfl⟩
      rw [← he] at em eg4 z01
      obtain ⟨o, ho⟩ : ∃ o, o = ((if hi g2 61 s = (0 : Int32) then some (0, g2) else (rc g2 (some 45) 8).bind fun g88 => b1 (f_X9_holds g88 (nI s) (10 : Int32) (nI v) g2) fun x90 h86 => if x90 = (0 : Int32) then some (0, h86) else some (1, h86) : Option (Int32 × Hp))) := ⟨_, rfl⟩
      rw [← ho] at em
      have ho2 : o = some (e, g3) := by
        cases o with
        | none => exact absurd em (by simp [b1])
        | some p =>
          obtain ⟨p1, p2⟩ := p
          exact em
      have e1 : wrI g1 (some 78) (nI v) 0 = some (si g1 78 v 0) := w78 X1 hv 0
      have X1b : FX (si g1 78 v 0) := X1
      have e2 : wrI (si g1 78 v 0) (some 79) (nI v) 0 = some g2 := by rw [eg2]; exact w79 X1b hv 0
      have e3 : rdI g2 (some 61) 12 (nI s) = some (hi g2 61 s) := r61 X2 (by omega)
      have e4 : wrZ g3 (some 80) (nI v) e = some g4 := by rw [eg4]; exact w80 X3 hv z01
      rw [f_X9_reckon_L72.eq_2, if_neg n0, q45_52 X1, bd_some, e1, bd_some, q45_53 X1b, bd_some, e2, bd_some, q45_54 X2, bd_some, q45_24 X2, bd_some, e3, bd_some, ← ho, ho2, b1_some, e4, bd_some, c1', bd_some, nI_1]
    · by_cases z : u = v
      · subst z
        exact ⟨c3', c4', by rw [c2'.ei _ (by decide) (by decide), eg4, hi_hit]⟩
      · obtain ⟨y1, y2⟩ := c5' u z
        obtain ⟨o1, o2, o3⟩ := I2 u (by omega)
        rw [y1, y2, c2'.ei _ (by decide) (by decide), eg4]
        simp (disch := (first | assumption | omega | decide)) only [hi_hit, hi_row, hi_col, hj_hit, hj_row, hj_col, hi_sj, hj_si, hq_si, hq_sj, hi_sq, hj_sq, hi_srh, hi_srm, hj_sr, hq_sr, hq_hit, hq_row, hq_col]
        rw [fr3.ei _ (by decide) (by decide), fr3.ei _ (by decide) (by decide), fr3.ei _ (by decide) (by decide), eg2]
        simp (disch := (first | assumption | omega | decide)) only [hi_hit, hi_row, hi_col, hj_hit, hj_row, hj_col, hi_sj, hj_si, hq_si, hq_sj, hi_sq, hj_sq, hi_srh, hi_srm, hj_sr, hq_sr, hq_hit, hq_row, hq_col]
        exact ⟨o1, o2, o3⟩
end Mr
/-- what was paid, the base by highs or by lows -/
noncomputable def PDh (F : Nat → Nat → Int32) (wk k : Int32) (nf : Nat) (hb : Bool) (i u : Nat) : Int32 := if i = 0 then (if hb = true then HIG F wk k nf u else LOW F wk k nf u) else PD F wk k nf i u
def bI (b : Bool) : Int32 := if b = true then 1 else 0
theorem m_reckon15 {g : Hp} (X : FX g) {F : Nat → Nat → Int32} {wk k : Int32} {nf : Nat} (K : KNW F wk k nf g) (hb : Bool) (s : Int32) :
    ∃ g', f_X9_reckon_L15 fu 45 s (bI hb) 0 g = some g' ∧ FrM [72] [] g g' ∧ ∀ i u, i < 6 → u < 104 → hi g' 72 (6 * u + i) = PDh F wk k nf hb i u := by
  obtain ⟨K1, K2, K3, K4⟩ := K
  refine forN (fun n v g => f_X9_reckon_L15 n 45 s (bI hb) v g) 104 (by omega) (fun v g' => FrM [72] [] g g' ∧ (∀ i u, i < 6 → u < v → hi g' 72 (6 * u + i) = PDh F wk k nf hb i u) ∧ ∀ i u, i < 6 → v ≤ u → u < 104 → hi g' 72 (6 * u + i) = PD F wk k nf i u) (fun g' => FrM [72] [] g g' ∧ ∀ i u, i < 6 → u < 104 → hi g' 72 (6 * u + i) = PDh F wk k nf hb i u) ?_ ?_ (i0 := 0) (Nat.zero_le _) ⟨FrM.rfl, fun i u _ hu => absurd hu (Nat.not_lt_zero _), fun i u hi' _ hu => K1 i u hi' hu⟩
  · rintro n g1 ⟨I1, I2, -⟩
    exact ⟨g1, by simp only [f_X9_reckon_L15.eq_2]; rw [if_pos (by decide)], I1, I2⟩
  · rintro n v g1 hv ⟨I1, I2, I3⟩
    right
    have X1 := I1.fx X
    have n0 : ¬ (104 : Int32) ≤ nI v := by rw [L104, nI_leI (by omega) (by omega)]; omega
    have e76 : hi g1 76 v = if LSn F wk k nf v = true then 1 else 0 := (I1.ei _ (by decide) (by decide)).trans (K2 v hv)
    have e73 : hi g1 73 v = LOW F wk k nf v := (I1.ei _ (by decide) (by decide)).trans (K4 v hv).1
    have e74 : hi g1 74 v = HIG F wk k nf v := (I1.ei _ (by decide) (by decide)).trans (K4 v hv).2
    by_cases c : LSn F wk k nf v = true
    · rw [if_pos c] at e76
      have hx : 6 * v < 624 := by omega
      refine ⟨si g1 72 (6 * v) (if hb = true then HIG F wk k nf v else LOW F wk k nf v), ?_, I1.trans (FrM.row (by decide) (by decide)), fun i u hi' hu => ?_, fun i u hi' h1 h2 => ?_⟩
      · simp only [f_X9_reckon_L15.eq_2]
        cases hb with
        | false =>
          have b0 : bI false = 0 := rfl
          simp (disch := (first | assumption | (simp only [FX_si, FX_sj, FX_sr, WX_si, WX_sj, WX_sr, FK_si, FK_sj, FK_sr]; assumption) | omega | decide)) only [n0, e76, nI_60, b0, e73, nI_1, Bool.false_eq_true, ↓reduceIte, if_true, if_false, i10, i01, eq_self, wq7, wq8, wq9, wq10, wrc, wgi, wpi, wpz, wn1, wn2, wn3, wn4, wr1, wr2, wr3, wr4, ww1, ww2, ww3, ww4, fgi, fgq, fpi, frc, at18, at19, at21, at22, at23, at24, at25, at26, at_neg, wat1, wat2, wat3, wat4, reduceCtorEq, bd_some, b1_some, b2_some, b3_some, b4_some, c1_eq, elim_inl, elim_inr, zok0, zok1, getQ_si, getQ_sj, getQ_sr, q8_0, q8_1, q8_2, q8_4, q8_7, q8_8, q8_9, q8_10, q8_11, q9_0, q9_3, q9_4, q9_8, q17_0, q17_1, q17_2, q17_4, q17_5, q17_6, q17_9, q17_10, q17_11, q27_4, q27_5, q27_6, q27_7, q27_8, q27_11, q45_0, q45_1, q45_11, q45_12, q45_13, q45_14, q45_15, q45_16, q45_17, q45_18, q45_19, q45_20, q45_21, q45_22, q45_23, q45_24, q45_30, q45_31, q45_32, q45_33, q45_34, q45_35, q45_36, q45_37, q45_38, q45_39, q45_43, q45_44, q45_45, q45_46, q45_47, q45_48, q45_52, q45_53, q45_54, q45_59, q45_60, q45_61, q45_62, q45_65, q45_67, q45_68, gi8, gj8, pi8, pz8, pj8, rc8, gi9, gj9, pi9, pz9, pj9, rc9, gi17, gj17, pi17, pz17, pj17, rc17, gi27, gj27, pi27, pz27, pj27, rc27, gi45, gj45, pi45, pz45, pj45, rc45, aln_si, aln_sj, aln_sq, rc_si, rc_sj, rc_sq, n0, n1, n10, n11, n12, n13, n14, n15, n16, n18, n19, n20, n21, n22, n23, n24, n25, n26, n29, n30, n31, n32, n33, n34, n35, n36, n37, n38, n39, n40, n42, n43, n44, n46, n47, n48, n49, n50, n51, n52, n53, n54, n55, n56, n57, n58, n59, n60, n61, n62, n63, n64, n65, n66, n67, n68, n69, n70, n71, n72, n73, n74, n75, n76, n77, n78, n79, n80, n81, n82, n83, n84, n85, n86, n87, r0, r1, r10, r11, r12, r13, r14, r15, r16, r18, r19, r20, r21, r22, r23, r24, r25, r26, r29, r30, r31, r32, r33, r34, r35, r36, r37, r38, r39, r40, r42, r43, r44, r46, r47, r48, r49, r50, r51, r52, r53, r54, r55, r56, r57, r58, r59, r60, r61, r62, r63, r64, r65, r66, r67, r68, r69, r70, r71, r72, r73, r74, r75, r76, r77, r78, r79, r80, r81, r82, r83, r84, r85, r86, r87, w10, w11, w12, w13, w18, w19, w20, w21, w22, w23, w24, w25, w26, w30, w31, w32, w33, w34, w35, w36, w38, w39, w40, w43, w44, w46, w47, w48, w49, w50, w51, w52, w53, w54, w55, w56, w57, w58, w59, w60, w61, w62, w63, w64, w65, w66, w67, w68, w69, w70, w71, w72, w73, w74, w75, w76, w77, w78, w79, w80, w81, w82, w83, w84, w85, w86, w87, hi_hit, hi_row, hi_col, hj_hit, hj_row, hj_col, hi_sj, hj_si, hq_si, hq_sj, hi_sq, hj_sq, hi_srh, hi_srm]
        | true =>
          have b0 : bI true = 1 := rfl
          simp (disch := (first | assumption | (simp only [FX_si, FX_sj, FX_sr, WX_si, WX_sj, WX_sr, FK_si, FK_sj, FK_sr]; assumption) | omega | decide)) only [n0, e76, nI_60, b0, e74, nI_1, ↓reduceIte, if_true, if_false, i10, i01, eq_self, wq7, wq8, wq9, wq10, wrc, wgi, wpi, wpz, wn1, wn2, wn3, wn4, wr1, wr2, wr3, wr4, ww1, ww2, ww3, ww4, fgi, fgq, fpi, frc, at18, at19, at21, at22, at23, at24, at25, at26, at_neg, wat1, wat2, wat3, wat4, reduceCtorEq, bd_some, b1_some, b2_some, b3_some, b4_some, c1_eq, elim_inl, elim_inr, zok0, zok1, getQ_si, getQ_sj, getQ_sr, q8_0, q8_1, q8_2, q8_4, q8_7, q8_8, q8_9, q8_10, q8_11, q9_0, q9_3, q9_4, q9_8, q17_0, q17_1, q17_2, q17_4, q17_5, q17_6, q17_9, q17_10, q17_11, q27_4, q27_5, q27_6, q27_7, q27_8, q27_11, q45_0, q45_1, q45_11, q45_12, q45_13, q45_14, q45_15, q45_16, q45_17, q45_18, q45_19, q45_20, q45_21, q45_22, q45_23, q45_24, q45_30, q45_31, q45_32, q45_33, q45_34, q45_35, q45_36, q45_37, q45_38, q45_39, q45_43, q45_44, q45_45, q45_46, q45_47, q45_48, q45_52, q45_53, q45_54, q45_59, q45_60, q45_61, q45_62, q45_65, q45_67, q45_68, gi8, gj8, pi8, pz8, pj8, rc8, gi9, gj9, pi9, pz9, pj9, rc9, gi17, gj17, pi17, pz17, pj17, rc17, gi27, gj27, pi27, pz27, pj27, rc27, gi45, gj45, pi45, pz45, pj45, rc45, aln_si, aln_sj, aln_sq, rc_si, rc_sj, rc_sq, n0, n1, n10, n11, n12, n13, n14, n15, n16, n18, n19, n20, n21, n22, n23, n24, n25, n26, n29, n30, n31, n32, n33, n34, n35, n36, n37, n38, n39, n40, n42, n43, n44, n46, n47, n48, n49, n50, n51, n52, n53, n54, n55, n56, n57, n58, n59, n60, n61, n62, n63, n64, n65, n66, n67, n68, n69, n70, n71, n72, n73, n74, n75, n76, n77, n78, n79, n80, n81, n82, n83, n84, n85, n86, n87, r0, r1, r10, r11, r12, r13, r14, r15, r16, r18, r19, r20, r21, r22, r23, r24, r25, r26, r29, r30, r31, r32, r33, r34, r35, r36, r37, r38, r39, r40, r42, r43, r44, r46, r47, r48, r49, r50, r51, r52, r53, r54, r55, r56, r57, r58, r59, r60, r61, r62, r63, r64, r65, r66, r67, r68, r69, r70, r71, r72, r73, r74, r75, r76, r77, r78, r79, r80, r81, r82, r83, r84, r85, r86, r87, w10, w11, w12, w13, w18, w19, w20, w21, w22, w23, w24, w25, w26, w30, w31, w32, w33, w34, w35, w36, w38, w39, w40, w43, w44, w46, w47, w48, w49, w50, w51, w52, w53, w54, w55, w56, w57, w58, w59, w60, w61, w62, w63, w64, w65, w66, w67, w68, w69, w70, w71, w72, w73, w74, w75, w76, w77, w78, w79, w80, w81, w82, w83, w84, w85, w86, w87, hi_hit, hi_row, hi_col, hj_hit, hj_row, hj_col, hi_sj, hj_si, hq_si, hq_sj, hi_sq, hj_sq, hi_srh, hi_srm]
      · by_cases z : u = v
        · subst z
          unfold PDh
          by_cases y : i = 0
          · subst y
            rw [if_pos rfl, Nat.add_zero, hi_hit]
          · rw [if_neg y, hi_col 72 _ (by omega)]
            exact I3 i u hi' (Nat.le_refl _) hv
        · rw [hi_col 72 _ (by omega)]
          exact I2 i u hi' (by omega)
      · rw [hi_col 72 _ (by omega)]
        exact I3 i u hi' (by omega) h2
    · rw [if_neg c] at e76
      refine ⟨g1, ?_, I1, fun i u hi' hu => ?_, fun i u hi' h1 h2 => I3 i u hi' (by omega) h2⟩
      · simp only [f_X9_reckon_L15.eq_2]
        simp (disch := (first | assumption | (simp only [FX_si, FX_sj, FX_sr, WX_si, WX_sj, WX_sr, FK_si, FK_sj, FK_sr]; assumption) | omega | decide)) only [n0, e76, nI_1, ↓reduceIte, if_true, if_false, i10, i01, eq_self, wq7, wq8, wq9, wq10, wrc, wgi, wpi, wpz, wn1, wn2, wn3, wn4, wr1, wr2, wr3, wr4, ww1, ww2, ww3, ww4, fgi, fgq, fpi, frc, at18, at19, at21, at22, at23, at24, at25, at26, at_neg, wat1, wat2, wat3, wat4, reduceCtorEq, bd_some, b1_some, b2_some, b3_some, b4_some, c1_eq, elim_inl, elim_inr, zok0, zok1, getQ_si, getQ_sj, getQ_sr, q8_0, q8_1, q8_2, q8_4, q8_7, q8_8, q8_9, q8_10, q8_11, q9_0, q9_3, q9_4, q9_8, q17_0, q17_1, q17_2, q17_4, q17_5, q17_6, q17_9, q17_10, q17_11, q27_4, q27_5, q27_6, q27_7, q27_8, q27_11, q45_0, q45_1, q45_11, q45_12, q45_13, q45_14, q45_15, q45_16, q45_17, q45_18, q45_19, q45_20, q45_21, q45_22, q45_23, q45_24, q45_30, q45_31, q45_32, q45_33, q45_34, q45_35, q45_36, q45_37, q45_38, q45_39, q45_43, q45_44, q45_45, q45_46, q45_47, q45_48, q45_52, q45_53, q45_54, q45_59, q45_60, q45_61, q45_62, q45_65, q45_67, q45_68, gi8, gj8, pi8, pz8, pj8, rc8, gi9, gj9, pi9, pz9, pj9, rc9, gi17, gj17, pi17, pz17, pj17, rc17, gi27, gj27, pi27, pz27, pj27, rc27, gi45, gj45, pi45, pz45, pj45, rc45, aln_si, aln_sj, aln_sq, rc_si, rc_sj, rc_sq, n0, n1, n10, n11, n12, n13, n14, n15, n16, n18, n19, n20, n21, n22, n23, n24, n25, n26, n29, n30, n31, n32, n33, n34, n35, n36, n37, n38, n39, n40, n42, n43, n44, n46, n47, n48, n49, n50, n51, n52, n53, n54, n55, n56, n57, n58, n59, n60, n61, n62, n63, n64, n65, n66, n67, n68, n69, n70, n71, n72, n73, n74, n75, n76, n77, n78, n79, n80, n81, n82, n83, n84, n85, n86, n87, r0, r1, r10, r11, r12, r13, r14, r15, r16, r18, r19, r20, r21, r22, r23, r24, r25, r26, r29, r30, r31, r32, r33, r34, r35, r36, r37, r38, r39, r40, r42, r43, r44, r46, r47, r48, r49, r50, r51, r52, r53, r54, r55, r56, r57, r58, r59, r60, r61, r62, r63, r64, r65, r66, r67, r68, r69, r70, r71, r72, r73, r74, r75, r76, r77, r78, r79, r80, r81, r82, r83, r84, r85, r86, r87, w10, w11, w12, w13, w18, w19, w20, w21, w22, w23, w24, w25, w26, w30, w31, w32, w33, w34, w35, w36, w38, w39, w40, w43, w44, w46, w47, w48, w49, w50, w51, w52, w53, w54, w55, w56, w57, w58, w59, w60, w61, w62, w63, w64, w65, w66, w67, w68, w69, w70, w71, w72, w73, w74, w75, w76, w77, w78, w79, w80, w81, w82, w83, w84, w85, w86, w87, hi_hit, hi_row, hi_col, hj_hit, hj_row, hj_col, hi_sj, hj_si, hq_si, hq_sj, hi_sq, hj_sq, hi_srh, hi_srm]
      · by_cases z : u = v
        · subst z
          rw [I3 i u hi' (Nat.le_refl _) hv]
          unfold PDh HIG LOW
          rw [if_neg c, if_neg c]
          by_cases y : i = 0
          · subst y
            rw [if_pos rfl]
            cases hb <;> rfl
          · rw [if_neg y]
        · exact I2 i u hi' (by omega)
theorem m_reckon {h : Hp} (X : FX h) {nw nf w : Nat} (hw : w < nw) (hw' : nw ≤ 10) (hnf : nf ≤ 250) (e41 : hi h 45 41 = nI nf) (R : RG (vF h) nw nf) (k : Int32) (hb : Bool) {s : Nat} (hs : s < 5) {A : Ac} (M : MA h s A) (ok : AOK A) (t01 : hi h 71 w = 0 ∨ hi h 71 w = 1) :
    ∃ g, f_X9_reckon 45 (nI s) (nI w) (bI hb) k h = some g ∧ FrM [59, 72, 73, 74, 75, 76, 77, 78, 79, 80] [49, 50, 51, 55] h g ∧ RCK (PDh (vF h) (nI w) k nf hb) (hi h 62 w) (hi h 71 w) A g := by
  obtain ⟨g1, a1, a2, a3, -⟩ := m_know X hw hw' hnf e41 R k
  have X1 := a2.fx X
  have fr2 : FrM [72, 73, 74, 75, 76, 77] [49, 50, 51, 55] g1 (si g1 45 55 (nI w)) := FrM.fld (by decide)
  have X2 := fr2.fx X1
  have K2 : KNW (vF h) (nI w) k nf (si g1 45 55 (nI w)) := by
    obtain ⟨K1, K2, K3, K4⟩ := a3
    refine ⟨fun i u hi' hu => ?_, fun u hu => ?_, ?_, fun u hu => ?_⟩
    · rw [hi_row _ _ _ (by decide)]; exact K1 i u hi' hu
    · rw [hi_row _ _ _ (by decide)]; exact K2 u hu
    · rw [hi_col _ _ (by decide)]; exact K3
    · rw [hi_row _ _ _ (by decide), hi_row _ _ _ (by decide)]; exact K4 u hu
  obtain ⟨g3, b1', b2', b3'⟩ := m_reckon15 X2 K2 hb (nI s)
  have X3 := b2'.fx X2
  have fr3 : FrM [72, 73, 74, 75, 76, 77] [49, 50, 51, 55] h g3 := ((a2.wk (by decide) (by decide)).trans fr2).trans (b2'.wk (by decide) (by decide))
  have E3 : MHE g3 (PDh (vF h) (nI w) k nf hb) (hi h 62 w) (hi h 71 w) := ⟨b3', w, by omega, by rw [b2'.ef (by decide), hi_hit], fr3.ei _ (by decide) (by decide), fr3.ei _ (by decide) (by decide), t01⟩
  obtain ⟨g4, c1', c2', c3'⟩ := m_reckon72 X3 E3 hs (M.fr fr3 (by decide)) ok
  refine ⟨g4, ?_, (fr3.wk (by decide) (by decide)).trans (c2'.wk (by decide) (by decide)), c3'⟩
  unfold f_X9_reckon
  simp (disch := (first | assumption | (simp only [FX_si, FX_sj, FX_sr, WX_si, WX_sj, WX_sr, FK_si, FK_sj, FK_sr]; assumption) | omega | decide)) only [a1, b1', c1', ↓reduceIte, if_true, if_false, i10, i01, eq_self, wq7, wq8, wq9, wq10, wrc, wgi, wpi, wpz, wn1, wn2, wn3, wn4, wr1, wr2, wr3, wr4, ww1, ww2, ww3, ww4, fgi, fgq, fpi, frc, at18, at19, at21, at22, at23, at24, at25, at26, at_neg, wat1, wat2, wat3, wat4, reduceCtorEq, bd_some, b1_some, b2_some, b3_some, b4_some, c1_eq, elim_inl, elim_inr, zok0, zok1, getQ_si, getQ_sj, getQ_sr, q8_0, q8_1, q8_2, q8_4, q8_7, q8_8, q8_9, q8_10, q8_11, q9_0, q9_3, q9_4, q9_8, q17_0, q17_1, q17_2, q17_4, q17_5, q17_6, q17_9, q17_10, q17_11, q27_4, q27_5, q27_6, q27_7, q27_8, q27_11, q45_0, q45_1, q45_11, q45_12, q45_13, q45_14, q45_15, q45_16, q45_17, q45_18, q45_19, q45_20, q45_21, q45_22, q45_23, q45_24, q45_30, q45_31, q45_32, q45_33, q45_34, q45_35, q45_36, q45_37, q45_38, q45_39, q45_43, q45_44, q45_45, q45_46, q45_47, q45_48, q45_52, q45_53, q45_54, q45_59, q45_60, q45_61, q45_62, q45_65, q45_67, q45_68, gi8, gj8, pi8, pz8, pj8, rc8, gi9, gj9, pi9, pz9, pj9, rc9, gi17, gj17, pi17, pz17, pj17, rc17, gi27, gj27, pi27, pz27, pj27, rc27, gi45, gj45, pi45, pz45, pj45, rc45, aln_si, aln_sj, aln_sq, rc_si, rc_sj, rc_sq, n0, n1, n10, n11, n12, n13, n14, n15, n16, n18, n19, n20, n21, n22, n23, n24, n25, n26, n29, n30, n31, n32, n33, n34, n35, n36, n37, n38, n39, n40, n42, n43, n44, n46, n47, n48, n49, n50, n51, n52, n53, n54, n55, n56, n57, n58, n59, n60, n61, n62, n63, n64, n65, n66, n67, n68, n69, n70, n71, n72, n73, n74, n75, n76, n77, n78, n79, n80, n81, n82, n83, n84, n85, n86, n87, r0, r1, r10, r11, r12, r13, r14, r15, r16, r18, r19, r20, r21, r22, r23, r24, r25, r26, r29, r30, r31, r32, r33, r34, r35, r36, r37, r38, r39, r40, r42, r43, r44, r46, r47, r48, r49, r50, r51, r52, r53, r54, r55, r56, r57, r58, r59, r60, r61, r62, r63, r64, r65, r66, r67, r68, r69, r70, r71, r72, r73, r74, r75, r76, r77, r78, r79, r80, r81, r82, r83, r84, r85, r86, r87, w10, w11, w12, w13, w18, w19, w20, w21, w22, w23, w24, w25, w26, w30, w31, w32, w33, w34, w35, w36, w38, w39, w40, w43, w44, w46, w47, w48, w49, w50, w51, w52, w53, w54, w55, w56, w57, w58, w59, w60, w61, w62, w63, w64, w65, w66, w67, w68, w69, w70, w71, w72, w73, w74, w75, w76, w77, w78, w79, w80, w81, w82, w83, w84, w85, w86, w87, hi_hit, hi_row, hi_col, hj_hit, hj_row, hj_col, hi_sj, hj_si, hq_si, hq_sj, hi_sq, hj_sq, hi_srh, hi_srm]
