/-! All holidays of a worker listed: the class's sheet and the model's rows. -/
theorem OWV_z {pd : Nat → Nat → Int32} {pl tm : Int32} {A : Ac} {F : Nat → Nat → Int32} {wk k : Int32} {nf f : Nat} : OWV pd pl tm A F wk k nf f ≤ 0 ↔ OWV pd pl tm A F wk k nf f = 0 := by
  unfold OWV
  split
  · exact ⟨fun _ => rfl, fun _ => Int32.le_refl _⟩
  · split
    · exact ⟨fun _ => rfl, fun _ => Int32.le_refl _⟩
    · rename_i c
      exact ⟨fun q => absurd q c, fun q => by rw [q]; exact Int32.le_refl _⟩
/-- the listed holidays in the class's cells -/
def LSC (g : Hp) (fa : Nat → Nat) (ow mk : Nat → Int32) (L : (Nat → Nat) × Nat) : Prop :=
  hi g 27 12 = nI L.2 ∧ ∀ j, j < L.2 → hq g 37 j = some (fa (L.1 j)) ∧ hi g (fa (L.1 j)) 9 = ow (L.1 j) ∧ hi g (fa (L.1 j)) 10 = mk (L.1 j) ∧ hi g (fa (L.1 j)) 11 = -1
theorem CFx.inj {g : Hp} {F : Nat → Nat → Int32} {nf : Nat} {fa : Nat → Nat} (C : CFx g F nf fa) (hnf : nf ≤ 250) {f f' : Nat} (hf : f < nf) (hf' : f' < nf) (e : fa f = fa f') : f = f' := by
  have h1 := (C f hf).2.2.1
  have h2 := (C f' hf').2.2.1
  rw [e, h2] at h1
  exact ((nI_eq (by omega) (by omega)).mp h1).symm
section Li
variable {P : Nat → Prop} {g : Hp} {b : Nat} {A : Ac} {pd : Nat → Nat → Int32} {pl tm : Int32} {F : Nat → Nat → Int32} {nw nf w : Nat} {fa : Nat → Nat} {k : Int32}
theorem c_list (hP : ∀ x, P x → OKA x) (ok : AOK A) (hpos : ∀ i u, i < 5 → u < 104 → 0 ≤ pd i u) (S : SHT P g b A pd pl tm) (C : CFx g F nf fa) (R : RG F nw nf) (hnf : nf ≤ 250) (h1 : hq g 27 1 = (nx F (nI w) nf 0).map fa) :
    ∃ g', f_X4_listHolidays 27 k g = some g' ∧ FrP H37 (RS nf fa) g g' ∧ SHT P g' b A pd pl tm ∧ LSC g' fa (OWV pd pl tm A F (nI w) k nf) (OMK pd pl tm A F) (LHn (OWV pd pl tm A F (nI w) k nf) F (nI w) k nf) := by
  have X := S.1
  obtain ⟨ow, eow⟩ : ∃ ow, ow = OWV pd pl tm A F (nI w) k nf := ⟨_, rfl⟩
  obtain ⟨mk, emk⟩ : ∃ mk, mk = OMK pd pl tm A F := ⟨_, rfl⟩
  rw [← eow, ← emk]
  have fr0 : FrP H37 (RN nf fa) g (si g 27 12 0) := FrP.si (Or.inl ⟨rfl, by decide⟩)
  have S0 := S.frp hP C fr0
  have key : ∃ g', f_X4_listHolidays_L10 fu 27 k ((nx F (nI w) nf 0).map fa) (si g 27 12 0) = some g' ∧ (FrP H37 (RS nf fa) g g' ∧ SHT P g' b A pd pl tm ∧ LSC g' fa ow mk (LHn ow F (nI w) k nf)) := by
    refine lstF (fun n q g => f_X4_listHolidays_L10 n 27 k q g) (fun i g' => FrP H37 (RS nf fa) g g' ∧ SHT P g' b A pd pl tm ∧ LSC g' fa ow mk (LHn ow F (nI w) k i)) (fun g' => FrP H37 (RS nf fa) g g' ∧ SHT P g' b A pd pl tm ∧ LSC g' fa ow mk (LHn ow F (nI w) k nf)) (by omega) ?_ ?_ ?_ ⟨fr0.mono (fun _ _ q => q) RN_RS, S0, hi_hit _ _ _, fun j hj => absurd hj (Nat.not_lt_zero _)⟩
    · rintro n g1 I
      exact ⟨g1, by simp only [f_X4_listHolidays_L10.eq_2, ↓reduceIte], I⟩
    · rintro i g1 hi' he ⟨I1, I2, I3⟩
      refine ⟨I1, I2, ?_⟩
      rw [LHn.eq_2, if_neg (fun q => he (cnts_iff.mp q.1).2.1)]
      exact I3
    · rintro n i g1 hi' he ⟨I1, I2, I3⟩
      right
      have X1 := I2.1
      have C1 := C.frp I1
      obtain ⟨c0, c1, c2, c3, c4, c5, c6, c7, c8, c9, c10⟩ := C1 i hi'
      have K : FK g1 (fa i) := c1
      have cc := c_counts (F := F) (f := i) c1 c7 c9 (R.1 i hi').2.2.2.2.2.2.2.2 k
      rw [he] at c10
      have skip : ¬ (cnts F 3 (nI w) k i = true ∧ ¬ ow i ≤ 0) → LHn ow F (nI w) k (i + 1) = LHn ow F (nI w) k i := fun q => by rw [LHn.eq_2, if_neg q]
      have z00 : (0 : Int32) ≤ 0 := Int32.le_refl _
      by_cases s3 : F 0 i = 3
      · have ec := ctk_cnts (k := k) s3 he
        rw [← ec] at cc
        have c3' : hi g1 (fa i) 1 = 3 := by rw [c3, s3]
        by_cases c : cnts F 3 (nI w) k i = true
        · rw [if_pos c] at cc
          have hq1 : hq g1 27 1 = (nx F (nI w) nf 0).map fa := by rw [I1.2.1 27 1 (fun q => absurd (show (27 : Nat) = 37 from q) (by decide))]; exact h1
          obtain ⟨g2, a1, a2, a3, a4⟩ := c_owed (k := k) (w := w) hP ok hpos I2 C1 R hnf hq1 hi' s3
          rw [← eow] at a1 a4
          rw [← emk] at a4
          have X2 := a3.1
          have fr2 : FrP H37 (RS nf fa) g1 g2 := FrP.ofFr a2 (fun x hx k => Or.inl (by simp at hx; omega)) (fun p hp => Or.inr (Or.inl (by simp at hp; rcases hp with rfl | rfl <;> exact ⟨rfl, by decide⟩)))
          have C2 := C1.frp fr2
          obtain ⟨-, k2, -⟩ := C2 i hi'
          have K2 : FK g2 (fa i) := k2
          have L2 : LSC g2 fa ow mk (LHn ow F (nI w) k i) := by
            refine ⟨by rw [a2.ef (by decide) (by decide)]; exact I3.1, fun j hj => ?_⟩
            have h88 := (C1 _ (by have := (LHn_at (ow := ow) (F := F) (wk := nI w) (k := k) i j hj).1; omega : (LHn ow F (nI w) k i).1 j < nf)).1
            rw [a2.2.1, a2.2.2.1 _ 9 (by simp; omega) (by simp; omega), a2.2.2.1 _ 10 (by simp; omega) (by simp; omega), a2.2.2.1 _ 11 (by simp; omega) (by simp)]
            exact I3.2 j hj
          by_cases z : ow i ≤ 0
          · refine ⟨g2, ?_, I1.trans fr2, a3, by rw [skip (fun q => q.2 z)]; exact L2⟩
            have c10' : hq g2 (fa i) 8 = (nx F (nI w) nf (i + 1)).map fa := by rw [a2.2.1]; exact c10
            simp only [f_X4_listHolidays_L10.eq_2]
            simp (disch := (first | assumption | (simp only [FX_si, FX_sj, FX_sr, WX_si, WX_sj, WX_sr, FK_si, FK_sj, FK_sr]; assumption) | omega | decide)) only [c3', cc, a1, z, c10', ↓reduceIte, if_true, if_false, i10, i01, eq_self, wq7, wq8, wq9, wq10, wrc, wgi, wpi, wpz, wn1, wn2, wn3, wn4, wr1, wr2, wr3, wr4, ww1, ww2, ww3, ww4, fgi, fgq, fpi, frc, at18, at19, at21, at22, at23, at24, at25, at26, at_neg, wat1, wat2, wat3, wat4, reduceCtorEq, bd_some, b1_some, b2_some, b3_some, b4_some, c1_eq, elim_inl, elim_inr, zok0, zok1, getQ_si, getQ_sj, getQ_sr, q8_0, q8_1, q8_2, q8_4, q8_7, q8_8, q8_9, q8_10, q8_11, q9_0, q9_3, q9_4, q9_8, q17_0, q17_1, q17_2, q17_4, q17_5, q17_6, q17_9, q17_10, q17_11, q27_4, q27_5, q27_6, q27_7, q27_8, q27_11, q45_0, q45_1, q45_11, q45_12, q45_13, q45_14, q45_15, q45_16, q45_17, q45_18, q45_19, q45_20, q45_21, q45_22, q45_23, q45_24, q45_30, q45_31, q45_32, q45_33, q45_34, q45_35, q45_36, q45_37, q45_38, q45_39, q45_43, q45_44, q45_45, q45_46, q45_47, q45_48, q45_52, q45_53, q45_54, q45_59, q45_60, q45_61, q45_62, q45_65, q45_67, q45_68, gi8, gj8, pi8, pz8, pj8, rc8, gi9, gj9, pi9, pz9, pj9, rc9, gi17, gj17, pi17, pz17, pj17, rc17, gi27, gj27, pi27, pz27, pj27, rc27, gi45, gj45, pi45, pz45, pj45, rc45, aln_si, aln_sj, aln_sq, rc_si, rc_sj, rc_sq, n0, n1, n10, n11, n12, n13, n14, n15, n16, n18, n19, n20, n21, n22, n23, n24, n25, n26, n29, n30, n31, n32, n33, n34, n35, n36, n37, n38, n39, n40, n42, n43, n44, n46, n47, n48, n49, n50, n51, n52, n53, n54, n55, n56, n57, n58, n59, n60, n61, n62, n63, n64, n65, n66, n67, n68, n69, n70, n71, n72, n73, n74, n75, n76, n77, n78, n79, n80, n81, n82, n83, n84, n85, n86, n87, r0, r1, r10, r11, r12, r13, r14, r15, r16, r18, r19, r20, r21, r22, r23, r24, r25, r26, r29, r30, r31, r32, r33, r34, r35, r36, r37, r38, r39, r40, r42, r43, r44, r46, r47, r48, r49, r50, r51, r52, r53, r54, r55, r56, r57, r58, r59, r60, r61, r62, r63, r64, r65, r66, r67, r68, r69, r70, r71, r72, r73, r74, r75, r76, r77, r78, r79, r80, r81, r82, r83, r84, r85, r86, r87, w10, w11, w12, w13, w18, w19, w20, w21, w22, w23, w24, w25, w26, w30, w31, w32, w33, w34, w35, w36, w38, w39, w40, w43, w44, w46, w47, w48, w49, w50, w51, w52, w53, w54, w55, w56, w57, w58, w59, w60, w61, w62, w63, w64, w65, w66, w67, w68, w69, w70, w71, w72, w73, w74, w75, w76, w77, w78, w79, w80, w81, w82, w83, w84, w85, w86, w87, hi_hit, hi_row, hi_col, hj_hit, hj_row, hj_col, hi_sj, hj_si, hq_si, hq_sj, hi_sq, hj_sq, hi_srh, hi_srm]
          · have e10 := a4 z
            obtain ⟨g3, eg3⟩ : ∃ g3, g3 = si (si (si g2 (fa i) 9 (ow i)) (fa i) 10 (mk i)) (fa i) 11 (-1) := ⟨_, rfl⟩
            have fr3 : FrP H37 (RN nf fa) g2 g3 := by
              rw [eg3]
              exact ((FrP.si (Or.inr ⟨i, hi', rfl, by decide⟩)).trans (FrP.si (Or.inr ⟨i, hi', rfl, by decide⟩))).trans (FrP.si (Or.inr ⟨i, hi', rfl, by decide⟩))
            have S3 := a3.frp hP C2 fr3
            have X3 := S3.1
            have C3 := C2.frp (fr3.mono (fun _ _ q => q) RN_RS)
            have hle := LHn_le (ow := ow) (F := F) (wk := nI w) (k := k) i
            have lt := fun j hj => (LHn_at (ow := ow) (F := F) (wk := nI w) (k := k) i j hj).1
            have e12 : hi g3 27 12 = nI (LHn ow F (nI w) k i).2 := by rw [eg3]; simp (disch := (first | assumption | omega | decide)) only [hi_hit, hi_row, hi_col, hj_hit, hj_row, hj_col, hi_sj, hj_si, hq_si, hq_sj, hi_sq, hj_sq, hi_srh, hi_srm, hj_sr, hq_sr, hq_hit, hq_row, hq_col]; exact L2.1
            obtain ⟨g4, d1', d2', d3', d4', d5'⟩ := c_insert (r := (LHn ow F (nI w) k i).1) X3 C3 hi' e12 (by omega) (fun j hj => ⟨by have := lt j hj; omega, by rw [eg3]; simp (disch := (first | assumption | omega | decide)) only [hi_hit, hi_row, hi_col, hj_hit, hj_row, hj_col, hi_sj, hj_si, hq_si, hq_sj, hi_sq, hj_sq, hi_srh, hi_srm, hj_sr, hq_sr, hq_hit, hq_row, hq_col]; exact (L2.2 j hj).1⟩)
            have S4 := S3.frp hP C3 d2'
            have X4 := S4.1
            have fr4 := I1.trans (fr2.trans ((fr3.trans d2').mono (fun _ _ q => q) RN_RS))
            have C4 := C.frp fr4
            have c10' : hq g4 (fa i) 8 = (nx F (nI w) nf (i + 1)).map fa := by have := (C4 i hi').2.2.2.2.2.2.2.2.2.2; rw [he] at this; exact this
            have k4 : FK g4 (fa i) := (C4 i hi').2.1
            refine ⟨g4, ?_, fr4, S4, ?_⟩
            · rw [eg3] at d1'
              simp only [f_X4_listHolidays_L10.eq_2]
              simp (disch := (first | assumption | (simp only [FX_si, FX_sj, FX_sr, WX_si, WX_sj, WX_sr, FK_si, FK_sj, FK_sr]; assumption) | omega | decide)) only [c3', cc, a1, z, e10, d1', c10', ↓reduceIte, if_true, if_false, i10, i01, eq_self, wq7, wq8, wq9, wq10, wrc, wgi, wpi, wpz, wn1, wn2, wn3, wn4, wr1, wr2, wr3, wr4, ww1, ww2, ww3, ww4, fgi, fgq, fpi, frc, at18, at19, at21, at22, at23, at24, at25, at26, at_neg, wat1, wat2, wat3, wat4, reduceCtorEq, bd_some, b1_some, b2_some, b3_some, b4_some, c1_eq, elim_inl, elim_inr, zok0, zok1, getQ_si, getQ_sj, getQ_sr, q8_0, q8_1, q8_2, q8_4, q8_7, q8_8, q8_9, q8_10, q8_11, q9_0, q9_3, q9_4, q9_8, q17_0, q17_1, q17_2, q17_4, q17_5, q17_6, q17_9, q17_10, q17_11, q27_4, q27_5, q27_6, q27_7, q27_8, q27_11, q45_0, q45_1, q45_11, q45_12, q45_13, q45_14, q45_15, q45_16, q45_17, q45_18, q45_19, q45_20, q45_21, q45_22, q45_23, q45_24, q45_30, q45_31, q45_32, q45_33, q45_34, q45_35, q45_36, q45_37, q45_38, q45_39, q45_43, q45_44, q45_45, q45_46, q45_47, q45_48, q45_52, q45_53, q45_54, q45_59, q45_60, q45_61, q45_62, q45_65, q45_67, q45_68, gi8, gj8, pi8, pz8, pj8, rc8, gi9, gj9, pi9, pz9, pj9, rc9, gi17, gj17, pi17, pz17, pj17, rc17, gi27, gj27, pi27, pz27, pj27, rc27, gi45, gj45, pi45, pz45, pj45, rc45, aln_si, aln_sj, aln_sq, rc_si, rc_sj, rc_sq, n0, n1, n10, n11, n12, n13, n14, n15, n16, n18, n19, n20, n21, n22, n23, n24, n25, n26, n29, n30, n31, n32, n33, n34, n35, n36, n37, n38, n39, n40, n42, n43, n44, n46, n47, n48, n49, n50, n51, n52, n53, n54, n55, n56, n57, n58, n59, n60, n61, n62, n63, n64, n65, n66, n67, n68, n69, n70, n71, n72, n73, n74, n75, n76, n77, n78, n79, n80, n81, n82, n83, n84, n85, n86, n87, r0, r1, r10, r11, r12, r13, r14, r15, r16, r18, r19, r20, r21, r22, r23, r24, r25, r26, r29, r30, r31, r32, r33, r34, r35, r36, r37, r38, r39, r40, r42, r43, r44, r46, r47, r48, r49, r50, r51, r52, r53, r54, r55, r56, r57, r58, r59, r60, r61, r62, r63, r64, r65, r66, r67, r68, r69, r70, r71, r72, r73, r74, r75, r76, r77, r78, r79, r80, r81, r82, r83, r84, r85, r86, r87, w10, w11, w12, w13, w18, w19, w20, w21, w22, w23, w24, w25, w26, w30, w31, w32, w33, w34, w35, w36, w38, w39, w40, w43, w44, w46, w47, w48, w49, w50, w51, w52, w53, w54, w55, w56, w57, w58, w59, w60, w61, w62, w63, w64, w65, w66, w67, w68, w69, w70, w71, w72, w73, w74, w75, w76, w77, w78, w79, w80, w81, w82, w83, w84, w85, w86, w87, hi_hit, hi_row, hi_col, hj_hit, hj_row, hj_col, hi_sj, hj_si, hq_si, hq_sj, hi_sq, hj_sq, hi_srh, hi_srm]
            · have eL : LHn ow F (nI w) k (i + 1) = (insr (LHn ow F (nI w) k i).1 i (ipos F (LHn ow F (nI w) k i).1 i (LHn ow F (nI w) k i).2), (LHn ow F (nI w) k i).2 + 1) := by rw [LHn.eq_2, if_pos ⟨c, z⟩]
              rw [eL]
              refine ⟨d4', fun j hj => ⟨d5' j hj, ?_⟩⟩
              have old : ∀ j, j < (LHn ow F (nI w) k i).2 → hi g4 (fa ((LHn ow F (nI w) k i).1 j)) 9 = ow ((LHn ow F (nI w) k i).1 j) ∧ hi g4 (fa ((LHn ow F (nI w) k i).1 j)) 10 = mk ((LHn ow F (nI w) k i).1 j) ∧ hi g4 (fa ((LHn ow F (nI w) k i).1 j)) 11 = -1 := fun j hj => by
                have l1 := lt j hj
                have h88 := (C1 _ (show (LHn ow F (nI w) k i).1 j < nf by omega)).1
                have hne : fa ((LHn ow F (nI w) k i).1 j) ≠ fa i := fun q => by
                  have := C1.inj hnf (by omega) hi' q
                  omega
                rw [d3' _ _ (Or.inl (by omega)), d3' _ _ (Or.inl (by omega)), d3' _ _ (Or.inl (by omega)), eg3]
                simp (disch := (first | assumption | omega | decide)) only [hi_hit, hi_row, hi_col, hj_hit, hj_row, hj_col, hi_sj, hj_si, hq_si, hq_sj, hi_sq, hj_sq, hi_srh, hi_srm, hj_sr, hq_sr, hq_hit, hq_row, hq_col]
                exact (L2.2 j hj).2
              have new : hi g4 (fa i) 9 = ow i ∧ hi g4 (fa i) 10 = mk i ∧ hi g4 (fa i) 11 = -1 := by
                rw [d3' _ _ (Or.inl (by omega)), d3' _ _ (Or.inl (by omega)), d3' _ _ (Or.inl (by omega)), eg3]
                simp (disch := (first | assumption | omega | decide)) only [hi_hit, hi_row, hi_col, hj_hit, hj_row, hj_col, hi_sj, hj_si, hq_si, hq_sj, hi_sq, hj_sq, hi_srh, hi_srm, hj_sr, hq_sr, hq_hit, hq_row, hq_col]
                exact ⟨trivial, trivial, trivial⟩
              exact insr_all (LHn ow F (nI w) k i).1 i (Q := fun x => hi g4 (fa x) 9 = ow x ∧ hi g4 (fa x) 10 = mk x ∧ hi g4 (fa x) 11 = -1) (ipos_le _ _ _ _) old new j hj
        · rw [if_neg c] at cc
          refine ⟨g1, ?_, I1, I2, by rw [skip (fun q => c q.1)]; exact I3⟩
          simp only [f_X4_listHolidays_L10.eq_2]
          simp (disch := (first | assumption | (simp only [FX_si, FX_sj, FX_sr, WX_si, WX_sj, WX_sr, FK_si, FK_sj, FK_sr]; assumption) | omega | decide)) only [c3', cc, z00, c10, ↓reduceIte, if_true, if_false, i10, i01, eq_self, wq7, wq8, wq9, wq10, wrc, wgi, wpi, wpz, wn1, wn2, wn3, wn4, wr1, wr2, wr3, wr4, ww1, ww2, ww3, ww4, fgi, fgq, fpi, frc, at18, at19, at21, at22, at23, at24, at25, at26, at_neg, wat1, wat2, wat3, wat4, reduceCtorEq, bd_some, b1_some, b2_some, b3_some, b4_some, c1_eq, elim_inl, elim_inr, zok0, zok1, getQ_si, getQ_sj, getQ_sr, q8_0, q8_1, q8_2, q8_4, q8_7, q8_8, q8_9, q8_10, q8_11, q9_0, q9_3, q9_4, q9_8, q17_0, q17_1, q17_2, q17_4, q17_5, q17_6, q17_9, q17_10, q17_11, q27_4, q27_5, q27_6, q27_7, q27_8, q27_11, q45_0, q45_1, q45_11, q45_12, q45_13, q45_14, q45_15, q45_16, q45_17, q45_18, q45_19, q45_20, q45_21, q45_22, q45_23, q45_24, q45_30, q45_31, q45_32, q45_33, q45_34, q45_35, q45_36, q45_37, q45_38, q45_39, q45_43, q45_44, q45_45, q45_46, q45_47, q45_48, q45_52, q45_53, q45_54, q45_59, q45_60, q45_61, q45_62, q45_65, q45_67, q45_68, gi8, gj8, pi8, pz8, pj8, rc8, gi9, gj9, pi9, pz9, pj9, rc9, gi17, gj17, pi17, pz17, pj17, rc17, gi27, gj27, pi27, pz27, pj27, rc27, gi45, gj45, pi45, pz45, pj45, rc45, aln_si, aln_sj, aln_sq, rc_si, rc_sj, rc_sq, n0, n1, n10, n11, n12, n13, n14, n15, n16, n18, n19, n20, n21, n22, n23, n24, n25, n26, n29, n30, n31, n32, n33, n34, n35, n36, n37, n38, n39, n40, n42, n43, n44, n46, n47, n48, n49, n50, n51, n52, n53, n54, n55, n56, n57, n58, n59, n60, n61, n62, n63, n64, n65, n66, n67, n68, n69, n70, n71, n72, n73, n74, n75, n76, n77, n78, n79, n80, n81, n82, n83, n84, n85, n86, n87, r0, r1, r10, r11, r12, r13, r14, r15, r16, r18, r19, r20, r21, r22, r23, r24, r25, r26, r29, r30, r31, r32, r33, r34, r35, r36, r37, r38, r39, r40, r42, r43, r44, r46, r47, r48, r49, r50, r51, r52, r53, r54, r55, r56, r57, r58, r59, r60, r61, r62, r63, r64, r65, r66, r67, r68, r69, r70, r71, r72, r73, r74, r75, r76, r77, r78, r79, r80, r81, r82, r83, r84, r85, r86, r87, w10, w11, w12, w13, w18, w19, w20, w21, w22, w23, w24, w25, w26, w30, w31, w32, w33, w34, w35, w36, w38, w39, w40, w43, w44, w46, w47, w48, w49, w50, w51, w52, w53, w54, w55, w56, w57, w58, w59, w60, w61, w62, w63, w64, w65, w66, w67, w68, w69, w70, w71, w72, w73, w74, w75, w76, w77, w78, w79, w80, w81, w82, w83, w84, w85, w86, w87, hi_hit, hi_row, hi_col, hj_hit, hj_row, hj_col, hi_sj, hj_si, hq_si, hq_sj, hi_sq, hj_sq, hi_srh, hi_srm]
      · have s3' : ¬ hi g1 (fa i) 1 = 3 := by rw [c3]; exact s3
        refine ⟨g1, ?_, I1, I2, by rw [skip (fun q => s3 (cnts_iff.mp q.1).1)]; exact I3⟩
        simp only [f_X4_listHolidays_L10.eq_2]
        simp (disch := (first | assumption | (simp only [FX_si, FX_sj, FX_sr, WX_si, WX_sj, WX_sr, FK_si, FK_sj, FK_sr]; assumption) | omega | decide)) only [s3', z00, c10, ↓reduceIte, if_true, if_false, i10, i01, eq_self, wq7, wq8, wq9, wq10, wrc, wgi, wpi, wpz, wn1, wn2, wn3, wn4, wr1, wr2, wr3, wr4, ww1, ww2, ww3, ww4, fgi, fgq, fpi, frc, at18, at19, at21, at22, at23, at24, at25, at26, at_neg, wat1, wat2, wat3, wat4, reduceCtorEq, bd_some, b1_some, b2_some, b3_some, b4_some, c1_eq, elim_inl, elim_inr, zok0, zok1, getQ_si, getQ_sj, getQ_sr, q8_0, q8_1, q8_2, q8_4, q8_7, q8_8, q8_9, q8_10, q8_11, q9_0, q9_3, q9_4, q9_8, q17_0, q17_1, q17_2, q17_4, q17_5, q17_6, q17_9, q17_10, q17_11, q27_4, q27_5, q27_6, q27_7, q27_8, q27_11, q45_0, q45_1, q45_11, q45_12, q45_13, q45_14, q45_15, q45_16, q45_17, q45_18, q45_19, q45_20, q45_21, q45_22, q45_23, q45_24, q45_30, q45_31, q45_32, q45_33, q45_34, q45_35, q45_36, q45_37, q45_38, q45_39, q45_43, q45_44, q45_45, q45_46, q45_47, q45_48, q45_52, q45_53, q45_54, q45_59, q45_60, q45_61, q45_62, q45_65, q45_67, q45_68, gi8, gj8, pi8, pz8, pj8, rc8, gi9, gj9, pi9, pz9, pj9, rc9, gi17, gj17, pi17, pz17, pj17, rc17, gi27, gj27, pi27, pz27, pj27, rc27, gi45, gj45, pi45, pz45, pj45, rc45, aln_si, aln_sj, aln_sq, rc_si, rc_sj, rc_sq, n0, n1, n10, n11, n12, n13, n14, n15, n16, n18, n19, n20, n21, n22, n23, n24, n25, n26, n29, n30, n31, n32, n33, n34, n35, n36, n37, n38, n39, n40, n42, n43, n44, n46, n47, n48, n49, n50, n51, n52, n53, n54, n55, n56, n57, n58, n59, n60, n61, n62, n63, n64, n65, n66, n67, n68, n69, n70, n71, n72, n73, n74, n75, n76, n77, n78, n79, n80, n81, n82, n83, n84, n85, n86, n87, r0, r1, r10, r11, r12, r13, r14, r15, r16, r18, r19, r20, r21, r22, r23, r24, r25, r26, r29, r30, r31, r32, r33, r34, r35, r36, r37, r38, r39, r40, r42, r43, r44, r46, r47, r48, r49, r50, r51, r52, r53, r54, r55, r56, r57, r58, r59, r60, r61, r62, r63, r64, r65, r66, r67, r68, r69, r70, r71, r72, r73, r74, r75, r76, r77, r78, r79, r80, r81, r82, r83, r84, r85, r86, r87, w10, w11, w12, w13, w18, w19, w20, w21, w22, w23, w24, w25, w26, w30, w31, w32, w33, w34, w35, w36, w38, w39, w40, w43, w44, w46, w47, w48, w49, w50, w51, w52, w53, w54, w55, w56, w57, w58, w59, w60, w61, w62, w63, w64, w65, w66, w67, w68, w69, w70, w71, w72, w73, w74, w75, w76, w77, w78, w79, w80, w81, w82, w83, w84, w85, w86, w87, hi_hit, hi_row, hi_col, hj_hit, hj_row, hj_col, hi_sj, hj_si, hq_si, hq_sj, hi_sq, hj_sq, hi_srh, hi_srm]
  obtain ⟨g', b1', b2'⟩ := key
  refine ⟨g', ?_, b2'⟩
  have hq1 : getQ (si g 27 12 0) (some 27) 4 1 = some ((nx F (nI w) nf 0).map fa) := by rw [getQ_si, getQ_of 1 (k27 X), h1]
  unfold f_X4_listHolidays
  simp (disch := (first | assumption | (simp only [FX_si, FX_sj, FX_sr, WX_si, WX_sj, WX_sr, FK_si, FK_sj, FK_sr]; assumption) | omega | decide)) only [hq1, b1', ↓reduceIte, if_true, if_false, i10, i01, eq_self, wq7, wq8, wq9, wq10, wrc, wgi, wpi, wpz, wn1, wn2, wn3, wn4, wr1, wr2, wr3, wr4, ww1, ww2, ww3, ww4, fgi, fgq, fpi, frc, at18, at19, at21, at22, at23, at24, at25, at26, at_neg, wat1, wat2, wat3, wat4, reduceCtorEq, bd_some, b1_some, b2_some, b3_some, b4_some, c1_eq, elim_inl, elim_inr, zok0, zok1, getQ_si, getQ_sj, getQ_sr, q8_0, q8_1, q8_2, q8_4, q8_7, q8_8, q8_9, q8_10, q8_11, q9_0, q9_3, q9_4, q9_8, q17_0, q17_1, q17_2, q17_4, q17_5, q17_6, q17_9, q17_10, q17_11, q27_4, q27_5, q27_6, q27_7, q27_8, q27_11, q45_0, q45_1, q45_11, q45_12, q45_13, q45_14, q45_15, q45_16, q45_17, q45_18, q45_19, q45_20, q45_21, q45_22, q45_23, q45_24, q45_30, q45_31, q45_32, q45_33, q45_34, q45_35, q45_36, q45_37, q45_38, q45_39, q45_43, q45_44, q45_45, q45_46, q45_47, q45_48, q45_52, q45_53, q45_54, q45_59, q45_60, q45_61, q45_62, q45_65, q45_67, q45_68, gi8, gj8, pi8, pz8, pj8, rc8, gi9, gj9, pi9, pz9, pj9, rc9, gi17, gj17, pi17, pz17, pj17, rc17, gi27, gj27, pi27, pz27, pj27, rc27, gi45, gj45, pi45, pz45, pj45, rc45, aln_si, aln_sj, aln_sq, rc_si, rc_sj, rc_sq, n0, n1, n10, n11, n12, n13, n14, n15, n16, n18, n19, n20, n21, n22, n23, n24, n25, n26, n29, n30, n31, n32, n33, n34, n35, n36, n37, n38, n39, n40, n42, n43, n44, n46, n47, n48, n49, n50, n51, n52, n53, n54, n55, n56, n57, n58, n59, n60, n61, n62, n63, n64, n65, n66, n67, n68, n69, n70, n71, n72, n73, n74, n75, n76, n77, n78, n79, n80, n81, n82, n83, n84, n85, n86, n87, r0, r1, r10, r11, r12, r13, r14, r15, r16, r18, r19, r20, r21, r22, r23, r24, r25, r26, r29, r30, r31, r32, r33, r34, r35, r36, r37, r38, r39, r40, r42, r43, r44, r46, r47, r48, r49, r50, r51, r52, r53, r54, r55, r56, r57, r58, r59, r60, r61, r62, r63, r64, r65, r66, r67, r68, r69, r70, r71, r72, r73, r74, r75, r76, r77, r78, r79, r80, r81, r82, r83, r84, r85, r86, r87, w10, w11, w12, w13, w18, w19, w20, w21, w22, w23, w24, w25, w26, w30, w31, w32, w33, w34, w35, w36, w38, w39, w40, w43, w44, w46, w47, w48, w49, w50, w51, w52, w53, w54, w55, w56, w57, w58, w59, w60, w61, w62, w63, w64, w65, w66, w67, w68, w69, w70, w71, w72, w73, w74, w75, w76, w77, w78, w79, w80, w81, w82, w83, w84, w85, w86, w87, hi_hit, hi_row, hi_col, hj_hit, hj_row, hj_col, hi_sj, hj_si, hq_si, hq_sj, hi_sq, hj_sq, hi_srh, hi_srm]
end Li
/-- the listed holidays in the model's rows -/
def MLS (g : Hp) (ow mk : Nat → Int32) (L : (Nat → Nat) × Nat) : Prop := hi g 45 63 = nI L.2 ∧ ∀ j, j < L.2 → hi g 81 j = nI (L.1 j) ∧ hi g 82 j = ow (L.1 j) ∧ hi g 83 j = mk (L.1 j)
section Ml
variable {g : Hp} {A : Ac} {pd : Nat → Nat → Int32} {pl tm : Int32} {nw nf w s : Nat} {k : Int32}
theorem m_ins67 (X : FX g) {ow mk : Nat → Int32} {r : Nat → Nat} {c f : Nat} (hf : f < 250) (hc : c < 250) (hr : ∀ j, j < c → r j < 250 ∧ hi g 81 j = nI (r j) ∧ hi g 82 j = ow (r j) ∧ hi g 83 j = mk (r j)) (v1 v2 v4 v6 : Int32) :
    ∃ g', f_X9_gather_L67 fu 45 v1 v2 v4 (nI f) v6 (nI c) g = some (nI (ipos (vF g) r f c), g') ∧ FrM [81, 82, 83] [] g g' ∧ (∀ j, j < ipos (vF g) r f c → hi g' 81 j = nI (r j) ∧ hi g' 82 j = ow (r j) ∧ hi g' 83 j = mk (r j)) ∧ ∀ j, ipos (vF g) r f c < j → j ≤ c → hi g' 81 j = nI (r (j - 1)) ∧ hi g' 82 j = ow (r (j - 1)) ∧ hi g' 83 j = mk (r (j - 1)) := by
  obtain ⟨p, ep⟩ : ∃ p, p = ipos (vF g) r f c := ⟨_, rfl⟩
  rw [← ep]
  have key : ∃ o, f_X9_gather_L67 fu 45 v1 v2 v4 (nI f) v6 (nI c) g = some o ∧ (o.1 = nI p ∧ FrM [81, 82, 83] [] g o.2 ∧ (∀ j, j < p → hi o.2 81 j = nI (r j) ∧ hi o.2 82 j = ow (r j) ∧ hi o.2 83 j = mk (r j)) ∧ ∀ j, p < j → j ≤ c → hi o.2 81 j = nI (r (j - 1)) ∧ hi o.2 82 j = ow (r (j - 1)) ∧ hi o.2 83 j = mk (r (j - 1))) := by
    refine whl (fun n (q : Nat × Hp) => f_X9_gather_L67 n 45 v1 v2 v4 (nI f) v6 (nI q.1) q.2) (fun q => q.1) (fun q => q.1 ≤ c ∧ ipos (vF g) r f q.1 = p ∧ FrM [81, 82, 83] [] g q.2 ∧ (∀ j, j < q.1 → hi q.2 81 j = nI (r j) ∧ hi q.2 82 j = ow (r j) ∧ hi q.2 83 j = mk (r j)) ∧ ∀ j, q.1 < j → j ≤ c → hi q.2 81 j = nI (r (j - 1)) ∧ hi q.2 82 j = ow (r (j - 1)) ∧ hi q.2 83 j = mk (r (j - 1)))
      (fun o => o.1 = nI p ∧ FrM [81, 82, 83] [] g o.2 ∧ (∀ j, j < p → hi o.2 81 j = nI (r j) ∧ hi o.2 82 j = ow (r j) ∧ hi o.2 83 j = mk (r j)) ∧ ∀ j, p < j → j ≤ c → hi o.2 81 j = nI (r (j - 1)) ∧ hi o.2 82 j = ow (r (j - 1)) ∧ hi o.2 83 j = mk (r (j - 1))) ?_ fu (c, g) ⟨Nat.le_refl _, ep.symm, FrM.rfl, fun j hj => (hr j hj).2, fun j h1 h2 => by simp only at h1; omega⟩ (fu_gt (by show c ≤ _; omega))
    rintro n ⟨i, g1⟩ ⟨I0, I1, I2, I3, I4⟩
    simp only at I0 I1 I2 I3 I4
    have X1 := I2.fx X
    cases i with
    | zero =>
      left
      have p0 : p = 0 := I1.symm
      refine ⟨(nI 0, g1), ?_, by rw [p0], I2, fun j hj => by omega, fun j h1 h2 => I4 j (by omega) h2⟩
      show f_X9_gather_L67 (n + 1) 45 v1 v2 v4 (nI f) v6 (nI 0) g1 = _
      rw [f_X9_gather_L67.eq_2, if_pos (show nI 0 ≤ (0 : Int32) by decide)]
    | succ m =>
      have m1 : ¬ nI (m + 1) ≤ 0 := nI_nle (by omega) (by omega)
      have hm : m < 250 := by omega
      have hm1 : m + 1 < 250 := by omega
      obtain ⟨rm1, -⟩ := hr m (by omega)
      obtain ⟨q1, q2, q3⟩ := I3 m (by omega)
      have e1 : hi g1 66 (r m) = vF g 2 (r m) := I2.ei _ (by decide) (by decide)
      have e2 : hi g1 66 f = vF g 2 f := I2.ei _ (by decide) (by decide)
      have is : ipos (vF g) r f (m + 1) = if vF g 2 f < vF g 2 (r m) then ipos (vF g) r f m else m + 1 := rfl
      by_cases cc : vF g 2 f < vF g 2 (r m)
      · rw [if_pos cc] at is
        have cn : ¬ vF g 2 (r m) ≤ vF g 2 f := Int32.not_le.mpr cc
        right
        refine ⟨(m, si (si (si g1 81 (m + 1) (nI (r m))) 82 (m + 1) (ow (r m))) 83 (m + 1) (mk (r m))), ?_, ⟨by simp only; omega, by simp only; rw [← is]; exact I1, I2.trans (((FrM.row (by decide) (by decide)).trans (FrM.row (by decide) (by decide))).trans (FrM.row (by decide) (by decide))), fun j hj => ?_, fun j h1 h2 => ?_⟩, by simp only; omega⟩
        · simp only
          rw [f_X9_gather_L67.eq_2]
          simp (disch := (first | assumption | (simp only [FX_si, FX_sj, FX_sr, WX_si, WX_sj, WX_sr, FK_si, FK_sj, FK_sr]; assumption) | omega | decide)) only [m1, nI_pred, q1, e1, e2, cn, q2, q3, pk_m1, ↓reduceIte, if_true, if_false, i10, i01, eq_self, wq7, wq8, wq9, wq10, wrc, wgi, wpi, wpz, wn1, wn2, wn3, wn4, wr1, wr2, wr3, wr4, ww1, ww2, ww3, ww4, fgi, fgq, fpi, frc, at18, at19, at21, at22, at23, at24, at25, at26, at_neg, wat1, wat2, wat3, wat4, reduceCtorEq, bd_some, b1_some, b2_some, b3_some, b4_some, c1_eq, elim_inl, elim_inr, zok0, zok1, getQ_si, getQ_sj, getQ_sr, q8_0, q8_1, q8_2, q8_4, q8_7, q8_8, q8_9, q8_10, q8_11, q9_0, q9_3, q9_4, q9_8, q17_0, q17_1, q17_2, q17_4, q17_5, q17_6, q17_9, q17_10, q17_11, q27_4, q27_5, q27_6, q27_7, q27_8, q27_11, q45_0, q45_1, q45_11, q45_12, q45_13, q45_14, q45_15, q45_16, q45_17, q45_18, q45_19, q45_20, q45_21, q45_22, q45_23, q45_24, q45_30, q45_31, q45_32, q45_33, q45_34, q45_35, q45_36, q45_37, q45_38, q45_39, q45_43, q45_44, q45_45, q45_46, q45_47, q45_48, q45_52, q45_53, q45_54, q45_59, q45_60, q45_61, q45_62, q45_65, q45_67, q45_68, gi8, gj8, pi8, pz8, pj8, rc8, gi9, gj9, pi9, pz9, pj9, rc9, gi17, gj17, pi17, pz17, pj17, rc17, gi27, gj27, pi27, pz27, pj27, rc27, gi45, gj45, pi45, pz45, pj45, rc45, aln_si, aln_sj, aln_sq, rc_si, rc_sj, rc_sq, n0, n1, n10, n11, n12, n13, n14, n15, n16, n18, n19, n20, n21, n22, n23, n24, n25, n26, n29, n30, n31, n32, n33, n34, n35, n36, n37, n38, n39, n40, n42, n43, n44, n46, n47, n48, n49, n50, n51, n52, n53, n54, n55, n56, n57, n58, n59, n60, n61, n62, n63, n64, n65, n66, n67, n68, n69, n70, n71, n72, n73, n74, n75, n76, n77, n78, n79, n80, n81, n82, n83, n84, n85, n86, n87, r0, r1, r10, r11, r12, r13, r14, r15, r16, r18, r19, r20, r21, r22, r23, r24, r25, r26, r29, r30, r31, r32, r33, r34, r35, r36, r37, r38, r39, r40, r42, r43, r44, r46, r47, r48, r49, r50, r51, r52, r53, r54, r55, r56, r57, r58, r59, r60, r61, r62, r63, r64, r65, r66, r67, r68, r69, r70, r71, r72, r73, r74, r75, r76, r77, r78, r79, r80, r81, r82, r83, r84, r85, r86, r87, w10, w11, w12, w13, w18, w19, w20, w21, w22, w23, w24, w25, w26, w30, w31, w32, w33, w34, w35, w36, w38, w39, w40, w43, w44, w46, w47, w48, w49, w50, w51, w52, w53, w54, w55, w56, w57, w58, w59, w60, w61, w62, w63, w64, w65, w66, w67, w68, w69, w70, w71, w72, w73, w74, w75, w76, w77, w78, w79, w80, w81, w82, w83, w84, w85, w86, w87, hi_hit, hi_row, hi_col, hj_hit, hj_row, hj_col, hi_sj, hj_si, hq_si, hq_sj, hi_sq, hj_sq, hi_srh, hi_srm]
        · simp only at hj ⊢
          have z : j ≠ m + 1 := by omega
          simp (disch := (first | assumption | omega | decide)) only [hi_hit, hi_row, hi_col, hj_hit, hj_row, hj_col, hi_sj, hj_si, hq_si, hq_sj, hi_sq, hj_sq, hi_srh, hi_srm, hj_sr, hq_sr, hq_hit, hq_row, hq_col]
          exact I3 j (by omega)
        · simp only at h1 ⊢
          by_cases z : j = m + 1
          · subst z
            rw [Nat.add_sub_cancel]
            simp (disch := (first | assumption | omega | decide)) only [hi_hit, hi_row, hi_col, hj_hit, hj_row, hj_col, hi_sj, hj_si, hq_si, hq_sj, hi_sq, hj_sq, hi_srh, hi_srm, hj_sr, hq_sr, hq_hit, hq_row, hq_col]
            exact ⟨trivial, trivial, trivial⟩
          · simp (disch := (first | assumption | omega | decide)) only [hi_hit, hi_row, hi_col, hj_hit, hj_row, hj_col, hi_sj, hj_si, hq_si, hq_sj, hi_sq, hj_sq, hi_srh, hi_srm, hj_sr, hq_sr, hq_hit, hq_row, hq_col]
            exact I4 j (by omega) h2
      · rw [if_neg cc] at is
        have cn : vF g 2 (r m) ≤ vF g 2 f := Int32.not_lt.mp cc
        left
        have ie : p = m + 1 := by rw [← I1, is]
        refine ⟨(nI (m + 1), g1), ?_, by rw [ie], I2, fun j hj => I3 j (by omega), fun j h1 h2 => I4 j (by omega) h2⟩
        rw [f_X9_gather_L67.eq_2]
        simp (disch := (first | assumption | (simp only [FX_si, FX_sj, FX_sr, WX_si, WX_sj, WX_sr, FK_si, FK_sj, FK_sr]; assumption) | omega | decide)) only [m1, nI_pred, q1, e1, e2, cn, ↓reduceIte, if_true, if_false, i10, i01, eq_self, wq7, wq8, wq9, wq10, wrc, wgi, wpi, wpz, wn1, wn2, wn3, wn4, wr1, wr2, wr3, wr4, ww1, ww2, ww3, ww4, fgi, fgq, fpi, frc, at18, at19, at21, at22, at23, at24, at25, at26, at_neg, wat1, wat2, wat3, wat4, reduceCtorEq, bd_some, b1_some, b2_some, b3_some, b4_some, c1_eq, elim_inl, elim_inr, zok0, zok1, getQ_si, getQ_sj, getQ_sr, q8_0, q8_1, q8_2, q8_4, q8_7, q8_8, q8_9, q8_10, q8_11, q9_0, q9_3, q9_4, q9_8, q17_0, q17_1, q17_2, q17_4, q17_5, q17_6, q17_9, q17_10, q17_11, q27_4, q27_5, q27_6, q27_7, q27_8, q27_11, q45_0, q45_1, q45_11, q45_12, q45_13, q45_14, q45_15, q45_16, q45_17, q45_18, q45_19, q45_20, q45_21, q45_22, q45_23, q45_24, q45_30, q45_31, q45_32, q45_33, q45_34, q45_35, q45_36, q45_37, q45_38, q45_39, q45_43, q45_44, q45_45, q45_46, q45_47, q45_48, q45_52, q45_53, q45_54, q45_59, q45_60, q45_61, q45_62, q45_65, q45_67, q45_68, gi8, gj8, pi8, pz8, pj8, rc8, gi9, gj9, pi9, pz9, pj9, rc9, gi17, gj17, pi17, pz17, pj17, rc17, gi27, gj27, pi27, pz27, pj27, rc27, gi45, gj45, pi45, pz45, pj45, rc45, aln_si, aln_sj, aln_sq, rc_si, rc_sj, rc_sq, n0, n1, n10, n11, n12, n13, n14, n15, n16, n18, n19, n20, n21, n22, n23, n24, n25, n26, n29, n30, n31, n32, n33, n34, n35, n36, n37, n38, n39, n40, n42, n43, n44, n46, n47, n48, n49, n50, n51, n52, n53, n54, n55, n56, n57, n58, n59, n60, n61, n62, n63, n64, n65, n66, n67, n68, n69, n70, n71, n72, n73, n74, n75, n76, n77, n78, n79, n80, n81, n82, n83, n84, n85, n86, n87, r0, r1, r10, r11, r12, r13, r14, r15, r16, r18, r19, r20, r21, r22, r23, r24, r25, r26, r29, r30, r31, r32, r33, r34, r35, r36, r37, r38, r39, r40, r42, r43, r44, r46, r47, r48, r49, r50, r51, r52, r53, r54, r55, r56, r57, r58, r59, r60, r61, r62, r63, r64, r65, r66, r67, r68, r69, r70, r71, r72, r73, r74, r75, r76, r77, r78, r79, r80, r81, r82, r83, r84, r85, r86, r87, w10, w11, w12, w13, w18, w19, w20, w21, w22, w23, w24, w25, w26, w30, w31, w32, w33, w34, w35, w36, w38, w39, w40, w43, w44, w46, w47, w48, w49, w50, w51, w52, w53, w54, w55, w56, w57, w58, w59, w60, w61, w62, w63, w64, w65, w66, w67, w68, w69, w70, w71, w72, w73, w74, w75, w76, w77, w78, w79, w80, w81, w82, w83, w84, w85, w86, w87, hi_hit, hi_row, hi_col, hj_hit, hj_row, hj_col, hi_sj, hj_si, hq_si, hq_sj, hi_sq, hj_sq, hi_srh, hi_srm]
  obtain ⟨⟨x, g'⟩, a1, a2, a3⟩ := key
  simp only at a2 a3
  subst a2
  exact ⟨g', a1, a3⟩
theorem RCK.fr {A : Ac} {g g' : Hp} (K : RCK pd pl tm A g) {L B : List Nat} (fr : FrM L B g g') (h1 : [78, 79, 80].all (fun x => !L.contains x) = true) : RCK pd pl tm A g' := by
  simp at h1
  intro u hu
  rw [fr.ei _ h1.1 (by decide), fr.ei _ h1.2.1 (by decide), fr.ei _ h1.2.2 (by decide)]
  exact K u hu
theorem m_gather17 (X : FX g) (hs : s < 5) (D : MA g s A) (ok : AOK A) (K : RCK pd pl tm A g) (R : RG (vF g) nw nf) (hnf : nf ≤ 250) (e41 : hi g 45 41 = nI nf) (z : hi g 45 63 = 0) :
    ∃ g', f_X9_gather_L17 fu 45 (nI s) (nI w) k 0 g = some g' ∧ FrM [81, 82, 83] [56, 57, 58, 63] g g' ∧ MLS g' (OWV pd pl tm A (vF g) (nI w) k nf) (OMK pd pl tm A (vF g)) (LHn (OWV pd pl tm A (vF g) (nI w) k nf) (vF g) (nI w) k nf) := by
  obtain ⟨F, eF⟩ : ∃ F, F = vF g := ⟨_, rfl⟩
  obtain ⟨ow, eow⟩ : ∃ ow, ow = OWV pd pl tm A F (nI w) k nf := ⟨_, rfl⟩
  obtain ⟨mk, emk⟩ : ∃ mk, mk = OMK pd pl tm A F := ⟨_, rfl⟩
  rw [← eF, ← eow, ← emk]
  refine forN (fun n i g => f_X9_gather_L17 n 45 (nI s) (nI w) k i g) nf (by omega) (fun i g' => FrM [81, 82, 83] [56, 57, 58, 63] g g' ∧ MLS g' ow mk (LHn ow F (nI w) k i)) (fun g' => FrM [81, 82, 83] [56, 57, 58, 63] g g' ∧ MLS g' ow mk (LHn ow F (nI w) k nf)) ?_ ?_ (i0 := 0) (Nat.zero_le _) ⟨FrM.rfl, z, fun j hj => absurd hj (Nat.not_lt_zero _)⟩
  · rintro n g1 ⟨I1, I2⟩
    have X1 := I1.fx X
    refine ⟨g1, ?_, I1, I2⟩
    have e : hi g1 45 41 = nI nf := (I1.ef (by decide)).trans e41
    simp only [f_X9_gather_L17.eq_2]
    simp (disch := (first | assumption | (simp only [FX_si, FX_sj, FX_sr, WX_si, WX_sj, WX_sr, FK_si, FK_sj, FK_sr]; assumption) | omega | decide)) only [e, ↓reduceIte, if_true, if_false, i10, i01, eq_self, wq7, wq8, wq9, wq10, wrc, wgi, wpi, wpz, wn1, wn2, wn3, wn4, wr1, wr2, wr3, wr4, ww1, ww2, ww3, ww4, fgi, fgq, fpi, frc, at18, at19, at21, at22, at23, at24, at25, at26, at_neg, wat1, wat2, wat3, wat4, reduceCtorEq, bd_some, b1_some, b2_some, b3_some, b4_some, c1_eq, elim_inl, elim_inr, zok0, zok1, getQ_si, getQ_sj, getQ_sr, q8_0, q8_1, q8_2, q8_4, q8_7, q8_8, q8_9, q8_10, q8_11, q9_0, q9_3, q9_4, q9_8, q17_0, q17_1, q17_2, q17_4, q17_5, q17_6, q17_9, q17_10, q17_11, q27_4, q27_5, q27_6, q27_7, q27_8, q27_11, q45_0, q45_1, q45_11, q45_12, q45_13, q45_14, q45_15, q45_16, q45_17, q45_18, q45_19, q45_20, q45_21, q45_22, q45_23, q45_24, q45_30, q45_31, q45_32, q45_33, q45_34, q45_35, q45_36, q45_37, q45_38, q45_39, q45_43, q45_44, q45_45, q45_46, q45_47, q45_48, q45_52, q45_53, q45_54, q45_59, q45_60, q45_61, q45_62, q45_65, q45_67, q45_68, gi8, gj8, pi8, pz8, pj8, rc8, gi9, gj9, pi9, pz9, pj9, rc9, gi17, gj17, pi17, pz17, pj17, rc17, gi27, gj27, pi27, pz27, pj27, rc27, gi45, gj45, pi45, pz45, pj45, rc45, aln_si, aln_sj, aln_sq, rc_si, rc_sj, rc_sq, n0, n1, n10, n11, n12, n13, n14, n15, n16, n18, n19, n20, n21, n22, n23, n24, n25, n26, n29, n30, n31, n32, n33, n34, n35, n36, n37, n38, n39, n40, n42, n43, n44, n46, n47, n48, n49, n50, n51, n52, n53, n54, n55, n56, n57, n58, n59, n60, n61, n62, n63, n64, n65, n66, n67, n68, n69, n70, n71, n72, n73, n74, n75, n76, n77, n78, n79, n80, n81, n82, n83, n84, n85, n86, n87, r0, r1, r10, r11, r12, r13, r14, r15, r16, r18, r19, r20, r21, r22, r23, r24, r25, r26, r29, r30, r31, r32, r33, r34, r35, r36, r37, r38, r39, r40, r42, r43, r44, r46, r47, r48, r49, r50, r51, r52, r53, r54, r55, r56, r57, r58, r59, r60, r61, r62, r63, r64, r65, r66, r67, r68, r69, r70, r71, r72, r73, r74, r75, r76, r77, r78, r79, r80, r81, r82, r83, r84, r85, r86, r87, w10, w11, w12, w13, w18, w19, w20, w21, w22, w23, w24, w25, w26, w30, w31, w32, w33, w34, w35, w36, w38, w39, w40, w43, w44, w46, w47, w48, w49, w50, w51, w52, w53, w54, w55, w56, w57, w58, w59, w60, w61, w62, w63, w64, w65, w66, w67, w68, w69, w70, w71, w72, w73, w74, w75, w76, w77, w78, w79, w80, w81, w82, w83, w84, w85, w86, w87, hi_hit, hi_row, hi_col, hj_hit, hj_row, hj_col, hi_sj, hj_si, hq_si, hq_sj, hi_sq, hj_sq, hi_srh, hi_srm]
    rw [if_pos (Int32.le_refl _)]
  · rintro n i g1 hi' ⟨I1, I2⟩
    right
    have X1 := I1.fx X
    have e : hi g1 45 41 = nI nf := (I1.ef (by decide)).trans e41
    have n0 : ¬ nI nf ≤ nI i := by rw [nI_leI (by omega) (by omega)]; omega
    have i250 : i < 250 := by omega
    have vg1 : vF g1 = F := by rw [vF_frE I1 (by decide), eF]
    have mc' := m_counts X1 i250 3 (nI w) k
    rw [vg1] at mc'
    have skip : ¬ (cnts F 3 (nI w) k i = true ∧ ¬ ow i ≤ 0) → LHn ow F (nI w) k (i + 1) = LHn ow F (nI w) k i := fun q => by rw [LHn.eq_2, if_neg q]
    by_cases c : cnts F 3 (nI w) k i = true
    · rw [if_pos c] at mc'
      obtain ⟨s3, ew, -⟩ := cnts_iff.mp c
      obtain ⟨g2, a1, a2, -, -, a5⟩ := m_owed (k := k) X1 hs (D.fr I1 (by decide)) ok (K.fr I1 (by decide)) (by rw [vg1, eF]; exact R) hnf e hi' (by rw [vg1]; exact s3)
      rw [vg1, ew, ← eow] at a1
      rw [vg1, ← emk] at a5
      have X2 := a2.fx X1
      have fr2 := I1.trans (a2.wk (A' := [81, 82, 83]) (B' := [56, 57, 58, 63]) (by decide) (by decide))
      have L2 : MLS g2 ow mk (LHn ow F (nI w) k i) := ⟨(a2.ef (by decide)).trans I2.1, fun j hj => by rw [a2.ei _ (by decide) (by decide), a2.ei _ (by decide) (by decide), a2.ei _ (by decide) (by decide)]; exact I2.2 j hj⟩
      by_cases y : ow i = 0
      · have y' : ow i ≤ 0 := by rw [y]; exact Int32.le_refl _
        refine ⟨g2, ?_, fr2, by rw [skip (fun q => q.2 y')]; exact L2⟩
        simp only [f_X9_gather_L17.eq_2]
        simp (disch := (first | assumption | (simp only [FX_si, FX_sj, FX_sr, WX_si, WX_sj, WX_sr, FK_si, FK_sj, FK_sr]; assumption) | omega | decide)) only [e, n0, mc', a1, y, nI_1, ↓reduceIte, if_true, if_false, i10, i01, eq_self, wq7, wq8, wq9, wq10, wrc, wgi, wpi, wpz, wn1, wn2, wn3, wn4, wr1, wr2, wr3, wr4, ww1, ww2, ww3, ww4, fgi, fgq, fpi, frc, at18, at19, at21, at22, at23, at24, at25, at26, at_neg, wat1, wat2, wat3, wat4, reduceCtorEq, bd_some, b1_some, b2_some, b3_some, b4_some, c1_eq, elim_inl, elim_inr, zok0, zok1, getQ_si, getQ_sj, getQ_sr, q8_0, q8_1, q8_2, q8_4, q8_7, q8_8, q8_9, q8_10, q8_11, q9_0, q9_3, q9_4, q9_8, q17_0, q17_1, q17_2, q17_4, q17_5, q17_6, q17_9, q17_10, q17_11, q27_4, q27_5, q27_6, q27_7, q27_8, q27_11, q45_0, q45_1, q45_11, q45_12, q45_13, q45_14, q45_15, q45_16, q45_17, q45_18, q45_19, q45_20, q45_21, q45_22, q45_23, q45_24, q45_30, q45_31, q45_32, q45_33, q45_34, q45_35, q45_36, q45_37, q45_38, q45_39, q45_43, q45_44, q45_45, q45_46, q45_47, q45_48, q45_52, q45_53, q45_54, q45_59, q45_60, q45_61, q45_62, q45_65, q45_67, q45_68, gi8, gj8, pi8, pz8, pj8, rc8, gi9, gj9, pi9, pz9, pj9, rc9, gi17, gj17, pi17, pz17, pj17, rc17, gi27, gj27, pi27, pz27, pj27, rc27, gi45, gj45, pi45, pz45, pj45, rc45, aln_si, aln_sj, aln_sq, rc_si, rc_sj, rc_sq, n0, n1, n10, n11, n12, n13, n14, n15, n16, n18, n19, n20, n21, n22, n23, n24, n25, n26, n29, n30, n31, n32, n33, n34, n35, n36, n37, n38, n39, n40, n42, n43, n44, n46, n47, n48, n49, n50, n51, n52, n53, n54, n55, n56, n57, n58, n59, n60, n61, n62, n63, n64, n65, n66, n67, n68, n69, n70, n71, n72, n73, n74, n75, n76, n77, n78, n79, n80, n81, n82, n83, n84, n85, n86, n87, r0, r1, r10, r11, r12, r13, r14, r15, r16, r18, r19, r20, r21, r22, r23, r24, r25, r26, r29, r30, r31, r32, r33, r34, r35, r36, r37, r38, r39, r40, r42, r43, r44, r46, r47, r48, r49, r50, r51, r52, r53, r54, r55, r56, r57, r58, r59, r60, r61, r62, r63, r64, r65, r66, r67, r68, r69, r70, r71, r72, r73, r74, r75, r76, r77, r78, r79, r80, r81, r82, r83, r84, r85, r86, r87, w10, w11, w12, w13, w18, w19, w20, w21, w22, w23, w24, w25, w26, w30, w31, w32, w33, w34, w35, w36, w38, w39, w40, w43, w44, w46, w47, w48, w49, w50, w51, w52, w53, w54, w55, w56, w57, w58, w59, w60, w61, w62, w63, w64, w65, w66, w67, w68, w69, w70, w71, w72, w73, w74, w75, w76, w77, w78, w79, w80, w81, w82, w83, w84, w85, w86, w87, hi_hit, hi_row, hi_col, hj_hit, hj_row, hj_col, hi_sj, hj_si, hq_si, hq_sj, hi_sq, hj_sq, hi_srh, hi_srm]
      · have y' : ¬ ow i ≤ 0 := fun q => y (by rw [eow] at q ⊢; exact OWV_z.mp q)
        have hle := LHn_le (ow := ow) (F := F) (wk := nI w) (k := k) i
        have lt := fun j hj => (LHn_at (ow := ow) (F := F) (wk := nI w) (k := k) i j hj).1
        have vg2 : vF g2 = F := by rw [vF_frE a2 (by decide), vg1]
        obtain ⟨g3, b1', b2', b3', b4'⟩ := m_ins67 (ow := ow) (mk := mk) (r := (LHn ow F (nI w) k i).1) (c := (LHn ow F (nI w) k i).2) X2 i250 (by omega) (fun j hj => ⟨by have := lt j hj; omega, L2.2 j hj⟩) (nI s) (nI w) k (ow i)
        rw [vg2] at b1' b3' b4'
        have X3 := b2'.fx X2
        obtain ⟨p, ep⟩ : ∃ p, p = ipos F (LHn ow F (nI w) k i).1 i (LHn ow F (nI w) k i).2 := ⟨_, rfl⟩
        have hp := ipos_le F (LHn ow F (nI w) k i).1 i (LHn ow F (nI w) k i).2
        rw [← ep] at b1' b3' b4' hp
        have hp250 : p < 250 := by omega
        have e63 : hi g2 45 63 = nI (LHn ow F (nI w) k i).2 := L2.1
        have e63' : hi g3 45 63 = nI (LHn ow F (nI w) k i).2 := (b2'.ef (by decide)).trans L2.1
        have e58 : hi g3 45 58 = mk i := (b2'.ef (by decide)).trans a5
        have eL : LHn ow F (nI w) k (i + 1) = (insr (LHn ow F (nI w) k i).1 i p, (LHn ow F (nI w) k i).2 + 1) := by rw [LHn.eq_2, if_pos ⟨c, y'⟩, ep]
        refine ⟨si (si (si (si g3 81 p (nI i)) 82 p (ow i)) 83 p (mk i)) 45 63 (nI ((LHn ow F (nI w) k i).2 + 1)), ?_, (fr2.trans (b2'.wk (by decide) (by decide))).trans ((((FrM.row (by decide) (by decide)).trans (FrM.row (by decide) (by decide))).trans (FrM.row (by decide) (by decide))).trans (FrM.fld (by decide))), ?_⟩
        · simp only [f_X9_gather_L17.eq_2]
          simp (disch := (first | assumption | (simp only [FX_si, FX_sj, FX_sr, WX_si, WX_sj, WX_sr, FK_si, FK_sj, FK_sr]; assumption) | omega | decide)) only [e, n0, mc', a1, y, e63, b1', e58, e63', nI_1, ↓reduceIte, if_true, if_false, i10, i01, eq_self, wq7, wq8, wq9, wq10, wrc, wgi, wpi, wpz, wn1, wn2, wn3, wn4, wr1, wr2, wr3, wr4, ww1, ww2, ww3, ww4, fgi, fgq, fpi, frc, at18, at19, at21, at22, at23, at24, at25, at26, at_neg, wat1, wat2, wat3, wat4, reduceCtorEq, bd_some, b1_some, b2_some, b3_some, b4_some, c1_eq, elim_inl, elim_inr, zok0, zok1, getQ_si, getQ_sj, getQ_sr, q8_0, q8_1, q8_2, q8_4, q8_7, q8_8, q8_9, q8_10, q8_11, q9_0, q9_3, q9_4, q9_8, q17_0, q17_1, q17_2, q17_4, q17_5, q17_6, q17_9, q17_10, q17_11, q27_4, q27_5, q27_6, q27_7, q27_8, q27_11, q45_0, q45_1, q45_11, q45_12, q45_13, q45_14, q45_15, q45_16, q45_17, q45_18, q45_19, q45_20, q45_21, q45_22, q45_23, q45_24, q45_30, q45_31, q45_32, q45_33, q45_34, q45_35, q45_36, q45_37, q45_38, q45_39, q45_43, q45_44, q45_45, q45_46, q45_47, q45_48, q45_52, q45_53, q45_54, q45_59, q45_60, q45_61, q45_62, q45_65, q45_67, q45_68, gi8, gj8, pi8, pz8, pj8, rc8, gi9, gj9, pi9, pz9, pj9, rc9, gi17, gj17, pi17, pz17, pj17, rc17, gi27, gj27, pi27, pz27, pj27, rc27, gi45, gj45, pi45, pz45, pj45, rc45, aln_si, aln_sj, aln_sq, rc_si, rc_sj, rc_sq, n0, n1, n10, n11, n12, n13, n14, n15, n16, n18, n19, n20, n21, n22, n23, n24, n25, n26, n29, n30, n31, n32, n33, n34, n35, n36, n37, n38, n39, n40, n42, n43, n44, n46, n47, n48, n49, n50, n51, n52, n53, n54, n55, n56, n57, n58, n59, n60, n61, n62, n63, n64, n65, n66, n67, n68, n69, n70, n71, n72, n73, n74, n75, n76, n77, n78, n79, n80, n81, n82, n83, n84, n85, n86, n87, r0, r1, r10, r11, r12, r13, r14, r15, r16, r18, r19, r20, r21, r22, r23, r24, r25, r26, r29, r30, r31, r32, r33, r34, r35, r36, r37, r38, r39, r40, r42, r43, r44, r46, r47, r48, r49, r50, r51, r52, r53, r54, r55, r56, r57, r58, r59, r60, r61, r62, r63, r64, r65, r66, r67, r68, r69, r70, r71, r72, r73, r74, r75, r76, r77, r78, r79, r80, r81, r82, r83, r84, r85, r86, r87, w10, w11, w12, w13, w18, w19, w20, w21, w22, w23, w24, w25, w26, w30, w31, w32, w33, w34, w35, w36, w38, w39, w40, w43, w44, w46, w47, w48, w49, w50, w51, w52, w53, w54, w55, w56, w57, w58, w59, w60, w61, w62, w63, w64, w65, w66, w67, w68, w69, w70, w71, w72, w73, w74, w75, w76, w77, w78, w79, w80, w81, w82, w83, w84, w85, w86, w87, hi_hit, hi_row, hi_col, hj_hit, hj_row, hj_col, hi_sj, hj_si, hq_si, hq_sj, hi_sq, hj_sq, hi_srh, hi_srm]
        · rw [eL]
          refine ⟨hi_hit _ _ _, fun j hj => ?_⟩
          simp only at hj ⊢
          unfold insr
          by_cases q : j = p
          · rw [q, if_neg (Nat.lt_irrefl _), if_pos rfl]
            simp (disch := (first | assumption | omega | decide)) only [hi_hit, hi_row, hi_col, hj_hit, hj_row, hj_col, hi_sj, hj_si, hq_si, hq_sj, hi_sq, hj_sq, hi_srh, hi_srm, hj_sr, hq_sr, hq_hit, hq_row, hq_col]
            exact ⟨trivial, trivial, trivial⟩
          · simp (disch := (first | assumption | omega | decide)) only [hi_hit, hi_row, hi_col, hj_hit, hj_row, hj_col, hi_sj, hj_si, hq_si, hq_sj, hi_sq, hj_sq, hi_srh, hi_srm, hj_sr, hq_sr, hq_hit, hq_row, hq_col]
            by_cases q2 : j < p
            · rw [if_pos q2]; exact b3' j q2
            · rw [if_neg q2, if_neg q]; exact b4' j (by omega) (by omega)
    · rw [if_neg c] at mc'
      refine ⟨g1, ?_, I1, by rw [skip (fun q => c q.1)]; exact I2⟩
      simp only [f_X9_gather_L17.eq_2]
      simp (disch := (first | assumption | (simp only [FX_si, FX_sj, FX_sr, WX_si, WX_sj, WX_sr, FK_si, FK_sj, FK_sr]; assumption) | omega | decide)) only [e, n0, mc', nI_1, ↓reduceIte, if_true, if_false, i10, i01, eq_self, wq7, wq8, wq9, wq10, wrc, wgi, wpi, wpz, wn1, wn2, wn3, wn4, wr1, wr2, wr3, wr4, ww1, ww2, ww3, ww4, fgi, fgq, fpi, frc, at18, at19, at21, at22, at23, at24, at25, at26, at_neg, wat1, wat2, wat3, wat4, reduceCtorEq, bd_some, b1_some, b2_some, b3_some, b4_some, c1_eq, elim_inl, elim_inr, zok0, zok1, getQ_si, getQ_sj, getQ_sr, q8_0, q8_1, q8_2, q8_4, q8_7, q8_8, q8_9, q8_10, q8_11, q9_0, q9_3, q9_4, q9_8, q17_0, q17_1, q17_2, q17_4, q17_5, q17_6, q17_9, q17_10, q17_11, q27_4, q27_5, q27_6, q27_7, q27_8, q27_11, q45_0, q45_1, q45_11, q45_12, q45_13, q45_14, q45_15, q45_16, q45_17, q45_18, q45_19, q45_20, q45_21, q45_22, q45_23, q45_24, q45_30, q45_31, q45_32, q45_33, q45_34, q45_35, q45_36, q45_37, q45_38, q45_39, q45_43, q45_44, q45_45, q45_46, q45_47, q45_48, q45_52, q45_53, q45_54, q45_59, q45_60, q45_61, q45_62, q45_65, q45_67, q45_68, gi8, gj8, pi8, pz8, pj8, rc8, gi9, gj9, pi9, pz9, pj9, rc9, gi17, gj17, pi17, pz17, pj17, rc17, gi27, gj27, pi27, pz27, pj27, rc27, gi45, gj45, pi45, pz45, pj45, rc45, aln_si, aln_sj, aln_sq, rc_si, rc_sj, rc_sq, n0, n1, n10, n11, n12, n13, n14, n15, n16, n18, n19, n20, n21, n22, n23, n24, n25, n26, n29, n30, n31, n32, n33, n34, n35, n36, n37, n38, n39, n40, n42, n43, n44, n46, n47, n48, n49, n50, n51, n52, n53, n54, n55, n56, n57, n58, n59, n60, n61, n62, n63, n64, n65, n66, n67, n68, n69, n70, n71, n72, n73, n74, n75, n76, n77, n78, n79, n80, n81, n82, n83, n84, n85, n86, n87, r0, r1, r10, r11, r12, r13, r14, r15, r16, r18, r19, r20, r21, r22, r23, r24, r25, r26, r29, r30, r31, r32, r33, r34, r35, r36, r37, r38, r39, r40, r42, r43, r44, r46, r47, r48, r49, r50, r51, r52, r53, r54, r55, r56, r57, r58, r59, r60, r61, r62, r63, r64, r65, r66, r67, r68, r69, r70, r71, r72, r73, r74, r75, r76, r77, r78, r79, r80, r81, r82, r83, r84, r85, r86, r87, w10, w11, w12, w13, w18, w19, w20, w21, w22, w23, w24, w25, w26, w30, w31, w32, w33, w34, w35, w36, w38, w39, w40, w43, w44, w46, w47, w48, w49, w50, w51, w52, w53, w54, w55, w56, w57, w58, w59, w60, w61, w62, w63, w64, w65, w66, w67, w68, w69, w70, w71, w72, w73, w74, w75, w76, w77, w78, w79, w80, w81, w82, w83, w84, w85, w86, w87, hi_hit, hi_row, hi_col, hj_hit, hj_row, hj_col, hi_sj, hj_si, hq_si, hq_sj, hi_sq, hj_sq, hi_srh, hi_srm]
end Ml
theorem m_gather {h : Hp} (X : FX h) {nw nf w : Nat} (hw : w < nw) (hw' : nw ≤ 10) (hnf : nf ≤ 250) (e41 : hi h 45 41 = nI nf) (R : RG (vF h) nw nf) (k : Int32) (hb : Bool) {s : Nat} (hs : s < 5) {A : Ac} (M : MA h s A) (ok : AOK A) (t01 : hi h 71 w = 0 ∨ hi h 71 w = 1) :
    ∃ g, f_X9_gather 45 (nI s) (nI w) (bI hb) k h = some g ∧ FrM [59, 72, 73, 74, 75, 76, 77, 78, 79, 80, 81, 82, 83] [49, 50, 51, 55, 56, 57, 58, 63] h g ∧
      MLS g (OWV (PDh (vF h) (nI w) k nf hb) (hi h 62 w) (hi h 71 w) A (vF h) (nI w) k nf) (OMK (PDh (vF h) (nI w) k nf hb) (hi h 62 w) (hi h 71 w) A (vF h)) (LHn (OWV (PDh (vF h) (nI w) k nf hb) (hi h 62 w) (hi h 71 w) A (vF h) (nI w) k nf) (vF h) (nI w) k nf) := by
  obtain ⟨g1, a1, a2, a3⟩ := m_reckon X hw hw' hnf e41 R k hb hs M ok t01
  have X1 := a2.fx X
  have fr2 : FrM [59, 72, 73, 74, 75, 76, 77, 78, 79, 80] [49, 50, 51, 55, 63] g1 (si g1 45 63 0) := FrM.fld (by decide)
  have X2 := fr2.fx X1
  have fr12 : FrM [59, 72, 73, 74, 75, 76, 77, 78, 79, 80] [49, 50, 51, 55, 63] h (si g1 45 63 0) := (a2.wk (by decide) (by decide)).trans fr2
  have v2 := vF_frE fr12 (by decide)
  obtain ⟨g3, b1', b2', b3'⟩ := m_gather17 (w := w) (k := k) (nw := nw) (nf := nf) X2 hs (M.fr fr12 (by decide)) ok (pd := PDh (vF h) (nI w) k nf hb) (pl := hi h 62 w) (tm := hi h 71 w) (fun u hu => by rw [hi_row _ _ _ (by decide), hi_row _ _ _ (by decide), hi_row _ _ _ (by decide)]; exact a3 u hu) (by rw [v2]; exact R) hnf ((fr12.ef (by decide)).trans e41) (hi_hit _ _ _)
  rw [v2] at b3'
  refine ⟨g3, ?_, (fr12.wk (by decide) (by decide)).trans (b2'.wk (by decide) (by decide)), b3'⟩
  unfold f_X9_gather
  simp (disch := (first | assumption | (simp only [FX_si, FX_sj, FX_sr, WX_si, WX_sj, WX_sr, FK_si, FK_sj, FK_sr]; assumption) | omega | decide)) only [a1, b1', ↓reduceIte, if_true, if_false, i10, i01, eq_self, wq7, wq8, wq9, wq10, wrc, wgi, wpi, wpz, wn1, wn2, wn3, wn4, wr1, wr2, wr3, wr4, ww1, ww2, ww3, ww4, fgi, fgq, fpi, frc, at18, at19, at21, at22, at23, at24, at25, at26, at_neg, wat1, wat2, wat3, wat4, reduceCtorEq, bd_some, b1_some, b2_some, b3_some, b4_some, c1_eq, elim_inl, elim_inr, zok0, zok1, getQ_si, getQ_sj, getQ_sr, q8_0, q8_1, q8_2, q8_4, q8_7, q8_8, q8_9, q8_10, q8_11, q9_0, q9_3, q9_4, q9_8, q17_0, q17_1, q17_2, q17_4, q17_5, q17_6, q17_9, q17_10, q17_11, q27_4, q27_5, q27_6, q27_7, q27_8, q27_11, q45_0, q45_1, q45_11, q45_12, q45_13, q45_14, q45_15, q45_16, q45_17, q45_18, q45_19, q45_20, q45_21, q45_22, q45_23, q45_24, q45_30, q45_31, q45_32, q45_33, q45_34, q45_35, q45_36, q45_37, q45_38, q45_39, q45_43, q45_44, q45_45, q45_46, q45_47, q45_48, q45_52, q45_53, q45_54, q45_59, q45_60, q45_61, q45_62, q45_65, q45_67, q45_68, gi8, gj8, pi8, pz8, pj8, rc8, gi9, gj9, pi9, pz9, pj9, rc9, gi17, gj17, pi17, pz17, pj17, rc17, gi27, gj27, pi27, pz27, pj27, rc27, gi45, gj45, pi45, pz45, pj45, rc45, aln_si, aln_sj, aln_sq, rc_si, rc_sj, rc_sq, n0, n1, n10, n11, n12, n13, n14, n15, n16, n18, n19, n20, n21, n22, n23, n24, n25, n26, n29, n30, n31, n32, n33, n34, n35, n36, n37, n38, n39, n40, n42, n43, n44, n46, n47, n48, n49, n50, n51, n52, n53, n54, n55, n56, n57, n58, n59, n60, n61, n62, n63, n64, n65, n66, n67, n68, n69, n70, n71, n72, n73, n74, n75, n76, n77, n78, n79, n80, n81, n82, n83, n84, n85, n86, n87, r0, r1, r10, r11, r12, r13, r14, r15, r16, r18, r19, r20, r21, r22, r23, r24, r25, r26, r29, r30, r31, r32, r33, r34, r35, r36, r37, r38, r39, r40, r42, r43, r44, r46, r47, r48, r49, r50, r51, r52, r53, r54, r55, r56, r57, r58, r59, r60, r61, r62, r63, r64, r65, r66, r67, r68, r69, r70, r71, r72, r73, r74, r75, r76, r77, r78, r79, r80, r81, r82, r83, r84, r85, r86, r87, w10, w11, w12, w13, w18, w19, w20, w21, w22, w23, w24, w25, w26, w30, w31, w32, w33, w34, w35, w36, w38, w39, w40, w43, w44, w46, w47, w48, w49, w50, w51, w52, w53, w54, w55, w56, w57, w58, w59, w60, w61, w62, w63, w64, w65, w66, w67, w68, w69, w70, w71, w72, w73, w74, w75, w76, w77, w78, w79, w80, w81, w82, w83, w84, w85, w86, w87, hi_hit, hi_row, hi_col, hj_hit, hj_row, hj_col, hi_sj, hj_si, hq_si, hq_sj, hi_sq, hj_sq, hi_srh, hi_srm]
