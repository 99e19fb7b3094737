/-! Coming to rest; from a post; the bounds of the gaps. -/
theorem rd_out {B : Int} {N : Nat} : ∀ (es : List Ed) (f : Nat → Int), (∀ e ∈ es, e.1 < N ∧ e.2.1 < N) → ∀ v, N ≤ v → rd B es f v = f v
  | [], _, _, _, _ => rfl
  | e :: es, f, h, v, hv => by
    show rd B es (rl B f e) v = f v
    rw [rd_out es _ (fun e' he' => h e' (List.mem_cons_of_mem _ he')) v hv]
    have := (h e List.mem_cons_self).2
    unfold rl
    split
    · rfl
    · split
      · show (if v = e.2.1 then _ else _) = _
        rw [if_neg (by omega)]
      · rfl
theorem rds_out {B : Int} {N : Nat} {es : List Ed} {f : Nat → Int} (h : ∀ e ∈ es, e.1 < N ∧ e.2.1 < N) : ∀ k v, N ≤ v → rds B es f k v = f v
  | 0, _, _ => rfl
  | k + 1, v, hv => (rd_out es _ h v hv).trans (rds_out h k v hv)
section Cr
variable {N : Nat} {g : Hp} {P : Nat} {rm : Nat → Int} {bc : Nat} {sA sE : Nat → Nat} {sR : Nat → Int} {al : Int}
theorem PED_in (D : DXC g P rm bc sA sE sR al) (out : Nat → Bool) : ∀ e ∈ PED P rm sA sE sR bc out, e.1 < P ∧ e.2.1 < P := by
  intro e he
  rcases List.mem_append.mp he with q | q
  · rcases Nat.eq_zero_or_pos P with z | z
    · subst z
      exact absurd q (by simp [GE, GB])
    · rcases List.mem_append.mp q with q | q
      · have := GE_in rm (P - 1) e q; omega
      · have := GB_in (P - 1) e q; omega
  · refine BE_in sA sE sR out bc (fun b hb => ?_) e q
    obtain ⟨-, -, -, h1, h2, -⟩ := D.2.2.2.2.2.2.2.2.2.1 b hb
    omega
theorem SMC_wk {g : Hp} {R : Nat → Int} {M M' : Int} (h : SMC N g R M) (hM : M ≤ M') : SMC N g R M' := fun j hj => by
  have := h j hj
  exact ⟨this.1, by omega, this.2.2⟩
theorem c_rest2 (D : DXC g P rm bc sA sE sR al) (hPN : P ≤ N) (hN20 : N ≤ 20) (hN0 : 0 < N) {s : Nat} (hs : s < 2 ^ 31) {f : Nat → Int} (hf : SMC N g f 0) :
    ∃ o, f_X6_comesToRest_L2 fu 17 (nI s) 0 g = some o ∧ ((∃ g' r, o = Sum.inl g' ∧ Fr [24] [] g g' ∧ SMC N g' (rds BB (PED P rm sA sE sR bc (btB s)) f r) 260000000 ∧ rds BB (PED P rm sA sE sR bc (btB s)) f (r + 1) = rds BB (PED P rm sA sE sR bc (btB s)) f r) ∨
      (∃ g', o = Sum.inr g' ∧ Fr [24] [] g g' ∧ ((∃ r, rds BB (PED P rm sA sE sR bc (btB s)) f r 0 < -al) ∨ ∃ j, rds BB (PED P rm sA sE sR bc (btB s)) f (P + 1) j < rds BB (PED P rm sA sE sR bc (btB s)) f P j))) := by
  have hP20 := D.2.1
  have hin := PED_in D (btB s)
  have al0 := D.2.2.2.2.1
  have al1 := D.2.2.2.2.2.1
  have hes : PED P rm sA sE sR bc (btB s) = (GE rm (P - 1) ++ GB (P - 1)) ++ BE sA sE sR (btB s) bc := rfl
  generalize PED P rm sA sE sR bc (btB s) = es at hin hes ⊢
  refine forN (fun n v g => f_X6_comesToRest_L2 n 17 (nI s) v g) (P + 1) (by omega)
    (fun r g' => Fr [24] [] g g' ∧ SMC N g' (rds BB es f r) 260000000 ∧ ((∀ j, j < N → -126000000 ≤ rds BB es f r j) ∨ rds BB es f r 0 < -al) ∧ (∀ m, r = m + 1 → ∃ j, rds BB es f r j < rds BB es f m j))
    (fun o => (∃ g' r, o = Sum.inl g' ∧ Fr [24] [] g g' ∧ SMC N g' (rds BB es f r) 260000000 ∧ rds BB es f (r + 1) = rds BB es f r) ∨ (∃ g', o = Sum.inr g' ∧ Fr [24] [] g g' ∧ ((∃ r, rds BB es f r 0 < -al) ∨ ∃ j, rds BB es f (P + 1) j < rds BB es f P j))) ?_ ?_ (i0 := 0) (Nat.zero_le _)
    ⟨Fr.rfl, SMC_wk hf (by omega), Or.inl fun j hj => by have := (hf j hj).2.1; show _ ≤ f j; omega, fun m hm => absurd hm (by omega)⟩
  · rintro n g1 ⟨I1, I2, I3, I4⟩
    have D1 := D.fr I1 (by decide) (by decide)
    have F1 := D1.1
    refine ⟨Sum.inr g1, ?_, Or.inr ⟨g1, rfl, I1, Or.inr (I4 P rfl)⟩⟩
    simp only [f_X6_comesToRest_L2.eq_2]
    simp (disch := (first | assumption | (simp only [FX_si, FX_sj, FX_sr]; assumption) | omega | decide)) only [D1.2.2.1, ↓reduceIte, if_true, if_false, i10, i01, eq_self, bd_some, b1_some, b2_some, b3_some, b4_some, c1_eq, elim_inl, elim_inr, zok0, zok1, getQ_si, getQ_sj, getQ_sr, q8_0, q8_1, q8_2, q8_4, q8_7, q8_8, q8_9, q8_10, q8_11, q9_0, q9_3, q9_4, q9_8, q17_0, q17_1, q17_2, q17_4, q17_5, q17_6, q17_9, q17_10, q17_11, q27_4, q27_5, q27_6, q27_7, q27_8, q27_11, q45_0, q45_1, q45_11, q45_12, q45_13, q45_14, q45_15, q45_16, q45_17, q45_18, q45_19, q45_20, q45_21, q45_22, q45_23, q45_24, q45_30, q45_31, q45_32, q45_33, q45_34, q45_35, q45_36, q45_37, q45_38, q45_39, q45_43, q45_44, q45_45, q45_46, q45_47, q45_48, q45_52, q45_53, q45_54, q45_59, q45_60, q45_61, q45_62, q45_65, q45_67, q45_68, gi8, gj8, pi8, pz8, pj8, rc8, gi9, gj9, pi9, pz9, pj9, rc9, gi17, gj17, pi17, pz17, pj17, rc17, gi27, gj27, pi27, pz27, pj27, rc27, gi45, gj45, pi45, pz45, pj45, rc45, aln_si, aln_sj, aln_sq, rc_si, rc_sj, rc_sq, n0, n1, n10, n11, n12, n13, n14, n15, n16, n18, n19, n20, n21, n22, n23, n24, n25, n26, n29, n30, n31, n32, n33, n34, n35, n36, n37, n38, n39, n40, n42, n43, n44, n46, n47, n48, n49, n50, n51, n52, n53, n54, n55, n56, n57, n58, n59, n60, n61, n62, n63, n64, n65, n66, n67, n68, n69, n70, n71, n72, n73, n74, n75, n76, n77, n78, n79, n80, n81, n82, n83, n84, n85, n86, n87, r0, r1, r10, r11, r12, r13, r14, r15, r16, r18, r19, r20, r21, r22, r23, r24, r25, r26, r29, r30, r31, r32, r33, r34, r35, r36, r37, r38, r39, r40, r42, r43, r44, r46, r47, r48, r49, r50, r51, r52, r53, r54, r55, r56, r57, r58, r59, r60, r61, r62, r63, r64, r65, r66, r67, r68, r69, r70, r71, r72, r73, r74, r75, r76, r77, r78, r79, r80, r81, r82, r83, r84, r85, r86, r87, w10, w11, w12, w13, w18, w19, w20, w21, w22, w23, w24, w25, w26, w30, w31, w32, w33, w34, w35, w36, w38, w39, w40, w43, w44, w46, w47, w48, w49, w50, w51, w52, w53, w54, w55, w56, w57, w58, w59, w60, w61, w62, w63, w64, w65, w66, w67, w68, w69, w70, w71, w72, w73, w74, w75, w76, w77, w78, w79, w80, w81, w82, w83, w84, w85, w86, w87, hi_hit, hi_row, hi_col, hj_hit, hj_row, hj_col, hi_sj, hj_si, hq_si, hq_sj, hi_sq, hj_sq, hi_srh, hi_srm]
    rw [if_pos (by rw [nI_ltI (by omega) (by omega)]; omega)]
  · rintro n r g1 hr ⟨I1, I2, I3, I4⟩
    have D1 := D.fr I1 (by decide) (by decide)
    have F1 := D1.1
    have e8 := D1.2.2.1
    have n1 : ¬ nI P < nI r := by rw [nI_ltI (by omega) (by omega)]; omega
    have ea : (-hi g1 17 7).toInt = -al := by rw [i_neg (by rw [D1.2.2.2.1]; omega) (by rw [D1.2.2.2.1]; omega), D1.2.2.2.1]
    obtain ⟨z1, z2, z3⟩ := I2 0 hN0
    by_cases c : rds BB es f r 0 < -al
    · left
      refine ⟨Sum.inr g1, ?_, Or.inr ⟨g1, rfl, I1, Or.inl ⟨r, c⟩⟩⟩
      have c' : hi g1 24 0 < -hi g1 17 7 := by rw [Int32.lt_iff_toInt_lt, z1, ea]; exact c
      simp only [f_X6_comesToRest_L2.eq_2]
      simp (disch := (first | assumption | (simp only [FX_si, FX_sj, FX_sr]; assumption) | omega | decide)) only [e8, n1, r24_0, c', ↓reduceIte, if_true, if_false, i10, i01, eq_self, bd_some, b1_some, b2_some, b3_some, b4_some, c1_eq, elim_inl, elim_inr, zok0, zok1, getQ_si, getQ_sj, getQ_sr, q8_0, q8_1, q8_2, q8_4, q8_7, q8_8, q8_9, q8_10, q8_11, q9_0, q9_3, q9_4, q9_8, q17_0, q17_1, q17_2, q17_4, q17_5, q17_6, q17_9, q17_10, q17_11, q27_4, q27_5, q27_6, q27_7, q27_8, q27_11, q45_0, q45_1, q45_11, q45_12, q45_13, q45_14, q45_15, q45_16, q45_17, q45_18, q45_19, q45_20, q45_21, q45_22, q45_23, q45_24, q45_30, q45_31, q45_32, q45_33, q45_34, q45_35, q45_36, q45_37, q45_38, q45_39, q45_43, q45_44, q45_45, q45_46, q45_47, q45_48, q45_52, q45_53, q45_54, q45_59, q45_60, q45_61, q45_62, q45_65, q45_67, q45_68, gi8, gj8, pi8, pz8, pj8, rc8, gi9, gj9, pi9, pz9, pj9, rc9, gi17, gj17, pi17, pz17, pj17, rc17, gi27, gj27, pi27, pz27, pj27, rc27, gi45, gj45, pi45, pz45, pj45, rc45, aln_si, aln_sj, aln_sq, rc_si, rc_sj, rc_sq, n0, n1, n10, n11, n12, n13, n14, n15, n16, n18, n19, n20, n21, n22, n23, n24, n25, n26, n29, n30, n31, n32, n33, n34, n35, n36, n37, n38, n39, n40, n42, n43, n44, n46, n47, n48, n49, n50, n51, n52, n53, n54, n55, n56, n57, n58, n59, n60, n61, n62, n63, n64, n65, n66, n67, n68, n69, n70, n71, n72, n73, n74, n75, n76, n77, n78, n79, n80, n81, n82, n83, n84, n85, n86, n87, r0, r1, r10, r11, r12, r13, r14, r15, r16, r18, r19, r20, r21, r22, r23, r24, r25, r26, r29, r30, r31, r32, r33, r34, r35, r36, r37, r38, r39, r40, r42, r43, r44, r46, r47, r48, r49, r50, r51, r52, r53, r54, r55, r56, r57, r58, r59, r60, r61, r62, r63, r64, r65, r66, r67, r68, r69, r70, r71, r72, r73, r74, r75, r76, r77, r78, r79, r80, r81, r82, r83, r84, r85, r86, r87, w10, w11, w12, w13, w18, w19, w20, w21, w22, w23, w24, w25, w26, w30, w31, w32, w33, w34, w35, w36, w38, w39, w40, w43, w44, w46, w47, w48, w49, w50, w51, w52, w53, w54, w55, w56, w57, w58, w59, w60, w61, w62, w63, w64, w65, w66, w67, w68, w69, w70, w71, w72, w73, w74, w75, w76, w77, w78, w79, w80, w81, w82, w83, w84, w85, w86, w87, hi_hit, hi_row, hi_col, hj_hit, hj_row, hj_col, hi_sj, hj_si, hq_si, hq_sj, hi_sq, hj_sq, hi_srh, hi_srm]
    · have c' : ¬ hi g1 24 0 < -hi g1 17 7 := by rw [Int32.lt_iff_toInt_lt, z1, ea]; exact c
      have hb : ∀ j, j < N → -126000000 ≤ rds BB es f r j := I3.elim id (fun q => absurd q c)
      have S1 : SMC N g1 (rds BB es f r) 126000000 := fun j hj => ⟨(I2 j hj).1, hb j hj, (I2 j hj).2.2⟩
      obtain ⟨x15, g2, a1, a2, a3, a4⟩ := c_gaps D1 hPN hN20 S1 (by omega)
      have D2 := D1.fr a2 (by decide) (by decide)
      have F2 := D2.1
      have e2 : rds BB es f (r + 1) = rd BB (BE sA sE sR (btB s) bc) (rd BB (GE rm (P - 1) ++ GB (P - 1)) (rds BB es f r)) := by
        show rd BB es (rds BB es f r) = _
        rw [hes, rd_app]
      have bank : ∃ x20 g3, f_X6_lowerByBanks 17 (nI s) g2 = some (x20, g3) ∧ Fr [24] [] g2 g3 ∧ SMC N g3 (rds BB es f (r + 1)) 260000000 ∧ FLc (rd BB (GE rm (P - 1) ++ GB (P - 1)) (rds BB es f r)) (rds BB es f (r + 1)) x20 ∧ ((∀ j, j < N → -126000000 ≤ rds BB es f (r + 1) j) ∨ rds BB es f (r + 1) 0 < -al) := by
        by_cases d : ∀ j, j < N → -1050000 ≤ rd BB (GE rm (P - 1) ++ GB (P - 1)) (rds BB es f r) j
        · obtain ⟨x20, g3, b1', b2', b3', b4'⟩ := c_banks D2 hPN hs (M := 1050000) (fun j hj => ⟨(a3 j hj).1, d j hj, (a3 j hj).2.2⟩) (by omega) (by omega)
          rw [← e2] at b3' b4'
          exact ⟨x20, g3, b1', b2', SMC_wk b3' (by omega), b4', Or.inl fun j hj => by have := (b3' j hj).2.1; omega⟩
        · obtain ⟨x20, g3, b1', b2', b3', b4'⟩ := c_banks D2 hPN hs a3 (by omega) (by omega)
          rw [← e2] at b3' b4'
          refine ⟨x20, g3, b1', b2', SMC_wk b3' (by omega), b4', Or.inr ?_⟩
          obtain ⟨j, hj, hlt⟩ : ∃ j, j < N ∧ rd BB (GE rm (P - 1) ++ GB (P - 1)) (rds BB es f r) j < -1050000 := by
            refine Classical.byContradiction fun q => d fun j hj => ?_
            exact Int.not_lt.mp fun q2 => q ⟨j, hj, q2⟩
          have hjP : j < P := by
            refine Nat.not_le.mp fun q => ?_
            have h1 := rd_out (B := BB) (GE rm (P - 1) ++ GB (P - 1)) (rds BB es f r) (fun e he => hin e (by rw [hes]; exact List.mem_append_left _ he)) j q
            have h2 := rds_out (B := BB) (f := f) hin r j q
            have h3 := (hf j hj).2.1
            omega
          have h4 := GB_min (B := BB) (P - 1) (rd BB (GE rm (P - 1)) (rds BB es f r)) (fun i hi' => by
            have h5 := rd_le BB (GE rm (P - 1)) (rds BB es f r) i
            have h6 := (I2 i (by omega)).2.2
            unfold BB at h5 h6 ⊢
            omega) j (by omega)
          rw [← rd_app] at h4
          have h7 := rd_le BB (BE sA sE sR (btB s) bc) (rd BB (GE rm (P - 1) ++ GB (P - 1)) (rds BB es f r)) 0
          rw [e2]
          omega
      obtain ⟨x20, g3, b1', b2', b3', b4', b5'⟩ := bank
      have fr3 : Fr [24] [] g g3 := (I1.trans a2).trans b2'
      have mono : ∀ j, rds BB es f (r + 1) j ≤ rd BB (GE rm (P - 1) ++ GB (P - 1)) (rds BB es f r) j := fun j => by rw [e2]; exact rd_le _ _ _ j
      have mono1 : ∀ j, rd BB (GE rm (P - 1) ++ GB (P - 1)) (rds BB es f r) j ≤ rds BB es f r j := fun j => rd_le _ _ _ j
      rcases b4' with ⟨x0, q⟩ | ⟨x0, j, q⟩
      · rcases a4 with ⟨y0, p⟩ | ⟨y0, j, p⟩
        · left
          refine ⟨Sum.inl g3, ?_, Or.inl ⟨g3, r, rfl, fr3, ?_, by rw [q, p]⟩⟩
          · simp only [f_X6_comesToRest_L2.eq_2]
            simp (disch := (first | assumption | (simp only [FX_si, FX_sj, FX_sr]; assumption) | omega | decide)) only [e8, n1, r24_0, c', a1, b1', x0, y0, ↓reduceIte, if_true, if_false, i10, i01, eq_self, bd_some, b1_some, b2_some, b3_some, b4_some, c1_eq, elim_inl, elim_inr, zok0, zok1, getQ_si, getQ_sj, getQ_sr, q8_0, q8_1, q8_2, q8_4, q8_7, q8_8, q8_9, q8_10, q8_11, q9_0, q9_3, q9_4, q9_8, q17_0, q17_1, q17_2, q17_4, q17_5, q17_6, q17_9, q17_10, q17_11, q27_4, q27_5, q27_6, q27_7, q27_8, q27_11, q45_0, q45_1, q45_11, q45_12, q45_13, q45_14, q45_15, q45_16, q45_17, q45_18, q45_19, q45_20, q45_21, q45_22, q45_23, q45_24, q45_30, q45_31, q45_32, q45_33, q45_34, q45_35, q45_36, q45_37, q45_38, q45_39, q45_43, q45_44, q45_45, q45_46, q45_47, q45_48, q45_52, q45_53, q45_54, q45_59, q45_60, q45_61, q45_62, q45_65, q45_67, q45_68, gi8, gj8, pi8, pz8, pj8, rc8, gi9, gj9, pi9, pz9, pj9, rc9, gi17, gj17, pi17, pz17, pj17, rc17, gi27, gj27, pi27, pz27, pj27, rc27, gi45, gj45, pi45, pz45, pj45, rc45, aln_si, aln_sj, aln_sq, rc_si, rc_sj, rc_sq, n0, n1, n10, n11, n12, n13, n14, n15, n16, n18, n19, n20, n21, n22, n23, n24, n25, n26, n29, n30, n31, n32, n33, n34, n35, n36, n37, n38, n39, n40, n42, n43, n44, n46, n47, n48, n49, n50, n51, n52, n53, n54, n55, n56, n57, n58, n59, n60, n61, n62, n63, n64, n65, n66, n67, n68, n69, n70, n71, n72, n73, n74, n75, n76, n77, n78, n79, n80, n81, n82, n83, n84, n85, n86, n87, r0, r1, r10, r11, r12, r13, r14, r15, r16, r18, r19, r20, r21, r22, r23, r24, r25, r26, r29, r30, r31, r32, r33, r34, r35, r36, r37, r38, r39, r40, r42, r43, r44, r46, r47, r48, r49, r50, r51, r52, r53, r54, r55, r56, r57, r58, r59, r60, r61, r62, r63, r64, r65, r66, r67, r68, r69, r70, r71, r72, r73, r74, r75, r76, r77, r78, r79, r80, r81, r82, r83, r84, r85, r86, r87, w10, w11, w12, w13, w18, w19, w20, w21, w22, w23, w24, w25, w26, w30, w31, w32, w33, w34, w35, w36, w38, w39, w40, w43, w44, w46, w47, w48, w49, w50, w51, w52, w53, w54, w55, w56, w57, w58, w59, w60, w61, w62, w63, w64, w65, w66, w67, w68, w69, w70, w71, w72, w73, w74, w75, w76, w77, w78, w79, w80, w81, w82, w83, w84, w85, w86, w87, hi_hit, hi_row, hi_col, hj_hit, hj_row, hj_col, hi_sj, hj_si, hq_si, hq_sj, hi_sq, hj_sq, hi_srh, hi_srm]
          · rw [← p, ← q]; exact b3'
        · right
          refine ⟨g3, ?_, fr3, b3', b5', fun m hm => ?_⟩
          · simp only [f_X6_comesToRest_L2.eq_2]
            simp (disch := (first | assumption | (simp only [FX_si, FX_sj, FX_sr]; assumption) | omega | decide)) only [e8, n1, r24_0, c', a1, b1', x0, y0, nI_1, ↓reduceIte, if_true, if_false, i10, i01, eq_self, bd_some, b1_some, b2_some, b3_some, b4_some, c1_eq, elim_inl, elim_inr, zok0, zok1, getQ_si, getQ_sj, getQ_sr, q8_0, q8_1, q8_2, q8_4, q8_7, q8_8, q8_9, q8_10, q8_11, q9_0, q9_3, q9_4, q9_8, q17_0, q17_1, q17_2, q17_4, q17_5, q17_6, q17_9, q17_10, q17_11, q27_4, q27_5, q27_6, q27_7, q27_8, q27_11, q45_0, q45_1, q45_11, q45_12, q45_13, q45_14, q45_15, q45_16, q45_17, q45_18, q45_19, q45_20, q45_21, q45_22, q45_23, q45_24, q45_30, q45_31, q45_32, q45_33, q45_34, q45_35, q45_36, q45_37, q45_38, q45_39, q45_43, q45_44, q45_45, q45_46, q45_47, q45_48, q45_52, q45_53, q45_54, q45_59, q45_60, q45_61, q45_62, q45_65, q45_67, q45_68, gi8, gj8, pi8, pz8, pj8, rc8, gi9, gj9, pi9, pz9, pj9, rc9, gi17, gj17, pi17, pz17, pj17, rc17, gi27, gj27, pi27, pz27, pj27, rc27, gi45, gj45, pi45, pz45, pj45, rc45, aln_si, aln_sj, aln_sq, rc_si, rc_sj, rc_sq, n0, n1, n10, n11, n12, n13, n14, n15, n16, n18, n19, n20, n21, n22, n23, n24, n25, n26, n29, n30, n31, n32, n33, n34, n35, n36, n37, n38, n39, n40, n42, n43, n44, n46, n47, n48, n49, n50, n51, n52, n53, n54, n55, n56, n57, n58, n59, n60, n61, n62, n63, n64, n65, n66, n67, n68, n69, n70, n71, n72, n73, n74, n75, n76, n77, n78, n79, n80, n81, n82, n83, n84, n85, n86, n87, r0, r1, r10, r11, r12, r13, r14, r15, r16, r18, r19, r20, r21, r22, r23, r24, r25, r26, r29, r30, r31, r32, r33, r34, r35, r36, r37, r38, r39, r40, r42, r43, r44, r46, r47, r48, r49, r50, r51, r52, r53, r54, r55, r56, r57, r58, r59, r60, r61, r62, r63, r64, r65, r66, r67, r68, r69, r70, r71, r72, r73, r74, r75, r76, r77, r78, r79, r80, r81, r82, r83, r84, r85, r86, r87, w10, w11, w12, w13, w18, w19, w20, w21, w22, w23, w24, w25, w26, w30, w31, w32, w33, w34, w35, w36, w38, w39, w40, w43, w44, w46, w47, w48, w49, w50, w51, w52, w53, w54, w55, w56, w57, w58, w59, w60, w61, w62, w63, w64, w65, w66, w67, w68, w69, w70, w71, w72, w73, w74, w75, w76, w77, w78, w79, w80, w81, w82, w83, w84, w85, w86, w87, hi_hit, hi_row, hi_col, hj_hit, hj_row, hj_col, hi_sj, hj_si, hq_si, hq_sj, hi_sq, hj_sq, hi_srh, hi_srm]
          · obtain rfl : r = m := by omega
            exact ⟨j, by have := mono j; omega⟩
      · right
        refine ⟨g3, ?_, fr3, b3', b5', fun m hm => ?_⟩
        · simp only [f_X6_comesToRest_L2.eq_2]
          simp (disch := (first | assumption | (simp only [FX_si, FX_sj, FX_sr]; assumption) | omega | decide)) only [e8, n1, r24_0, c', a1, b1', x0, nI_1, ↓reduceIte, if_true, if_false, i10, i01, eq_self, bd_some, b1_some, b2_some, b3_some, b4_some, c1_eq, elim_inl, elim_inr, zok0, zok1, getQ_si, getQ_sj, getQ_sr, q8_0, q8_1, q8_2, q8_4, q8_7, q8_8, q8_9, q8_10, q8_11, q9_0, q9_3, q9_4, q9_8, q17_0, q17_1, q17_2, q17_4, q17_5, q17_6, q17_9, q17_10, q17_11, q27_4, q27_5, q27_6, q27_7, q27_8, q27_11, q45_0, q45_1, q45_11, q45_12, q45_13, q45_14, q45_15, q45_16, q45_17, q45_18, q45_19, q45_20, q45_21, q45_22, q45_23, q45_24, q45_30, q45_31, q45_32, q45_33, q45_34, q45_35, q45_36, q45_37, q45_38, q45_39, q45_43, q45_44, q45_45, q45_46, q45_47, q45_48, q45_52, q45_53, q45_54, q45_59, q45_60, q45_61, q45_62, q45_65, q45_67, q45_68, gi8, gj8, pi8, pz8, pj8, rc8, gi9, gj9, pi9, pz9, pj9, rc9, gi17, gj17, pi17, pz17, pj17, rc17, gi27, gj27, pi27, pz27, pj27, rc27, gi45, gj45, pi45, pz45, pj45, rc45, aln_si, aln_sj, aln_sq, rc_si, rc_sj, rc_sq, n0, n1, n10, n11, n12, n13, n14, n15, n16, n18, n19, n20, n21, n22, n23, n24, n25, n26, n29, n30, n31, n32, n33, n34, n35, n36, n37, n38, n39, n40, n42, n43, n44, n46, n47, n48, n49, n50, n51, n52, n53, n54, n55, n56, n57, n58, n59, n60, n61, n62, n63, n64, n65, n66, n67, n68, n69, n70, n71, n72, n73, n74, n75, n76, n77, n78, n79, n80, n81, n82, n83, n84, n85, n86, n87, r0, r1, r10, r11, r12, r13, r14, r15, r16, r18, r19, r20, r21, r22, r23, r24, r25, r26, r29, r30, r31, r32, r33, r34, r35, r36, r37, r38, r39, r40, r42, r43, r44, r46, r47, r48, r49, r50, r51, r52, r53, r54, r55, r56, r57, r58, r59, r60, r61, r62, r63, r64, r65, r66, r67, r68, r69, r70, r71, r72, r73, r74, r75, r76, r77, r78, r79, r80, r81, r82, r83, r84, r85, r86, r87, w10, w11, w12, w13, w18, w19, w20, w21, w22, w23, w24, w25, w26, w30, w31, w32, w33, w34, w35, w36, w38, w39, w40, w43, w44, w46, w47, w48, w49, w50, w51, w52, w53, w54, w55, w56, w57, w58, w59, w60, w61, w62, w63, w64, w65, w66, w67, w68, w69, w70, w71, w72, w73, w74, w75, w76, w77, w78, w79, w80, w81, w82, w83, w84, w85, w86, w87, hi_hit, hi_row, hi_col, hj_hit, hj_row, hj_col, hi_sj, hj_si, hq_si, hq_sj, hi_sq, hj_sq, hi_srh, hi_srm]
        · obtain rfl : r = m := by omega
          exact ⟨j, by have := mono1 j; omega⟩
/-- at rest at the greatest way below f, or there is none -/
theorem c_rest (D : DXC g P rm bc sA sE sR al) (hPN : P ≤ N) (hN20 : N ≤ 20) (hN0 : 0 < N) {s : Nat} (hs : s < 2 ^ 31) {f : Nat → Int} (hf : SMC N g f 0)
    (sol : ∀ y, PWAY P rm sA sE sR bc (btB s) y → ∃ y', PWAY P rm sA sE sR bc (btB s) y' ∧ (∀ j, j < P → y' j ≤ f j) ∧ (0 < P → -al ≤ y' 0)) :
    ∃ x g', f_X6_comesToRest 17 (nI s) g = some (x, g') ∧ Fr [24] [] g g' ∧ ((x = 1 ∧ ∃ d, PWAY P rm sA sE sR bc (btB s) d ∧ (∀ j, j < P → (hi g' 24 j).toInt = d j ∧ d j ≤ f j) ∧ ∀ y, PWAY P rm sA sE sR bc (btB s) y → (∀ j, j < P → y j ≤ f j) → ∀ j, j < P → y j ≤ d j) ∨ (x = 0 ∧ ¬ ∃ y, PWAY P rm sA sE sR bc (btB s) y)) := by
  have hin := PED_in D (btB s)
  have hst := fun y => PED_st P rm sA sE sR bc (btB s) y
  have al0 := D.2.2.2.2.1
  obtain ⟨o, h1, h2⟩ := c_rest2 D hPN hN20 hN0 hs hf
  generalize PED P rm sA sE sR bc (btB s) = es at hin hst h2
  have cut : ∀ y, PWAY P rm sA sE sR bc (btB s) y → (∀ j, j < P → y j ≤ f j) → ∀ r j, (if j < P then y j + 0 else f j) ≤ rds BB es f r j := by
    intro y hy hle r j
    exact rds_ge (st_cut (f := f) hin 0 ((hst y).mpr hy)) (fun v => by
      split
      · rename_i q; have := hle v q; omega
      · exact Int.le_refl _) r j
  rcases h2 with ⟨g', r, rfl, fr, S, rest⟩ | ⟨g', rfl, fr, bad⟩
  · refine ⟨1, g', ?_, fr, Or.inl ⟨rfl, rds BB es f r, ?_, ?_, ?_⟩⟩
    · unfold f_X6_comesToRest
      rw [h1]
      rfl
    · refine (hst _).mp (rd_rest (B := BB) (fun v => congrFun rest v) fun e he => ?_)
      have a := rds_le BB es f r e.1
      have b := (hf e.1 (by have := (hin e he).1; omega)).2.2
      unfold BB at a ⊢
      omega
    · intro j hj
      exact ⟨(S j (by omega)).1, rds_le BB es f r j⟩
    · intro y hy hle j hj
      have := cut y hy hle r j
      rw [if_pos hj] at this
      omega
  · refine ⟨0, g', ?_, fr, Or.inr ⟨rfl, ?_⟩⟩
    · unfold f_X6_comesToRest
      rw [h1]
      rfl
    · rintro ⟨y, hy⟩
      obtain ⟨y', k1, k2, k3⟩ := sol y hy
      rcases bad with ⟨r, q⟩ | ⟨j, q⟩
      · have := cut y' k1 k2 r 0
        by_cases z : 0 < P
        · rw [if_pos z] at this
          have := k3 z
          omega
        · rw [if_neg z] at this
          have := (hf 0 hN0).2.1
          omega
      · obtain ⟨d, -, d2, -⟩ := settle (B := BB) (f := f) hin ((hst y').mpr k1) k2 (fun y2 _ hy2 v hv => by
          have a := hy2 v
          have b := (hf v (by omega)).2.2
          unfold BB
          omega)
        have := d2 j
        have e : rds BB es f (P + 1) j = rd BB es (rds BB es f P) j := rfl
        omega
/-- from all at 0: whether there is a way -/
theorem P_sum {P : Nat} {rm : Nat → Int} {sA sE : Nat → Nat} {sR : Nat → Int} {bc : Nat} {out : Nat → Bool} {y : Nat → Int} (hy : PWAY P rm sA sE sR bc out y) {i : Nat} : ∀ n, i + n < P → y i ≤ y (i + n) ∧ y (i + n) ≤ y i + (psm rm (i + n) - psm rm i) := by
  intro n
  induction n with
  | zero => intro _; exact ⟨Int.le_refl _, by simp⟩
  | succ n ih =>
    intro hn
    have a := ih (by omega)
    have b := hy.1 (i + n) (by omega)
    have e : psm rm (i + n + 1) = psm rm (i + n) + rm (i + n) := rfl
    rw [← Nat.add_assoc]
    omega
theorem P_sum2 {P : Nat} {rm : Nat → Int} {sA sE : Nat → Nat} {sR : Nat → Int} {bc : Nat} {out : Nat → Bool} {y : Nat → Int} (hy : PWAY P rm sA sE sR bc out y) {i j : Nat} (hij : i ≤ j) (hj : j < P) : y i ≤ y j ∧ y j ≤ y i + (psm rm j - psm rm i) := by
  have := P_sum hy (i := i) (j - i) (by omega)
  rw [show i + (j - i) = j by omega] at this
  exact this
theorem PW_shift {P : Nat} {rm : Nat → Int} {sA sE : Nat → Nat} {sR : Nat → Int} {bc : Nat} {out : Nat → Bool} {y : Nat → Int} (hy : PWAY P rm sA sE sR bc out y) (c : Int) : PWAY P rm sA sE sR bc out (fun v => y v + c) :=
  ⟨fun i hi' => by have := hy.1 i hi'; simp only; omega, fun b hb ho => by have := hy.2 b hb ho; simp only; omega⟩
theorem c_can (D : DXC g P rm bc sA sE sR al) {s : Nat} (hs : s < 2 ^ 31) (hf : ∀ j, j < 20 → hi g 24 j = 0) :
    ∃ x g', f_X6_comesToRest 17 (nI s) g = some (x, g') ∧ Fr [24] [] g g' ∧ ((x = 1 ∧ ∃ y, PWAY P rm sA sE sR bc (btB s) y) ∨ (x = 0 ∧ ¬ ∃ y, PWAY P rm sA sE sR bc (btB s) y)) := by
  obtain ⟨x, g', h1, h2, h3⟩ := c_rest (N := 20) D D.2.1 (Nat.le_refl _) (by omega) hs (f := fun _ => 0) (fun j hj => by rw [hf j hj]; exact ⟨rfl, by simp, by simp⟩) (fun y hy => by
    refine ⟨fun v => y v + -y (P - 1), PW_shift hy _, fun j hj => ?_, fun hP => ?_⟩
    · have := (P_sum2 hy (i := j) (j := P - 1) (by omega) (by omega)).1
      simp only
      omega
    · have := (P_sum2 hy (i := 0) (j := P - 1) (by omega) (by omega)).2
      have h20 := D.2.1
      have := D.2.2.2.2.2.2.2.2.2.2 (P - 1) (by omega)
      have e : psm rm 0 = 0 := rfl
      simp only
      omega)
  refine ⟨x, g', h1, h2, ?_⟩
  rcases h3 with ⟨a, d, b, -⟩ | ⟨a, b⟩
  · exact Or.inl ⟨a, d, b⟩
  · exact Or.inr ⟨a, b⟩
theorem at_in {h : Hp} {a n i : Nat} (e : hk h a = some (10, n)) (hi' : i < n) (hn : n ≤ 65536) : f_X8_at (some a) (nI i) h = some (hi h a i, h) := by
  unfold f_X8_at
  rw [if_neg (nI_pos (by omega)), aln_eq e, bd_some, if_neg (by rw [nI_leI (by omega) (by omega)]; omega), rdI_eq e hi' hn, bd_some, b1_some]
theorem at_out {h : Hp} {a n i : Nat} (e : hk h a = some (10, n)) (hi' : n ≤ i) (hn : i < 65536) : f_X8_at (some a) (nI i) h = some (0, h) := by
  unfold f_X8_at
  rw [if_neg (nI_pos (by omega)), aln_eq e, bd_some, if_pos (by rw [nI_leI (by omega) (by omega)]; omega), b1_some]
theorem at_neg {h : Hp} {x : Option Nat} : f_X8_at x (-1) h = some (0, h) := by
  unfold f_X8_at
  rw [if_pos (by decide), b1_some]
/-- where the lowering from a post starts -/
def rfs (rm : Nat → Int) (p i : Nat) : Int := if i ≤ p then 0 else psm rm i - psm rm p
theorem psm_mono {rm : Nat → Int} (h : ∀ i, i < 20 → 0 ≤ rm i) {a : Nat} : ∀ n, a + n ≤ 20 → psm rm a ≤ psm rm (a + n) := by
  intro n
  induction n with
  | zero => intro _; exact Int.le_refl _
  | succ n ih =>
    intro hn
    have := ih (by omega)
    have := h (a + n) (by omega)
    have e : psm rm (a + n + 1) = psm rm (a + n) + rm (a + n) := rfl
    rw [← Nat.add_assoc]
    omega
theorem rfs_bd (D : DXC g P rm bc sA sE sR al) {p i : Nat} (hp : p < 20) (hi' : i < 20) : 0 ≤ rfs rm p i ∧ rfs rm p i ≤ 1050000 := by
  unfold rfs
  have z := fun i hi' => (D.2.2.2.2.2.2.2.2.1 i hi').2.1
  split
  · omega
  · have a := psm_mono z (a := p) (i - p) (by omega)
    rw [show p + (i - p) = i by omega] at a
    have b := D.2.2.2.2.2.2.2.2.2.2 i (by omega)
    have c := psm_mono z (a := 0) p (by omega)
    have e : psm rm 0 = 0 := rfl
    rw [Nat.zero_add] at c
    have := D.2.2.2.2.2.1
    omega
theorem c_reachFrom (D : DXC g P rm bc sA sE sR al) {p : Nat} (hp : p < P) : ∃ g', f_X6_reachFrom 17 (nI p) g = some g' ∧ Fr [24] [] g g' ∧ SMC P g' (rfs rm p) 0 := by
  have hP20 := D.2.1
  have key : ∃ g', f_X6_reachFrom_L4 fu 17 (nI p) 0 0 g = some g' ∧ Fr [24] [] g g' ∧ SMC P g' (rfs rm p) 0 := by
    refine forN (fun n v (q : Int32 × Hp) => f_X6_reachFrom_L4 n 17 (nI p) q.1 v q.2) P (by omega) (fun i q => Fr [24] [] g q.2 ∧ SMC i q.2 (rfs rm p) 0 ∧ q.1.toInt = (if i = 0 then 0 else rfs rm p (i - 1))) (fun g' => Fr [24] [] g g' ∧ SMC P g' (rfs rm p) 0) ?_ ?_ (i0 := 0) (s := (0, g)) (Nat.zero_le _) ⟨Fr.rfl, fun j hj => absurd hj (Nat.not_lt_zero _), rfl⟩
    · rintro n ⟨x, g1⟩ ⟨I1, I2, -⟩
      simp only at I1 I2
      have D1 := D.fr I1 (by decide) (by decide)
      have F1 := D1.1
      refine ⟨g1, ?_, I1, I2⟩
      simp only [f_X6_reachFrom_L4.eq_2]
      simp (disch := (first | assumption | (simp only [FX_si, FX_sj, FX_sr]; assumption) | omega | decide)) only [D1.2.2.1, ↓reduceIte, if_true, if_false, i10, i01, eq_self, bd_some, b1_some, b2_some, b3_some, b4_some, c1_eq, elim_inl, elim_inr, zok0, zok1, getQ_si, getQ_sj, getQ_sr, q8_0, q8_1, q8_2, q8_4, q8_7, q8_8, q8_9, q8_10, q8_11, q9_0, q9_3, q9_4, q9_8, q17_0, q17_1, q17_2, q17_4, q17_5, q17_6, q17_9, q17_10, q17_11, q27_4, q27_5, q27_6, q27_7, q27_8, q27_11, q45_0, q45_1, q45_11, q45_12, q45_13, q45_14, q45_15, q45_16, q45_17, q45_18, q45_19, q45_20, q45_21, q45_22, q45_23, q45_24, q45_30, q45_31, q45_32, q45_33, q45_34, q45_35, q45_36, q45_37, q45_38, q45_39, q45_43, q45_44, q45_45, q45_46, q45_47, q45_48, q45_52, q45_53, q45_54, q45_59, q45_60, q45_61, q45_62, q45_65, q45_67, q45_68, gi8, gj8, pi8, pz8, pj8, rc8, gi9, gj9, pi9, pz9, pj9, rc9, gi17, gj17, pi17, pz17, pj17, rc17, gi27, gj27, pi27, pz27, pj27, rc27, gi45, gj45, pi45, pz45, pj45, rc45, aln_si, aln_sj, aln_sq, rc_si, rc_sj, rc_sq, n0, n1, n10, n11, n12, n13, n14, n15, n16, n18, n19, n20, n21, n22, n23, n24, n25, n26, n29, n30, n31, n32, n33, n34, n35, n36, n37, n38, n39, n40, n42, n43, n44, n46, n47, n48, n49, n50, n51, n52, n53, n54, n55, n56, n57, n58, n59, n60, n61, n62, n63, n64, n65, n66, n67, n68, n69, n70, n71, n72, n73, n74, n75, n76, n77, n78, n79, n80, n81, n82, n83, n84, n85, n86, n87, r0, r1, r10, r11, r12, r13, r14, r15, r16, r18, r19, r20, r21, r22, r23, r24, r25, r26, r29, r30, r31, r32, r33, r34, r35, r36, r37, r38, r39, r40, r42, r43, r44, r46, r47, r48, r49, r50, r51, r52, r53, r54, r55, r56, r57, r58, r59, r60, r61, r62, r63, r64, r65, r66, r67, r68, r69, r70, r71, r72, r73, r74, r75, r76, r77, r78, r79, r80, r81, r82, r83, r84, r85, r86, r87, w10, w11, w12, w13, w18, w19, w20, w21, w22, w23, w24, w25, w26, w30, w31, w32, w33, w34, w35, w36, w38, w39, w40, w43, w44, w46, w47, w48, w49, w50, w51, w52, w53, w54, w55, w56, w57, w58, w59, w60, w61, w62, w63, w64, w65, w66, w67, w68, w69, w70, w71, w72, w73, w74, w75, w76, w77, w78, w79, w80, w81, w82, w83, w84, w85, w86, w87, hi_hit, hi_row, hi_col, hj_hit, hj_row, hj_col, hi_sj, hj_si, hq_si, hq_sj, hi_sq, hj_sq, hi_srh, hi_srm]
      rw [if_pos (Int32.le_refl _)]
    · rintro n i ⟨x, g1⟩ hi' ⟨I1, I2, I3⟩
      simp only at I1 I2 I3
      have D1 := D.fr I1 (by decide) (by decide)
      have F1 := D1.1
      have e8 := D1.2.2.1
      have n1 : ¬ nI P ≤ nI i := by rw [nI_leI (by omega) (by omega)]; omega
      have n2 : ¬ (20 : Int32) ≤ nI i := by rw [L20, nI_leI (by omega) (by omega)]; omega
      have bd := rfs_bd D (p := p) (i := i) (by omega) (by omega)
      have hi20 : i < 20 := by omega
      have put : ∀ z : Int32, z.toInt = rfs rm p i → f_X6_reachFrom_L4 (n + 1) 17 (nI p) x (nI i) g1 = f_X6_reachFrom_L4 n 17 (nI p) z (nI (i + 1)) (si g1 24 i z) → ∃ s' : Int32 × Hp, f_X6_reachFrom_L4 (n + 1) 17 (nI p) x (nI i) g1 = f_X6_reachFrom_L4 n 17 (nI p) s'.1 (nI (i + 1)) s'.2 ∧ Fr [24] [] g s'.2 ∧ SMC (i + 1) s'.2 (rfs rm p) 0 ∧ s'.1.toInt = (if i + 1 = 0 then 0 else rfs rm p (i + 1 - 1)) := by
        intro z hz e
        refine ⟨(z, si g1 24 i z), e, I1.trans (Fr.row (by decide)), fun j hj => ?_, ?_⟩
        · simp only
          by_cases q : j = i
          · subst q
            rw [hi_hit]
            exact ⟨hz, by omega, by omega⟩
          · rw [hi_col 24 _ q]
            exact I2 j (by omega)
        · rw [if_neg (by omega), Nat.add_sub_cancel]
          exact hz
      right
      by_cases c : i ≤ p
      · have c' : nI i ≤ nI p := by rw [nI_leI (by omega) (by omega)]; omega
        refine put x ?_ ?_
        · rw [I3]
          unfold rfs
          rw [if_pos c]
          split
          · rfl
          · rw [if_pos (by omega)]
        · rw [f_X6_reachFrom_L4.eq_2]
          simp (disch := (first | assumption | (simp only [FX_si, FX_sj, FX_sr]; assumption) | omega | decide)) only [e8, n1, n2, c', nI_1, ↓reduceIte, if_true, if_false, i10, i01, eq_self, bd_some, b1_some, b2_some, b3_some, b4_some, c1_eq, elim_inl, elim_inr, zok0, zok1, getQ_si, getQ_sj, getQ_sr, q8_0, q8_1, q8_2, q8_4, q8_7, q8_8, q8_9, q8_10, q8_11, q9_0, q9_3, q9_4, q9_8, q17_0, q17_1, q17_2, q17_4, q17_5, q17_6, q17_9, q17_10, q17_11, q27_4, q27_5, q27_6, q27_7, q27_8, q27_11, q45_0, q45_1, q45_11, q45_12, q45_13, q45_14, q45_15, q45_16, q45_17, q45_18, q45_19, q45_20, q45_21, q45_22, q45_23, q45_24, q45_30, q45_31, q45_32, q45_33, q45_34, q45_35, q45_36, q45_37, q45_38, q45_39, q45_43, q45_44, q45_45, q45_46, q45_47, q45_48, q45_52, q45_53, q45_54, q45_59, q45_60, q45_61, q45_62, q45_65, q45_67, q45_68, gi8, gj8, pi8, pz8, pj8, rc8, gi9, gj9, pi9, pz9, pj9, rc9, gi17, gj17, pi17, pz17, pj17, rc17, gi27, gj27, pi27, pz27, pj27, rc27, gi45, gj45, pi45, pz45, pj45, rc45, aln_si, aln_sj, aln_sq, rc_si, rc_sj, rc_sq, n0, n1, n10, n11, n12, n13, n14, n15, n16, n18, n19, n20, n21, n22, n23, n24, n25, n26, n29, n30, n31, n32, n33, n34, n35, n36, n37, n38, n39, n40, n42, n43, n44, n46, n47, n48, n49, n50, n51, n52, n53, n54, n55, n56, n57, n58, n59, n60, n61, n62, n63, n64, n65, n66, n67, n68, n69, n70, n71, n72, n73, n74, n75, n76, n77, n78, n79, n80, n81, n82, n83, n84, n85, n86, n87, r0, r1, r10, r11, r12, r13, r14, r15, r16, r18, r19, r20, r21, r22, r23, r24, r25, r26, r29, r30, r31, r32, r33, r34, r35, r36, r37, r38, r39, r40, r42, r43, r44, r46, r47, r48, r49, r50, r51, r52, r53, r54, r55, r56, r57, r58, r59, r60, r61, r62, r63, r64, r65, r66, r67, r68, r69, r70, r71, r72, r73, r74, r75, r76, r77, r78, r79, r80, r81, r82, r83, r84, r85, r86, r87, w10, w11, w12, w13, w18, w19, w20, w21, w22, w23, w24, w25, w26, w30, w31, w32, w33, w34, w35, w36, w38, w39, w40, w43, w44, w46, w47, w48, w49, w50, w51, w52, w53, w54, w55, w56, w57, w58, w59, w60, w61, w62, w63, w64, w65, w66, w67, w68, w69, w70, w71, w72, w73, w74, w75, w76, w77, w78, w79, w80, w81, w82, w83, w84, w85, w86, w87, hi_hit, hi_row, hi_col, hj_hit, hj_row, hj_col, hi_sj, hj_si, hq_si, hq_sj, hi_sq, hj_sq, hi_srh, hi_srm]
      · have c' : ¬ nI i ≤ nI p := by rw [nI_leI (by omega) (by omega)]; omega
        obtain ⟨j, rfl⟩ : ∃ j, i = j + 1 := ⟨i - 1, by omega⟩
        obtain ⟨q1, q2, q3⟩ := D1.2.2.2.2.2.2.2.2.1 j (by omega)
        have ea : f_X8_at (some 23) (nI j) g1 = some (hi g1 23 j, g1) := at_in (F1.kd (a := 23) (by decide) (by decide) rfl) (by omega) (by omega)
        rw [if_neg (by omega), Nat.add_sub_cancel] at I3
        have bd2 := rfs_bd D (p := p) (i := j) (by omega) (by omega)
        refine put (x + hi g1 23 j) ?_ ?_
        · rw [i_add (by omega) (by omega), I3, q1]
          have e : psm rm (j + 1) = psm rm j + rm j := rfl
          unfold rfs
          by_cases z : j ≤ p
          · have zz : j = p := by omega
            subst zz
            rw [if_pos (Nat.le_refl _), if_neg (by omega)]
            omega
          · rw [if_neg z, if_neg (by omega)]
            omega
        · rw [f_X6_reachFrom_L4.eq_2]
          simp (disch := (first | assumption | (simp only [FX_si, FX_sj, FX_sr]; assumption) | omega | decide)) only [e8, n1, n2, c', nI_1, nI_pred, ea, ↓reduceIte, if_true, if_false, i10, i01, eq_self, bd_some, b1_some, b2_some, b3_some, b4_some, c1_eq, elim_inl, elim_inr, zok0, zok1, getQ_si, getQ_sj, getQ_sr, q8_0, q8_1, q8_2, q8_4, q8_7, q8_8, q8_9, q8_10, q8_11, q9_0, q9_3, q9_4, q9_8, q17_0, q17_1, q17_2, q17_4, q17_5, q17_6, q17_9, q17_10, q17_11, q27_4, q27_5, q27_6, q27_7, q27_8, q27_11, q45_0, q45_1, q45_11, q45_12, q45_13, q45_14, q45_15, q45_16, q45_17, q45_18, q45_19, q45_20, q45_21, q45_22, q45_23, q45_24, q45_30, q45_31, q45_32, q45_33, q45_34, q45_35, q45_36, q45_37, q45_38, q45_39, q45_43, q45_44, q45_45, q45_46, q45_47, q45_48, q45_52, q45_53, q45_54, q45_59, q45_60, q45_61, q45_62, q45_65, q45_67, q45_68, gi8, gj8, pi8, pz8, pj8, rc8, gi9, gj9, pi9, pz9, pj9, rc9, gi17, gj17, pi17, pz17, pj17, rc17, gi27, gj27, pi27, pz27, pj27, rc27, gi45, gj45, pi45, pz45, pj45, rc45, aln_si, aln_sj, aln_sq, rc_si, rc_sj, rc_sq, n0, n1, n10, n11, n12, n13, n14, n15, n16, n18, n19, n20, n21, n22, n23, n24, n25, n26, n29, n30, n31, n32, n33, n34, n35, n36, n37, n38, n39, n40, n42, n43, n44, n46, n47, n48, n49, n50, n51, n52, n53, n54, n55, n56, n57, n58, n59, n60, n61, n62, n63, n64, n65, n66, n67, n68, n69, n70, n71, n72, n73, n74, n75, n76, n77, n78, n79, n80, n81, n82, n83, n84, n85, n86, n87, r0, r1, r10, r11, r12, r13, r14, r15, r16, r18, r19, r20, r21, r22, r23, r24, r25, r26, r29, r30, r31, r32, r33, r34, r35, r36, r37, r38, r39, r40, r42, r43, r44, r46, r47, r48, r49, r50, r51, r52, r53, r54, r55, r56, r57, r58, r59, r60, r61, r62, r63, r64, r65, r66, r67, r68, r69, r70, r71, r72, r73, r74, r75, r76, r77, r78, r79, r80, r81, r82, r83, r84, r85, r86, r87, w10, w11, w12, w13, w18, w19, w20, w21, w22, w23, w24, w25, w26, w30, w31, w32, w33, w34, w35, w36, w38, w39, w40, w43, w44, w46, w47, w48, w49, w50, w51, w52, w53, w54, w55, w56, w57, w58, w59, w60, w61, w62, w63, w64, w65, w66, w67, w68, w69, w70, w71, w72, w73, w74, w75, w76, w77, w78, w79, w80, w81, w82, w83, w84, w85, w86, w87, hi_hit, hi_row, hi_col, hj_hit, hj_row, hj_col, hi_sj, hj_si, hq_si, hq_sj, hi_sq, hj_sq, hi_srh, hi_srm]
  obtain ⟨g', a1, a2⟩ := key
  refine ⟨g', ?_, a2⟩
  unfold f_X6_reachFrom
  rw [a1, bd_some]
end Cr
