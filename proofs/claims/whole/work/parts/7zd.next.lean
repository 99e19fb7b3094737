/-! How the model finds the next token. -/
theorem lN_step {x c : Nat} (hc : c < 256) (hx : 256 * x + c < 2 ^ 63) : (lN x <<< ((8 : Int32).toInt64 &&& 63)) ||| (nI c).toInt64 = lN (256 * x + c) := by
  have e8 : ((8 : Int32).toInt64 &&& 63) = (8 : Int64) := by decide
  rw [e8, nI_l (by omega)]
  apply Int64.toBitVec_inj.mp
  apply BitVec.eq_of_toNat_eq
  have tn : ∀ m : Nat, m < 2 ^ 64 → (lN m).toBitVec.toNat = m := fun m hm => Nat.mod_eq_of_lt hm
  rw [Int64.toBitVec_or, Int64.toBitVec_shiftLeft, BitVec.toNat_or, tn c (by omega), tn (256 * x + c) (by omega)]
  have sh : (lN x).toBitVec <<< (8 : Int64).toBitVec.smod 64 = (lN x).toBitVec <<< 8 := rfl
  rw [sh, BitVec.toNat_shiftLeft, tn x (by omega), Nat.shiftLeft_eq, Nat.mod_eq_of_lt (by omega), ← Nat.shiftLeft_eq, ← Nat.shiftLeft_add_eq_or_of_lt (by omega), Nat.shiftLeft_eq]
  omega
theorem pkr_lt {f : Nat → Nat} : ∀ m, (∀ i, i < m → f i < 128) → 2 * pkr (Lr f m) < 256 ^ m := by
  intro m
  induction m with
  | zero => intro _; exact Nat.one_pos
  | succ m ih =>
    intro h
    have h1 := ih (fun i hi' => h i (by omega))
    have h2 := h m (by omega)
    show 2 * (256 * pkr (Lr f m) + f m) < 256 ^ (m + 1)
    rw [Nat.pow_succ]
    omega
theorem q9_L {c : Nat} (hc : c < 2 ^ 31) (g : Hp) : f_X9_isLetter (nI c) g = some (if isL c = true then 1 else 0, g) := q_L hc g
theorem q9_D {c : Nat} (hc : c < 2 ^ 31) (g : Hp) : f_X9_isDigit (nI c) g = some (if isD c = true then 1 else 0, g) := q_D hc g
theorem q9_S {c : Nat} (hc : c < 256) (g : Hp) : f_X9_isSign (nI c) g = some (if isS c = true then 1 else 0, g) := by
  have e : ∀ k : Nat, k < 256 → ((nI c = nI k) = (c = k)) := fun k hk' => propext (nI_eq (by omega) (by omega))
  have e59 : (nI c = (59 : Int32)) = (c = 59) := e 59 (by omega)
  have e40 : (nI c = (40 : Int32)) = (c = 40) := e 40 (by omega)
  have e41 : (nI c = (41 : Int32)) = (c = 41) := e 41 (by omega)
  have e60 : (nI c = (60 : Int32)) = (c = 60) := e 60 (by omega)
  have e62 : (nI c = (62 : Int32)) = (c = 62) := e 62 (by omega)
  have e61 : (nI c = (61 : Int32)) = (c = 61) := e 61 (by omega)
  have e43 : (nI c = (43 : Int32)) = (c = 43) := e 43 (by omega)
  have e45 : (nI c = (45 : Int32)) = (c = 45) := e 45 (by omega)
  have e42 : (nI c = (42 : Int32)) = (c = 42) := e 42 (by omega)
  have e47 : (nI c = (47 : Int32)) = (c = 47) := e 47 (by omega)
  unfold f_X9_isSign
  simp only [e59, e40, e41, e60, e62, e61, e43, e45, e42, e47]
  by_cases q : isS c = true
  · rw [if_pos q]
    rcases isS_iff.mp q with r | r | r | r | r | r | r | r | r | r <;> subst r <;> rfl
  · rw [if_neg q]
    have q' := mt isS_iff.mpr q
    rw [if_neg (by omega), if_neg (by omega), if_neg (by omega), if_neg (by omega), if_neg (by omega), if_neg (by omega), if_neg (by omega), if_neg (by omega), if_neg (by omega), if_neg (by omega), b1_some, zok0, bd_some]
/-- the model's token -/
def MT (B : Nat → Nat) (n t a : Nat) (tok num : Int32) (nm : Int64) : Prop :=
  (t = 25 ∧ tok = 0) ∨ (t = 26 ∧ tok = 1) ∨ (t ≤ 24 ∧ tok = 2 ∧ ∃ V, V < 2 ^ 63 ∧ tkw V = t ∧ nm = lN V) ∨ (1000 ≤ t ∧ t < 11000 ∧ tok = 3 ∧ num = nI (t - 1000)) ∨ (isS t = true ∧ tok = 4 ∧ a < n ∧ B a = t)
section Ma
variable {h : Hp} {B : Nat → Nat} {n : Nat}
def LX (h : Hp) (B : Nat → Nat) (n : Nat) : Prop := FX h ∧ BY h 47 B n ∧ hi h 45 3 = nI n
def BN : List Nat := [6, 7, 8, 9, 10]
theorem LX.fr {g : Hp} (l : LX h B n) {A C : List Nat} (fr : FrM A C h g) (hA : 47 ∉ A) (hC : 3 ∉ C) : LX g B n := ⟨fr.fx l.1, l.2.1.of (fun k => fr.ei k hA (by decide)), (fr.ef hC).trans l.2.2⟩
theorem m_sign (l : LX h B n) {k : Nat} (hk' : k < 2 ^ 31) : f_X9_sign 45 (nI k) h = some (nI (if k < n then B k else 0), h) := by
  obtain ⟨X, b, e⟩ := l
  have h9 := b.1
  have q1 : nI n ≤ nI k ↔ n ≤ k := nI_leI (by omega) hk'
  unfold f_X9_sign
  by_cases c : k < n
  · have q1 : ¬ nI n ≤ nI k := fun z => by have := q1.mp z; omega
    have q3 : k < 900 := by omega
    have q4 := (b.2 k c).1
    rw [if_pos c]
    simp (disch := (first | assumption | (simp only [FX_si, FX_sj, FX_sr, WX_si, WX_sj, WX_sr, FK_si, FK_sj, FK_sr]; assumption) | omega | decide)) only [e, q1, q4, ↓reduceIte, if_true, if_false, i10, i01, eq_self, wq7, wq8, wq9, wq10, wrc, wgi, wpi, wpz, wn1, wn2, wn3, wn4, wr1, wr2, wr3, wr4, ww1, ww2, ww3, ww4, fgi, fgq, fpi, frc, at18, at19, at21, at22, at23, at24, at25, at26, at_neg, wat1, wat2, wat3, wat4, reduceCtorEq, bd_some, b1_some, b2_some, b3_some, b4_some, c1_eq, elim_inl, elim_inr, zok0, zok1, getQ_si, getQ_sj, getQ_sr, q8_0, q8_1, q8_2, q8_4, q8_7, q8_8, q8_9, q8_10, q8_11, q9_0, q9_3, q9_4, q9_8, q17_0, q17_1, q17_2, q17_4, q17_5, q17_6, q17_9, q17_10, q17_11, q27_4, q27_5, q27_6, q27_7, q27_8, q27_11, q45_0, q45_1, q45_11, q45_12, q45_13, q45_14, q45_15, q45_16, q45_17, q45_18, q45_19, q45_20, q45_21, q45_22, q45_23, q45_24, q45_30, q45_31, q45_32, q45_33, q45_34, q45_35, q45_36, q45_37, q45_38, q45_39, q45_43, q45_44, q45_45, q45_46, q45_47, q45_48, q45_52, q45_53, q45_54, q45_59, q45_60, q45_61, q45_62, q45_65, q45_67, q45_68, gi8, gj8, pi8, pz8, pj8, rc8, gi9, gj9, pi9, pz9, pj9, rc9, gi17, gj17, pi17, pz17, pj17, rc17, gi27, gj27, pi27, pz27, pj27, rc27, gi45, gj45, pi45, pz45, pj45, rc45, aln_si, aln_sj, aln_sq, rc_si, rc_sj, rc_sq, n0, n1, n10, n11, n12, n13, n14, n15, n16, n18, n19, n20, n21, n22, n23, n24, n25, n26, n29, n30, n31, n32, n33, n34, n35, n36, n37, n38, n39, n40, n42, n43, n44, n46, n47, n48, n49, n50, n51, n52, n53, n54, n55, n56, n57, n58, n59, n60, n61, n62, n63, n64, n65, n66, n67, n68, n69, n70, n71, n72, n73, n74, n75, n76, n77, n78, n79, n80, n81, n82, n83, n84, n85, n86, n87, r0, r1, r10, r11, r12, r13, r14, r15, r16, r18, r19, r20, r21, r22, r23, r24, r25, r26, r29, r30, r31, r32, r33, r34, r35, r36, r37, r38, r39, r40, r42, r43, r44, r46, r47, r48, r49, r50, r51, r52, r53, r54, r55, r56, r57, r58, r59, r60, r61, r62, r63, r64, r65, r66, r67, r68, r69, r70, r71, r72, r73, r74, r75, r76, r77, r78, r79, r80, r81, r82, r83, r84, r85, r86, r87, w10, w11, w12, w13, w18, w19, w20, w21, w22, w23, w24, w25, w26, w30, w31, w32, w33, w34, w35, w36, w38, w39, w40, w43, w44, w46, w47, w48, w49, w50, w51, w52, w53, w54, w55, w56, w57, w58, w59, w60, w61, w62, w63, w64, w65, w66, w67, w68, w69, w70, w71, w72, w73, w74, w75, w76, w77, w78, w79, w80, w81, w82, w83, w84, w85, w86, w87, hi_hit, hi_row, hi_col, hj_hit, hj_row, hj_col, hi_sj, hj_si, hq_si, hq_sj, hi_sq, hj_sq, hi_srh, hi_srm]
  · have q1 : nI n ≤ nI k := q1.mpr (by omega)
    rw [if_neg c]
    simp (disch := (first | assumption | (simp only [FX_si, FX_sj, FX_sr, WX_si, WX_sj, WX_sr, FK_si, FK_sj, FK_sr]; assumption) | omega | decide)) only [e, q1, ↓reduceIte, if_true, if_false, i10, i01, eq_self, wq7, wq8, wq9, wq10, wrc, wgi, wpi, wpz, wn1, wn2, wn3, wn4, wr1, wr2, wr3, wr4, ww1, ww2, ww3, ww4, fgi, fgq, fpi, frc, at18, at19, at21, at22, at23, at24, at25, at26, at_neg, wat1, wat2, wat3, wat4, reduceCtorEq, bd_some, b1_some, b2_some, b3_some, b4_some, c1_eq, elim_inl, elim_inr, zok0, zok1, getQ_si, getQ_sj, getQ_sr, q8_0, q8_1, q8_2, q8_4, q8_7, q8_8, q8_9, q8_10, q8_11, q9_0, q9_3, q9_4, q9_8, q17_0, q17_1, q17_2, q17_4, q17_5, q17_6, q17_9, q17_10, q17_11, q27_4, q27_5, q27_6, q27_7, q27_8, q27_11, q45_0, q45_1, q45_11, q45_12, q45_13, q45_14, q45_15, q45_16, q45_17, q45_18, q45_19, q45_20, q45_21, q45_22, q45_23, q45_24, q45_30, q45_31, q45_32, q45_33, q45_34, q45_35, q45_36, q45_37, q45_38, q45_39, q45_43, q45_44, q45_45, q45_46, q45_47, q45_48, q45_52, q45_53, q45_54, q45_59, q45_60, q45_61, q45_62, q45_65, q45_67, q45_68, gi8, gj8, pi8, pz8, pj8, rc8, gi9, gj9, pi9, pz9, pj9, rc9, gi17, gj17, pi17, pz17, pj17, rc17, gi27, gj27, pi27, pz27, pj27, rc27, gi45, gj45, pi45, pz45, pj45, rc45, aln_si, aln_sj, aln_sq, rc_si, rc_sj, rc_sq, n0, n1, n10, n11, n12, n13, n14, n15, n16, n18, n19, n20, n21, n22, n23, n24, n25, n26, n29, n30, n31, n32, n33, n34, n35, n36, n37, n38, n39, n40, n42, n43, n44, n46, n47, n48, n49, n50, n51, n52, n53, n54, n55, n56, n57, n58, n59, n60, n61, n62, n63, n64, n65, n66, n67, n68, n69, n70, n71, n72, n73, n74, n75, n76, n77, n78, n79, n80, n81, n82, n83, n84, n85, n86, n87, r0, r1, r10, r11, r12, r13, r14, r15, r16, r18, r19, r20, r21, r22, r23, r24, r25, r26, r29, r30, r31, r32, r33, r34, r35, r36, r37, r38, r39, r40, r42, r43, r44, r46, r47, r48, r49, r50, r51, r52, r53, r54, r55, r56, r57, r58, r59, r60, r61, r62, r63, r64, r65, r66, r67, r68, r69, r70, r71, r72, r73, r74, r75, r76, r77, r78, r79, r80, r81, r82, r83, r84, r85, r86, r87, w10, w11, w12, w13, w18, w19, w20, w21, w22, w23, w24, w25, w26, w30, w31, w32, w33, w34, w35, w36, w38, w39, w40, w43, w44, w46, w47, w48, w49, w50, w51, w52, w53, w54, w55, w56, w57, w58, w59, w60, w61, w62, w63, w64, w65, w66, w67, w68, w69, w70, w71, w72, w73, w74, w75, w76, w77, w78, w79, w80, w81, w82, w83, w84, w85, w86, w87, hi_hit, hi_row, hi_col, hj_hit, hj_row, hj_col, hi_sj, hj_si, hq_si, hq_sj, hi_sq, hj_sq, hi_srh, hi_srm]
    rfl
theorem B_lt (l : LX h B n) {k : Nat} : (if k < n then B k else 0) < 256 := by
  by_cases c : k < n
  · rw [if_pos c]; exact (l.2.1.2 k c).2
  · rw [if_neg c]; decide
theorem m_blank (l : LX h B n) {p : Nat} (hp : p ≤ n) (ep : hi h 45 6 = nI p) : ∃ g, f_X9_next_L8 fu 45 h = some g ∧ (FrM [] [6] h g ∧ hi g 45 6 = nI (rn B n isB p)) := by
  have h9 := l.2.1.1
  refine whl (fun m g => f_X9_next_L8 m 45 g) (fun g => n - (hi g 45 6).toNatClampNeg) (fun g => FrM [] [6] h g ∧ ∃ p', p' ≤ n ∧ hi g 45 6 = nI p' ∧ rn B n isB p' = rn B n isB p) _ ?_ fu h ⟨FrM.rfl, p, hp, ep, rfl⟩ (fu_gt (by omega))
  rintro m g ⟨I1, p', I2, I3, I4⟩
  have lg := l.fr I1 (by decide) (by decide)
  have Xg := lg.1
  have eg := lg.2.2
  by_cases c : n ≤ p'
  · left
    have q1 : nI n ≤ nI p' := by rw [nI_leI (by omega) (by omega)]; omega
    refine ⟨g, ?_, I1, by rw [I3, ← I4, rn_end c]⟩
    show f_X9_next_L8 (m + 1) 45 g = some g
    rw [f_X9_next_L8.eq_2]
    simp (disch := (first | assumption | (simp only [FX_si, FX_sj, FX_sr, WX_si, WX_sj, WX_sr, FK_si, FK_sj, FK_sr]; assumption) | omega | decide)) only [I3, eg, q1, ↓reduceIte, if_true, if_false, i10, i01, eq_self, wq7, wq8, wq9, wq10, wrc, wgi, wpi, wpz, wn1, wn2, wn3, wn4, wr1, wr2, wr3, wr4, ww1, ww2, ww3, ww4, fgi, fgq, fpi, frc, at18, at19, at21, at22, at23, at24, at25, at26, at_neg, wat1, wat2, wat3, wat4, reduceCtorEq, bd_some, b1_some, b2_some, b3_some, b4_some, c1_eq, elim_inl, elim_inr, zok0, zok1, getQ_si, getQ_sj, getQ_sr, q8_0, q8_1, q8_2, q8_4, q8_7, q8_8, q8_9, q8_10, q8_11, q9_0, q9_3, q9_4, q9_8, q17_0, q17_1, q17_2, q17_4, q17_5, q17_6, q17_9, q17_10, q17_11, q27_4, q27_5, q27_6, q27_7, q27_8, q27_11, q45_0, q45_1, q45_11, q45_12, q45_13, q45_14, q45_15, q45_16, q45_17, q45_18, q45_19, q45_20, q45_21, q45_22, q45_23, q45_24, q45_30, q45_31, q45_32, q45_33, q45_34, q45_35, q45_36, q45_37, q45_38, q45_39, q45_43, q45_44, q45_45, q45_46, q45_47, q45_48, q45_52, q45_53, q45_54, q45_59, q45_60, q45_61, q45_62, q45_65, q45_67, q45_68, gi8, gj8, pi8, pz8, pj8, rc8, gi9, gj9, pi9, pz9, pj9, rc9, gi17, gj17, pi17, pz17, pj17, rc17, gi27, gj27, pi27, pz27, pj27, rc27, gi45, gj45, pi45, pz45, pj45, rc45, aln_si, aln_sj, aln_sq, rc_si, rc_sj, rc_sq, n0, n1, n10, n11, n12, n13, n14, n15, n16, n18, n19, n20, n21, n22, n23, n24, n25, n26, n29, n30, n31, n32, n33, n34, n35, n36, n37, n38, n39, n40, n42, n43, n44, n46, n47, n48, n49, n50, n51, n52, n53, n54, n55, n56, n57, n58, n59, n60, n61, n62, n63, n64, n65, n66, n67, n68, n69, n70, n71, n72, n73, n74, n75, n76, n77, n78, n79, n80, n81, n82, n83, n84, n85, n86, n87, r0, r1, r10, r11, r12, r13, r14, r15, r16, r18, r19, r20, r21, r22, r23, r24, r25, r26, r29, r30, r31, r32, r33, r34, r35, r36, r37, r38, r39, r40, r42, r43, r44, r46, r47, r48, r49, r50, r51, r52, r53, r54, r55, r56, r57, r58, r59, r60, r61, r62, r63, r64, r65, r66, r67, r68, r69, r70, r71, r72, r73, r74, r75, r76, r77, r78, r79, r80, r81, r82, r83, r84, r85, r86, r87, w10, w11, w12, w13, w18, w19, w20, w21, w22, w23, w24, w25, w26, w30, w31, w32, w33, w34, w35, w36, w38, w39, w40, w43, w44, w46, w47, w48, w49, w50, w51, w52, w53, w54, w55, w56, w57, w58, w59, w60, w61, w62, w63, w64, w65, w66, w67, w68, w69, w70, w71, w72, w73, w74, w75, w76, w77, w78, w79, w80, w81, w82, w83, w84, w85, w86, w87, hi_hit, hi_row, hi_col, hj_hit, hj_row, hj_col, hi_sj, hj_si, hq_si, hq_sj, hi_sq, hj_sq, hi_srh, hi_srm]
  · have q1 : ¬ nI n ≤ nI p' := by rw [nI_leI (by omega) (by omega)]; omega
    have q2 := m_sign lg (k := p') (by omega)
    rw [if_pos (by omega)] at q2
    have Bl := (lg.2.1.2 p' (by omega)).2
    have e1 : nI (B p') = (32 : Int32) ↔ B p' = 32 := nI_eq (b := 32) (by omega) (by decide)
    have e2 : nI (B p') = (10 : Int32) ↔ B p' = 10 := nI_eq (b := 10) (by omega) (by decide)
    by_cases c2 : isB (B p') = true
    · right
      refine ⟨si g 45 6 (nI (p' + 1)), ?_, ⟨I1.trans (FrM.fld (by decide)), p' + 1, by omega, hi_hit _ _ _, by rw [← I4]; exact (rn_go (by omega) c2).symm⟩, ?_⟩
      · show f_X9_next_L8 (m + 1) 45 g = _
        rw [f_X9_next_L8.eq_2]
        by_cases c3 : B p' = 32
        · have c3' := e1.mpr c3
          simp (disch := (first | assumption | (simp only [FX_si, FX_sj, FX_sr, WX_si, WX_sj, WX_sr, FK_si, FK_sj, FK_sr]; assumption) | omega | decide)) only [I3, eg, q1, q2, nI_1, c3', ↓reduceIte, if_true, if_false, i10, i01, eq_self, wq7, wq8, wq9, wq10, wrc, wgi, wpi, wpz, wn1, wn2, wn3, wn4, wr1, wr2, wr3, wr4, ww1, ww2, ww3, ww4, fgi, fgq, fpi, frc, at18, at19, at21, at22, at23, at24, at25, at26, at_neg, wat1, wat2, wat3, wat4, reduceCtorEq, bd_some, b1_some, b2_some, b3_some, b4_some, c1_eq, elim_inl, elim_inr, zok0, zok1, getQ_si, getQ_sj, getQ_sr, q8_0, q8_1, q8_2, q8_4, q8_7, q8_8, q8_9, q8_10, q8_11, q9_0, q9_3, q9_4, q9_8, q17_0, q17_1, q17_2, q17_4, q17_5, q17_6, q17_9, q17_10, q17_11, q27_4, q27_5, q27_6, q27_7, q27_8, q27_11, q45_0, q45_1, q45_11, q45_12, q45_13, q45_14, q45_15, q45_16, q45_17, q45_18, q45_19, q45_20, q45_21, q45_22, q45_23, q45_24, q45_30, q45_31, q45_32, q45_33, q45_34, q45_35, q45_36, q45_37, q45_38, q45_39, q45_43, q45_44, q45_45, q45_46, q45_47, q45_48, q45_52, q45_53, q45_54, q45_59, q45_60, q45_61, q45_62, q45_65, q45_67, q45_68, gi8, gj8, pi8, pz8, pj8, rc8, gi9, gj9, pi9, pz9, pj9, rc9, gi17, gj17, pi17, pz17, pj17, rc17, gi27, gj27, pi27, pz27, pj27, rc27, gi45, gj45, pi45, pz45, pj45, rc45, aln_si, aln_sj, aln_sq, rc_si, rc_sj, rc_sq, n0, n1, n10, n11, n12, n13, n14, n15, n16, n18, n19, n20, n21, n22, n23, n24, n25, n26, n29, n30, n31, n32, n33, n34, n35, n36, n37, n38, n39, n40, n42, n43, n44, n46, n47, n48, n49, n50, n51, n52, n53, n54, n55, n56, n57, n58, n59, n60, n61, n62, n63, n64, n65, n66, n67, n68, n69, n70, n71, n72, n73, n74, n75, n76, n77, n78, n79, n80, n81, n82, n83, n84, n85, n86, n87, r0, r1, r10, r11, r12, r13, r14, r15, r16, r18, r19, r20, r21, r22, r23, r24, r25, r26, r29, r30, r31, r32, r33, r34, r35, r36, r37, r38, r39, r40, r42, r43, r44, r46, r47, r48, r49, r50, r51, r52, r53, r54, r55, r56, r57, r58, r59, r60, r61, r62, r63, r64, r65, r66, r67, r68, r69, r70, r71, r72, r73, r74, r75, r76, r77, r78, r79, r80, r81, r82, r83, r84, r85, r86, r87, w10, w11, w12, w13, w18, w19, w20, w21, w22, w23, w24, w25, w26, w30, w31, w32, w33, w34, w35, w36, w38, w39, w40, w43, w44, w46, w47, w48, w49, w50, w51, w52, w53, w54, w55, w56, w57, w58, w59, w60, w61, w62, w63, w64, w65, w66, w67, w68, w69, w70, w71, w72, w73, w74, w75, w76, w77, w78, w79, w80, w81, w82, w83, w84, w85, w86, w87, hi_hit, hi_row, hi_col, hj_hit, hj_row, hj_col, hi_sj, hj_si, hq_si, hq_sj, hi_sq, hj_sq, hi_srh, hi_srm]
        · have c3' : ¬ nI (B p') = (32 : Int32) := fun z => c3 (e1.mp z)
          have c4' : nI (B p') = (10 : Int32) := e2.mpr ((isB_iff.mp c2).resolve_left c3)
          simp (disch := (first | assumption | (simp only [FX_si, FX_sj, FX_sr, WX_si, WX_sj, WX_sr, FK_si, FK_sj, FK_sr]; assumption) | omega | decide)) only [I3, eg, q1, q2, nI_1, c3', c4', ↓reduceIte, if_true, if_false, i10, i01, eq_self, wq7, wq8, wq9, wq10, wrc, wgi, wpi, wpz, wn1, wn2, wn3, wn4, wr1, wr2, wr3, wr4, ww1, ww2, ww3, ww4, fgi, fgq, fpi, frc, at18, at19, at21, at22, at23, at24, at25, at26, at_neg, wat1, wat2, wat3, wat4, reduceCtorEq, bd_some, b1_some, b2_some, b3_some, b4_some, c1_eq, elim_inl, elim_inr, zok0, zok1, getQ_si, getQ_sj, getQ_sr, q8_0, q8_1, q8_2, q8_4, q8_7, q8_8, q8_9, q8_10, q8_11, q9_0, q9_3, q9_4, q9_8, q17_0, q17_1, q17_2, q17_4, q17_5, q17_6, q17_9, q17_10, q17_11, q27_4, q27_5, q27_6, q27_7, q27_8, q27_11, q45_0, q45_1, q45_11, q45_12, q45_13, q45_14, q45_15, q45_16, q45_17, q45_18, q45_19, q45_20, q45_21, q45_22, q45_23, q45_24, q45_30, q45_31, q45_32, q45_33, q45_34, q45_35, q45_36, q45_37, q45_38, q45_39, q45_43, q45_44, q45_45, q45_46, q45_47, q45_48, q45_52, q45_53, q45_54, q45_59, q45_60, q45_61, q45_62, q45_65, q45_67, q45_68, gi8, gj8, pi8, pz8, pj8, rc8, gi9, gj9, pi9, pz9, pj9, rc9, gi17, gj17, pi17, pz17, pj17, rc17, gi27, gj27, pi27, pz27, pj27, rc27, gi45, gj45, pi45, pz45, pj45, rc45, aln_si, aln_sj, aln_sq, rc_si, rc_sj, rc_sq, n0, n1, n10, n11, n12, n13, n14, n15, n16, n18, n19, n20, n21, n22, n23, n24, n25, n26, n29, n30, n31, n32, n33, n34, n35, n36, n37, n38, n39, n40, n42, n43, n44, n46, n47, n48, n49, n50, n51, n52, n53, n54, n55, n56, n57, n58, n59, n60, n61, n62, n63, n64, n65, n66, n67, n68, n69, n70, n71, n72, n73, n74, n75, n76, n77, n78, n79, n80, n81, n82, n83, n84, n85, n86, n87, r0, r1, r10, r11, r12, r13, r14, r15, r16, r18, r19, r20, r21, r22, r23, r24, r25, r26, r29, r30, r31, r32, r33, r34, r35, r36, r37, r38, r39, r40, r42, r43, r44, r46, r47, r48, r49, r50, r51, r52, r53, r54, r55, r56, r57, r58, r59, r60, r61, r62, r63, r64, r65, r66, r67, r68, r69, r70, r71, r72, r73, r74, r75, r76, r77, r78, r79, r80, r81, r82, r83, r84, r85, r86, r87, w10, w11, w12, w13, w18, w19, w20, w21, w22, w23, w24, w25, w26, w30, w31, w32, w33, w34, w35, w36, w38, w39, w40, w43, w44, w46, w47, w48, w49, w50, w51, w52, w53, w54, w55, w56, w57, w58, w59, w60, w61, w62, w63, w64, w65, w66, w67, w68, w69, w70, w71, w72, w73, w74, w75, w76, w77, w78, w79, w80, w81, w82, w83, w84, w85, w86, w87, hi_hit, hi_row, hi_col, hj_hit, hj_row, hj_col, hi_sj, hj_si, hq_si, hq_sj, hi_sq, hj_sq, hi_srh, hi_srm]
          rw [if_neg (by decide)]
      · show n - (hi (si g 45 6 (nI (p' + 1))) 45 6).toNatClampNeg < n - (hi g 45 6).toNatClampNeg
        rw [hi_hit, I3, nI_tn (by omega), nI_tn (by omega)]
        omega
    · left
      have c3' : ¬ nI (B p') = (32 : Int32) := fun z => c2 (isB_iff.mpr (Or.inl (e1.mp z)))
      have c4' : ¬ nI (B p') = (10 : Int32) := fun z => c2 (isB_iff.mpr (Or.inr (e2.mp z)))
      refine ⟨g, ?_, I1, by rw [I3, ← I4, rn_stop (by simpa using c2)]⟩
      show f_X9_next_L8 (m + 1) 45 g = some g
      rw [f_X9_next_L8.eq_2]
      simp (disch := (first | assumption | (simp only [FX_si, FX_sj, FX_sr, WX_si, WX_sj, WX_sr, FK_si, FK_sj, FK_sr]; assumption) | omega | decide)) only [I3, eg, q1, q2, c3', c4', ↓reduceIte, if_true, if_false, i10, i01, eq_self, wq7, wq8, wq9, wq10, wrc, wgi, wpi, wpz, wn1, wn2, wn3, wn4, wr1, wr2, wr3, wr4, ww1, ww2, ww3, ww4, fgi, fgq, fpi, frc, at18, at19, at21, at22, at23, at24, at25, at26, at_neg, wat1, wat2, wat3, wat4, reduceCtorEq, bd_some, b1_some, b2_some, b3_some, b4_some, c1_eq, elim_inl, elim_inr, zok0, zok1, getQ_si, getQ_sj, getQ_sr, q8_0, q8_1, q8_2, q8_4, q8_7, q8_8, q8_9, q8_10, q8_11, q9_0, q9_3, q9_4, q9_8, q17_0, q17_1, q17_2, q17_4, q17_5, q17_6, q17_9, q17_10, q17_11, q27_4, q27_5, q27_6, q27_7, q27_8, q27_11, q45_0, q45_1, q45_11, q45_12, q45_13, q45_14, q45_15, q45_16, q45_17, q45_18, q45_19, q45_20, q45_21, q45_22, q45_23, q45_24, q45_30, q45_31, q45_32, q45_33, q45_34, q45_35, q45_36, q45_37, q45_38, q45_39, q45_43, q45_44, q45_45, q45_46, q45_47, q45_48, q45_52, q45_53, q45_54, q45_59, q45_60, q45_61, q45_62, q45_65, q45_67, q45_68, gi8, gj8, pi8, pz8, pj8, rc8, gi9, gj9, pi9, pz9, pj9, rc9, gi17, gj17, pi17, pz17, pj17, rc17, gi27, gj27, pi27, pz27, pj27, rc27, gi45, gj45, pi45, pz45, pj45, rc45, aln_si, aln_sj, aln_sq, rc_si, rc_sj, rc_sq, n0, n1, n10, n11, n12, n13, n14, n15, n16, n18, n19, n20, n21, n22, n23, n24, n25, n26, n29, n30, n31, n32, n33, n34, n35, n36, n37, n38, n39, n40, n42, n43, n44, n46, n47, n48, n49, n50, n51, n52, n53, n54, n55, n56, n57, n58, n59, n60, n61, n62, n63, n64, n65, n66, n67, n68, n69, n70, n71, n72, n73, n74, n75, n76, n77, n78, n79, n80, n81, n82, n83, n84, n85, n86, n87, r0, r1, r10, r11, r12, r13, r14, r15, r16, r18, r19, r20, r21, r22, r23, r24, r25, r26, r29, r30, r31, r32, r33, r34, r35, r36, r37, r38, r39, r40, r42, r43, r44, r46, r47, r48, r49, r50, r51, r52, r53, r54, r55, r56, r57, r58, r59, r60, r61, r62, r63, r64, r65, r66, r67, r68, r69, r70, r71, r72, r73, r74, r75, r76, r77, r78, r79, r80, r81, r82, r83, r84, r85, r86, r87, w10, w11, w12, w13, w18, w19, w20, w21, w22, w23, w24, w25, w26, w30, w31, w32, w33, w34, w35, w36, w38, w39, w40, w43, w44, w46, w47, w48, w49, w50, w51, w52, w53, w54, w55, w56, w57, w58, w59, w60, w61, w62, w63, w64, w65, w66, w67, w68, w69, w70, w71, w72, w73, w74, w75, w76, w77, w78, w79, w80, w81, w82, w83, w84, w85, w86, w87, hi_hit, hi_row, hi_col, hj_hit, hj_row, hj_col, hi_sj, hj_si, hq_si, hq_sj, hi_sq, hj_sq, hi_srh, hi_srm]
theorem m_letters (l : LX h B n) {p : Nat} (hp : p ≤ n) (ep : hi h 45 7 = nI p) : ∃ g, f_X9_next_L119 fu 45 h = some g ∧ (FrM [] [7] h g ∧ hi g 45 7 = nI (rn B n isL p)) := by
  have h9 := l.2.1.1
  refine whl (fun m g => f_X9_next_L119 m 45 g) (fun g => n - (hi g 45 7).toNatClampNeg) (fun g => FrM [] [7] h g ∧ ∃ p', p' ≤ n ∧ hi g 45 7 = nI p' ∧ rn B n isL p' = rn B n isL p) _ ?_ fu h ⟨FrM.rfl, p, hp, ep, rfl⟩ (fu_gt (by omega))
  rintro m g ⟨I1, p', I2, I3, I4⟩
  have lg := l.fr I1 (by decide) (by decide)
  have Xg := lg.1
  have eg := lg.2.2
  have q2 := m_sign lg (k := p') (by omega)
  by_cases c : n ≤ p'
  · left
    rw [if_neg (by omega)] at q2
    have q3 : f_X9_isLetter (nI 0) g = some (0, g) := rfl
    refine ⟨g, ?_, I1, by rw [I3, ← I4, rn_end c]⟩
    show f_X9_next_L119 (m + 1) 45 g = some g
    rw [f_X9_next_L119.eq_2]
    simp (disch := (first | assumption | (simp only [FX_si, FX_sj, FX_sr, WX_si, WX_sj, WX_sr, FK_si, FK_sj, FK_sr]; assumption) | omega | decide)) only [I3, eg, q2, q3, ↓reduceIte, if_true, if_false, i10, i01, eq_self, wq7, wq8, wq9, wq10, wrc, wgi, wpi, wpz, wn1, wn2, wn3, wn4, wr1, wr2, wr3, wr4, ww1, ww2, ww3, ww4, fgi, fgq, fpi, frc, at18, at19, at21, at22, at23, at24, at25, at26, at_neg, wat1, wat2, wat3, wat4, reduceCtorEq, bd_some, b1_some, b2_some, b3_some, b4_some, c1_eq, elim_inl, elim_inr, zok0, zok1, getQ_si, getQ_sj, getQ_sr, q8_0, q8_1, q8_2, q8_4, q8_7, q8_8, q8_9, q8_10, q8_11, q9_0, q9_3, q9_4, q9_8, q17_0, q17_1, q17_2, q17_4, q17_5, q17_6, q17_9, q17_10, q17_11, q27_4, q27_5, q27_6, q27_7, q27_8, q27_11, q45_0, q45_1, q45_11, q45_12, q45_13, q45_14, q45_15, q45_16, q45_17, q45_18, q45_19, q45_20, q45_21, q45_22, q45_23, q45_24, q45_30, q45_31, q45_32, q45_33, q45_34, q45_35, q45_36, q45_37, q45_38, q45_39, q45_43, q45_44, q45_45, q45_46, q45_47, q45_48, q45_52, q45_53, q45_54, q45_59, q45_60, q45_61, q45_62, q45_65, q45_67, q45_68, gi8, gj8, pi8, pz8, pj8, rc8, gi9, gj9, pi9, pz9, pj9, rc9, gi17, gj17, pi17, pz17, pj17, rc17, gi27, gj27, pi27, pz27, pj27, rc27, gi45, gj45, pi45, pz45, pj45, rc45, aln_si, aln_sj, aln_sq, rc_si, rc_sj, rc_sq, n0, n1, n10, n11, n12, n13, n14, n15, n16, n18, n19, n20, n21, n22, n23, n24, n25, n26, n29, n30, n31, n32, n33, n34, n35, n36, n37, n38, n39, n40, n42, n43, n44, n46, n47, n48, n49, n50, n51, n52, n53, n54, n55, n56, n57, n58, n59, n60, n61, n62, n63, n64, n65, n66, n67, n68, n69, n70, n71, n72, n73, n74, n75, n76, n77, n78, n79, n80, n81, n82, n83, n84, n85, n86, n87, r0, r1, r10, r11, r12, r13, r14, r15, r16, r18, r19, r20, r21, r22, r23, r24, r25, r26, r29, r30, r31, r32, r33, r34, r35, r36, r37, r38, r39, r40, r42, r43, r44, r46, r47, r48, r49, r50, r51, r52, r53, r54, r55, r56, r57, r58, r59, r60, r61, r62, r63, r64, r65, r66, r67, r68, r69, r70, r71, r72, r73, r74, r75, r76, r77, r78, r79, r80, r81, r82, r83, r84, r85, r86, r87, w10, w11, w12, w13, w18, w19, w20, w21, w22, w23, w24, w25, w26, w30, w31, w32, w33, w34, w35, w36, w38, w39, w40, w43, w44, w46, w47, w48, w49, w50, w51, w52, w53, w54, w55, w56, w57, w58, w59, w60, w61, w62, w63, w64, w65, w66, w67, w68, w69, w70, w71, w72, w73, w74, w75, w76, w77, w78, w79, w80, w81, w82, w83, w84, w85, w86, w87, hi_hit, hi_row, hi_col, hj_hit, hj_row, hj_col, hi_sj, hj_si, hq_si, hq_sj, hi_sq, hj_sq, hi_srh, hi_srm]
  · rw [if_pos (by omega)] at q2
    have Bl := (lg.2.1.2 p' (by omega)).2
    have q3 := q9_L (c := B p') (by omega) g
    by_cases c2 : isL (B p') = true
    · right
      rw [i_one c2] at q3
      refine ⟨si g 45 7 (nI (p' + 1)), ?_, ⟨I1.trans (FrM.fld (by decide)), p' + 1, by omega, hi_hit _ _ _, by rw [← I4]; exact (rn_go (by omega) c2).symm⟩, ?_⟩
      · show f_X9_next_L119 (m + 1) 45 g = _
        rw [f_X9_next_L119.eq_2]
        simp (disch := (first | assumption | (simp only [FX_si, FX_sj, FX_sr, WX_si, WX_sj, WX_sr, FK_si, FK_sj, FK_sr]; assumption) | omega | decide)) only [I3, eg, q2, q3, nI_1, ↓reduceIte, if_true, if_false, i10, i01, eq_self, wq7, wq8, wq9, wq10, wrc, wgi, wpi, wpz, wn1, wn2, wn3, wn4, wr1, wr2, wr3, wr4, ww1, ww2, ww3, ww4, fgi, fgq, fpi, frc, at18, at19, at21, at22, at23, at24, at25, at26, at_neg, wat1, wat2, wat3, wat4, reduceCtorEq, bd_some, b1_some, b2_some, b3_some, b4_some, c1_eq, elim_inl, elim_inr, zok0, zok1, getQ_si, getQ_sj, getQ_sr, q8_0, q8_1, q8_2, q8_4, q8_7, q8_8, q8_9, q8_10, q8_11, q9_0, q9_3, q9_4, q9_8, q17_0, q17_1, q17_2, q17_4, q17_5, q17_6, q17_9, q17_10, q17_11, q27_4, q27_5, q27_6, q27_7, q27_8, q27_11, q45_0, q45_1, q45_11, q45_12, q45_13, q45_14, q45_15, q45_16, q45_17, q45_18, q45_19, q45_20, q45_21, q45_22, q45_23, q45_24, q45_30, q45_31, q45_32, q45_33, q45_34, q45_35, q45_36, q45_37, q45_38, q45_39, q45_43, q45_44, q45_45, q45_46, q45_47, q45_48, q45_52, q45_53, q45_54, q45_59, q45_60, q45_61, q45_62, q45_65, q45_67, q45_68, gi8, gj8, pi8, pz8, pj8, rc8, gi9, gj9, pi9, pz9, pj9, rc9, gi17, gj17, pi17, pz17, pj17, rc17, gi27, gj27, pi27, pz27, pj27, rc27, gi45, gj45, pi45, pz45, pj45, rc45, aln_si, aln_sj, aln_sq, rc_si, rc_sj, rc_sq, n0, n1, n10, n11, n12, n13, n14, n15, n16, n18, n19, n20, n21, n22, n23, n24, n25, n26, n29, n30, n31, n32, n33, n34, n35, n36, n37, n38, n39, n40, n42, n43, n44, n46, n47, n48, n49, n50, n51, n52, n53, n54, n55, n56, n57, n58, n59, n60, n61, n62, n63, n64, n65, n66, n67, n68, n69, n70, n71, n72, n73, n74, n75, n76, n77, n78, n79, n80, n81, n82, n83, n84, n85, n86, n87, r0, r1, r10, r11, r12, r13, r14, r15, r16, r18, r19, r20, r21, r22, r23, r24, r25, r26, r29, r30, r31, r32, r33, r34, r35, r36, r37, r38, r39, r40, r42, r43, r44, r46, r47, r48, r49, r50, r51, r52, r53, r54, r55, r56, r57, r58, r59, r60, r61, r62, r63, r64, r65, r66, r67, r68, r69, r70, r71, r72, r73, r74, r75, r76, r77, r78, r79, r80, r81, r82, r83, r84, r85, r86, r87, w10, w11, w12, w13, w18, w19, w20, w21, w22, w23, w24, w25, w26, w30, w31, w32, w33, w34, w35, w36, w38, w39, w40, w43, w44, w46, w47, w48, w49, w50, w51, w52, w53, w54, w55, w56, w57, w58, w59, w60, w61, w62, w63, w64, w65, w66, w67, w68, w69, w70, w71, w72, w73, w74, w75, w76, w77, w78, w79, w80, w81, w82, w83, w84, w85, w86, w87, hi_hit, hi_row, hi_col, hj_hit, hj_row, hj_col, hi_sj, hj_si, hq_si, hq_sj, hi_sq, hj_sq, hi_srh, hi_srm]
      · show n - (hi (si g 45 7 (nI (p' + 1))) 45 7).toNatClampNeg < n - (hi g 45 7).toNatClampNeg
        rw [hi_hit, I3, nI_tn (by omega), nI_tn (by omega)]
        omega
    · left
      rw [i_zero c2] at q3
      refine ⟨g, ?_, I1, by rw [I3, ← I4, rn_stop (by simpa using c2)]⟩
      show f_X9_next_L119 (m + 1) 45 g = some g
      rw [f_X9_next_L119.eq_2]
      simp (disch := (first | assumption | (simp only [FX_si, FX_sj, FX_sr, WX_si, WX_sj, WX_sr, FK_si, FK_sj, FK_sr]; assumption) | omega | decide)) only [I3, eg, q2, q3, ↓reduceIte, if_true, if_false, i10, i01, eq_self, wq7, wq8, wq9, wq10, wrc, wgi, wpi, wpz, wn1, wn2, wn3, wn4, wr1, wr2, wr3, wr4, ww1, ww2, ww3, ww4, fgi, fgq, fpi, frc, at18, at19, at21, at22, at23, at24, at25, at26, at_neg, wat1, wat2, wat3, wat4, reduceCtorEq, bd_some, b1_some, b2_some, b3_some, b4_some, c1_eq, elim_inl, elim_inr, zok0, zok1, getQ_si, getQ_sj, getQ_sr, q8_0, q8_1, q8_2, q8_4, q8_7, q8_8, q8_9, q8_10, q8_11, q9_0, q9_3, q9_4, q9_8, q17_0, q17_1, q17_2, q17_4, q17_5, q17_6, q17_9, q17_10, q17_11, q27_4, q27_5, q27_6, q27_7, q27_8, q27_11, q45_0, q45_1, q45_11, q45_12, q45_13, q45_14, q45_15, q45_16, q45_17, q45_18, q45_19, q45_20, q45_21, q45_22, q45_23, q45_24, q45_30, q45_31, q45_32, q45_33, q45_34, q45_35, q45_36, q45_37, q45_38, q45_39, q45_43, q45_44, q45_45, q45_46, q45_47, q45_48, q45_52, q45_53, q45_54, q45_59, q45_60, q45_61, q45_62, q45_65, q45_67, q45_68, gi8, gj8, pi8, pz8, pj8, rc8, gi9, gj9, pi9, pz9, pj9, rc9, gi17, gj17, pi17, pz17, pj17, rc17, gi27, gj27, pi27, pz27, pj27, rc27, gi45, gj45, pi45, pz45, pj45, rc45, aln_si, aln_sj, aln_sq, rc_si, rc_sj, rc_sq, n0, n1, n10, n11, n12, n13, n14, n15, n16, n18, n19, n20, n21, n22, n23, n24, n25, n26, n29, n30, n31, n32, n33, n34, n35, n36, n37, n38, n39, n40, n42, n43, n44, n46, n47, n48, n49, n50, n51, n52, n53, n54, n55, n56, n57, n58, n59, n60, n61, n62, n63, n64, n65, n66, n67, n68, n69, n70, n71, n72, n73, n74, n75, n76, n77, n78, n79, n80, n81, n82, n83, n84, n85, n86, n87, r0, r1, r10, r11, r12, r13, r14, r15, r16, r18, r19, r20, r21, r22, r23, r24, r25, r26, r29, r30, r31, r32, r33, r34, r35, r36, r37, r38, r39, r40, r42, r43, r44, r46, r47, r48, r49, r50, r51, r52, r53, r54, r55, r56, r57, r58, r59, r60, r61, r62, r63, r64, r65, r66, r67, r68, r69, r70, r71, r72, r73, r74, r75, r76, r77, r78, r79, r80, r81, r82, r83, r84, r85, r86, r87, w10, w11, w12, w13, w18, w19, w20, w21, w22, w23, w24, w25, w26, w30, w31, w32, w33, w34, w35, w36, w38, w39, w40, w43, w44, w46, w47, w48, w49, w50, w51, w52, w53, w54, w55, w56, w57, w58, w59, w60, w61, w62, w63, w64, w65, w66, w67, w68, w69, w70, w71, w72, w73, w74, w75, w76, w77, w78, w79, w80, w81, w82, w83, w84, w85, w86, w87, hi_hit, hi_row, hi_col, hj_hit, hj_row, hj_col, hi_sj, hj_si, hq_si, hq_sj, hi_sq, hj_sq, hi_srh, hi_srm]
theorem dig_step' {x c : Nat} (hc : isD c = true) : (10 : Int32) * nI x + nI c - (48 : Int32) = nI (10 * x + (c - 48)) := by
  rw [Int32.mul_comm]
  exact dig_step hc
/-- the digits; only the first four are reckoned -/
theorem m_digits (l : LX h B n) {a : Nat} (hp : a ≤ n) (e6 : hi h 45 6 = nI a) (ep : hi h 45 7 = nI a) (e9 : hi h 45 9 = 0) : ∃ g, f_X9_next_L245 fu 45 h = some g ∧ (FrM [] [7, 9] h g ∧ hi g 45 7 = nI (rn B n isD a) ∧ (rn B n isD a - a ≤ 4 → hi g 45 9 = nI (vlD (fun i => B (a + i)) (rn B n isD a - a)))) := by
  have h9 := l.2.1.1
  refine whl (fun m g => f_X9_next_L245 m 45 g) (fun g => n - (hi g 45 7).toNatClampNeg) (fun g => FrM [] [7, 9] h g ∧ ∃ p', a ≤ p' ∧ p' ≤ n ∧ hi g 45 7 = nI p' ∧ rn B n isD p' = rn B n isD a ∧ (p' - a ≤ 4 → hi g 45 9 = nI (vlD (fun i => B (a + i)) (p' - a)))) _ ?_ fu h ⟨FrM.rfl, a, Nat.le_refl _, hp, ep, rfl, fun _ => by rw [Nat.sub_self, e9]; rfl⟩ (fu_gt (by omega))
  rintro m g ⟨I1, p', I0, I2, I3, I4, I5⟩
  have lg := l.fr I1 (by decide) (by decide)
  have Xg := lg.1
  have eg := lg.2.2
  have e6g : hi g 45 6 = nI a := (I1.ef (by decide)).trans e6
  have q2 := m_sign lg (k := p') (by omega)
  by_cases c : n ≤ p'
  · left
    rw [if_neg (by omega)] at q2
    have q3 : f_X9_isDigit (nI 0) g = some (0, g) := rfl
    have e5 : rn B n isD a = p' := by rw [← I4, rn_end c]
    refine ⟨g, ?_, I1, by rw [e5]; exact I3, by rw [e5]; exact I5⟩
    show f_X9_next_L245 (m + 1) 45 g = some g
    rw [f_X9_next_L245.eq_2]
    simp (disch := (first | assumption | (simp only [FX_si, FX_sj, FX_sr, WX_si, WX_sj, WX_sr, FK_si, FK_sj, FK_sr]; assumption) | omega | decide)) only [I3, eg, q2, q3, ↓reduceIte, if_true, if_false, i10, i01, eq_self, wq7, wq8, wq9, wq10, wrc, wgi, wpi, wpz, wn1, wn2, wn3, wn4, wr1, wr2, wr3, wr4, ww1, ww2, ww3, ww4, fgi, fgq, fpi, frc, at18, at19, at21, at22, at23, at24, at25, at26, at_neg, wat1, wat2, wat3, wat4, reduceCtorEq, bd_some, b1_some, b2_some, b3_some, b4_some, c1_eq, elim_inl, elim_inr, zok0, zok1, getQ_si, getQ_sj, getQ_sr, q8_0, q8_1, q8_2, q8_4, q8_7, q8_8, q8_9, q8_10, q8_11, q9_0, q9_3, q9_4, q9_8, q17_0, q17_1, q17_2, q17_4, q17_5, q17_6, q17_9, q17_10, q17_11, q27_4, q27_5, q27_6, q27_7, q27_8, q27_11, q45_0, q45_1, q45_11, q45_12, q45_13, q45_14, q45_15, q45_16, q45_17, q45_18, q45_19, q45_20, q45_21, q45_22, q45_23, q45_24, q45_30, q45_31, q45_32, q45_33, q45_34, q45_35, q45_36, q45_37, q45_38, q45_39, q45_43, q45_44, q45_45, q45_46, q45_47, q45_48, q45_52, q45_53, q45_54, q45_59, q45_60, q45_61, q45_62, q45_65, q45_67, q45_68, gi8, gj8, pi8, pz8, pj8, rc8, gi9, gj9, pi9, pz9, pj9, rc9, gi17, gj17, pi17, pz17, pj17, rc17, gi27, gj27, pi27, pz27, pj27, rc27, gi45, gj45, pi45, pz45, pj45, rc45, aln_si, aln_sj, aln_sq, rc_si, rc_sj, rc_sq, n0, n1, n10, n11, n12, n13, n14, n15, n16, n18, n19, n20, n21, n22, n23, n24, n25, n26, n29, n30, n31, n32, n33, n34, n35, n36, n37, n38, n39, n40, n42, n43, n44, n46, n47, n48, n49, n50, n51, n52, n53, n54, n55, n56, n57, n58, n59, n60, n61, n62, n63, n64, n65, n66, n67, n68, n69, n70, n71, n72, n73, n74, n75, n76, n77, n78, n79, n80, n81, n82, n83, n84, n85, n86, n87, r0, r1, r10, r11, r12, r13, r14, r15, r16, r18, r19, r20, r21, r22, r23, r24, r25, r26, r29, r30, r31, r32, r33, r34, r35, r36, r37, r38, r39, r40, r42, r43, r44, r46, r47, r48, r49, r50, r51, r52, r53, r54, r55, r56, r57, r58, r59, r60, r61, r62, r63, r64, r65, r66, r67, r68, r69, r70, r71, r72, r73, r74, r75, r76, r77, r78, r79, r80, r81, r82, r83, r84, r85, r86, r87, w10, w11, w12, w13, w18, w19, w20, w21, w22, w23, w24, w25, w26, w30, w31, w32, w33, w34, w35, w36, w38, w39, w40, w43, w44, w46, w47, w48, w49, w50, w51, w52, w53, w54, w55, w56, w57, w58, w59, w60, w61, w62, w63, w64, w65, w66, w67, w68, w69, w70, w71, w72, w73, w74, w75, w76, w77, w78, w79, w80, w81, w82, w83, w84, w85, w86, w87, hi_hit, hi_row, hi_col, hj_hit, hj_row, hj_col, hi_sj, hj_si, hq_si, hq_sj, hi_sq, hj_sq, hi_srh, hi_srm]
  · rw [if_pos (by omega)] at q2
    have Bl := (lg.2.1.2 p' (by omega)).2
    have q3 := q9_D (c := B p') (by omega) g
    by_cases c2 : isD (B p') = true
    · right
      rw [i_one c2] at q3
      have sb : nI p' - nI a = nI (p' - a) := pk_sub I0
      by_cases c4 : p' - a < 4
      · have q4 : ¬ (4 : Int32) ≤ nI (p' - a) := fun z => by have := (nI_leI (a := 4) (b := p' - a) (by decide) (by omega)).mp z; omega
        have q5 := dig_step' (x := vlD (fun i => B (a + i)) (p' - a)) c2
        have I5' := I5 (by omega)
        refine ⟨si (si g 45 9 (nI (10 * vlD (fun i => B (a + i)) (p' - a) + (B p' - 48)))) 45 7 (nI (p' + 1)), ?_, ⟨(I1.trans (FrM.fld (by decide))).trans (FrM.fld (by decide)), p' + 1, by omega, by omega, hi_hit _ _ _, by rw [← I4]; exact (rn_go (by omega) c2).symm, fun _ => ?_⟩, ?_⟩
        · show f_X9_next_L245 (m + 1) 45 g = _
          rw [f_X9_next_L245.eq_2]
          simp (disch := (first | assumption | (simp only [FX_si, FX_sj, FX_sr, WX_si, WX_sj, WX_sr, FK_si, FK_sj, FK_sr]; assumption) | omega | decide)) only [I3, eg, e6g, q2, q3, sb, q4, nI_1, I5', q5, ↓reduceIte, if_true, if_false, i10, i01, eq_self, wq7, wq8, wq9, wq10, wrc, wgi, wpi, wpz, wn1, wn2, wn3, wn4, wr1, wr2, wr3, wr4, ww1, ww2, ww3, ww4, fgi, fgq, fpi, frc, at18, at19, at21, at22, at23, at24, at25, at26, at_neg, wat1, wat2, wat3, wat4, reduceCtorEq, bd_some, b1_some, b2_some, b3_some, b4_some, c1_eq, elim_inl, elim_inr, zok0, zok1, getQ_si, getQ_sj, getQ_sr, q8_0, q8_1, q8_2, q8_4, q8_7, q8_8, q8_9, q8_10, q8_11, q9_0, q9_3, q9_4, q9_8, q17_0, q17_1, q17_2, q17_4, q17_5, q17_6, q17_9, q17_10, q17_11, q27_4, q27_5, q27_6, q27_7, q27_8, q27_11, q45_0, q45_1, q45_11, q45_12, q45_13, q45_14, q45_15, q45_16, q45_17, q45_18, q45_19, q45_20, q45_21, q45_22, q45_23, q45_24, q45_30, q45_31, q45_32, q45_33, q45_34, q45_35, q45_36, q45_37, q45_38, q45_39, q45_43, q45_44, q45_45, q45_46, q45_47, q45_48, q45_52, q45_53, q45_54, q45_59, q45_60, q45_61, q45_62, q45_65, q45_67, q45_68, gi8, gj8, pi8, pz8, pj8, rc8, gi9, gj9, pi9, pz9, pj9, rc9, gi17, gj17, pi17, pz17, pj17, rc17, gi27, gj27, pi27, pz27, pj27, rc27, gi45, gj45, pi45, pz45, pj45, rc45, aln_si, aln_sj, aln_sq, rc_si, rc_sj, rc_sq, n0, n1, n10, n11, n12, n13, n14, n15, n16, n18, n19, n20, n21, n22, n23, n24, n25, n26, n29, n30, n31, n32, n33, n34, n35, n36, n37, n38, n39, n40, n42, n43, n44, n46, n47, n48, n49, n50, n51, n52, n53, n54, n55, n56, n57, n58, n59, n60, n61, n62, n63, n64, n65, n66, n67, n68, n69, n70, n71, n72, n73, n74, n75, n76, n77, n78, n79, n80, n81, n82, n83, n84, n85, n86, n87, r0, r1, r10, r11, r12, r13, r14, r15, r16, r18, r19, r20, r21, r22, r23, r24, r25, r26, r29, r30, r31, r32, r33, r34, r35, r36, r37, r38, r39, r40, r42, r43, r44, r46, r47, r48, r49, r50, r51, r52, r53, r54, r55, r56, r57, r58, r59, r60, r61, r62, r63, r64, r65, r66, r67, r68, r69, r70, r71, r72, r73, r74, r75, r76, r77, r78, r79, r80, r81, r82, r83, r84, r85, r86, r87, w10, w11, w12, w13, w18, w19, w20, w21, w22, w23, w24, w25, w26, w30, w31, w32, w33, w34, w35, w36, w38, w39, w40, w43, w44, w46, w47, w48, w49, w50, w51, w52, w53, w54, w55, w56, w57, w58, w59, w60, w61, w62, w63, w64, w65, w66, w67, w68, w69, w70, w71, w72, w73, w74, w75, w76, w77, w78, w79, w80, w81, w82, w83, w84, w85, w86, w87, hi_hit, hi_row, hi_col, hj_hit, hj_row, hj_col, hi_sj, hj_si, hq_si, hq_sj, hi_sq, hj_sq, hi_srh, hi_srm]
        · rw [hi_col _ _ (by decide), hi_hit, show p' + 1 - a = (p' - a) + 1 by omega, vlD, show a + (p' - a) = p' by omega]
        · show n - (hi (si _ 45 7 (nI (p' + 1))) 45 7).toNatClampNeg < n - (hi g 45 7).toNatClampNeg
          rw [hi_hit, I3, nI_tn (by omega), nI_tn (by omega)]
          omega
      · have q4 : (4 : Int32) ≤ nI (p' - a) := (nI_leI (a := 4) (b := p' - a) (by decide) (by omega)).mpr (by omega)
        refine ⟨si g 45 7 (nI (p' + 1)), ?_, ⟨I1.trans (FrM.fld (by decide)), p' + 1, by omega, by omega, hi_hit _ _ _, by rw [← I4]; exact (rn_go (by omega) c2).symm, fun z => by omega⟩, ?_⟩
        · show f_X9_next_L245 (m + 1) 45 g = _
          rw [f_X9_next_L245.eq_2]
          simp (disch := (first | assumption | (simp only [FX_si, FX_sj, FX_sr, WX_si, WX_sj, WX_sr, FK_si, FK_sj, FK_sr]; assumption) | omega | decide)) only [I3, eg, e6g, q2, q3, sb, q4, nI_1, ↓reduceIte, if_true, if_false, i10, i01, eq_self, wq7, wq8, wq9, wq10, wrc, wgi, wpi, wpz, wn1, wn2, wn3, wn4, wr1, wr2, wr3, wr4, ww1, ww2, ww3, ww4, fgi, fgq, fpi, frc, at18, at19, at21, at22, at23, at24, at25, at26, at_neg, wat1, wat2, wat3, wat4, reduceCtorEq, bd_some, b1_some, b2_some, b3_some, b4_some, c1_eq, elim_inl, elim_inr, zok0, zok1, getQ_si, getQ_sj, getQ_sr, q8_0, q8_1, q8_2, q8_4, q8_7, q8_8, q8_9, q8_10, q8_11, q9_0, q9_3, q9_4, q9_8, q17_0, q17_1, q17_2, q17_4, q17_5, q17_6, q17_9, q17_10, q17_11, q27_4, q27_5, q27_6, q27_7, q27_8, q27_11, q45_0, q45_1, q45_11, q45_12, q45_13, q45_14, q45_15, q45_16, q45_17, q45_18, q45_19, q45_20, q45_21, q45_22, q45_23, q45_24, q45_30, q45_31, q45_32, q45_33, q45_34, q45_35, q45_36, q45_37, q45_38, q45_39, q45_43, q45_44, q45_45, q45_46, q45_47, q45_48, q45_52, q45_53, q45_54, q45_59, q45_60, q45_61, q45_62, q45_65, q45_67, q45_68, gi8, gj8, pi8, pz8, pj8, rc8, gi9, gj9, pi9, pz9, pj9, rc9, gi17, gj17, pi17, pz17, pj17, rc17, gi27, gj27, pi27, pz27, pj27, rc27, gi45, gj45, pi45, pz45, pj45, rc45, aln_si, aln_sj, aln_sq, rc_si, rc_sj, rc_sq, n0, n1, n10, n11, n12, n13, n14, n15, n16, n18, n19, n20, n21, n22, n23, n24, n25, n26, n29, n30, n31, n32, n33, n34, n35, n36, n37, n38, n39, n40, n42, n43, n44, n46, n47, n48, n49, n50, n51, n52, n53, n54, n55, n56, n57, n58, n59, n60, n61, n62, n63, n64, n65, n66, n67, n68, n69, n70, n71, n72, n73, n74, n75, n76, n77, n78, n79, n80, n81, n82, n83, n84, n85, n86, n87, r0, r1, r10, r11, r12, r13, r14, r15, r16, r18, r19, r20, r21, r22, r23, r24, r25, r26, r29, r30, r31, r32, r33, r34, r35, r36, r37, r38, r39, r40, r42, r43, r44, r46, r47, r48, r49, r50, r51, r52, r53, r54, r55, r56, r57, r58, r59, r60, r61, r62, r63, r64, r65, r66, r67, r68, r69, r70, r71, r72, r73, r74, r75, r76, r77, r78, r79, r80, r81, r82, r83, r84, r85, r86, r87, w10, w11, w12, w13, w18, w19, w20, w21, w22, w23, w24, w25, w26, w30, w31, w32, w33, w34, w35, w36, w38, w39, w40, w43, w44, w46, w47, w48, w49, w50, w51, w52, w53, w54, w55, w56, w57, w58, w59, w60, w61, w62, w63, w64, w65, w66, w67, w68, w69, w70, w71, w72, w73, w74, w75, w76, w77, w78, w79, w80, w81, w82, w83, w84, w85, w86, w87, hi_hit, hi_row, hi_col, hj_hit, hj_row, hj_col, hi_sj, hj_si, hq_si, hq_sj, hi_sq, hj_sq, hi_srh, hi_srm]
        · show n - (hi (si _ 45 7 (nI (p' + 1))) 45 7).toNatClampNeg < n - (hi g 45 7).toNatClampNeg
          rw [hi_hit, I3, nI_tn (by omega), nI_tn (by omega)]
          omega
    · left
      rw [i_zero c2] at q3
      have e5 : rn B n isD a = p' := by rw [← I4, rn_stop (by simpa using c2)]
      refine ⟨g, ?_, I1, by rw [e5]; exact I3, by rw [e5]; exact I5⟩
      show f_X9_next_L245 (m + 1) 45 g = some g
      rw [f_X9_next_L245.eq_2]
      simp (disch := (first | assumption | (simp only [FX_si, FX_sj, FX_sr, WX_si, WX_sj, WX_sr, FK_si, FK_sj, FK_sr]; assumption) | omega | decide)) only [I3, eg, q2, q3, ↓reduceIte, if_true, if_false, i10, i01, eq_self, wq7, wq8, wq9, wq10, wrc, wgi, wpi, wpz, wn1, wn2, wn3, wn4, wr1, wr2, wr3, wr4, ww1, ww2, ww3, ww4, fgi, fgq, fpi, frc, at18, at19, at21, at22, at23, at24, at25, at26, at_neg, wat1, wat2, wat3, wat4, reduceCtorEq, bd_some, b1_some, b2_some, b3_some, b4_some, c1_eq, elim_inl, elim_inr, zok0, zok1, getQ_si, getQ_sj, getQ_sr, q8_0, q8_1, q8_2, q8_4, q8_7, q8_8, q8_9, q8_10, q8_11, q9_0, q9_3, q9_4, q9_8, q17_0, q17_1, q17_2, q17_4, q17_5, q17_6, q17_9, q17_10, q17_11, q27_4, q27_5, q27_6, q27_7, q27_8, q27_11, q45_0, q45_1, q45_11, q45_12, q45_13, q45_14, q45_15, q45_16, q45_17, q45_18, q45_19, q45_20, q45_21, q45_22, q45_23, q45_24, q45_30, q45_31, q45_32, q45_33, q45_34, q45_35, q45_36, q45_37, q45_38, q45_39, q45_43, q45_44, q45_45, q45_46, q45_47, q45_48, q45_52, q45_53, q45_54, q45_59, q45_60, q45_61, q45_62, q45_65, q45_67, q45_68, gi8, gj8, pi8, pz8, pj8, rc8, gi9, gj9, pi9, pz9, pj9, rc9, gi17, gj17, pi17, pz17, pj17, rc17, gi27, gj27, pi27, pz27, pj27, rc27, gi45, gj45, pi45, pz45, pj45, rc45, aln_si, aln_sj, aln_sq, rc_si, rc_sj, rc_sq, n0, n1, n10, n11, n12, n13, n14, n15, n16, n18, n19, n20, n21, n22, n23, n24, n25, n26, n29, n30, n31, n32, n33, n34, n35, n36, n37, n38, n39, n40, n42, n43, n44, n46, n47, n48, n49, n50, n51, n52, n53, n54, n55, n56, n57, n58, n59, n60, n61, n62, n63, n64, n65, n66, n67, n68, n69, n70, n71, n72, n73, n74, n75, n76, n77, n78, n79, n80, n81, n82, n83, n84, n85, n86, n87, r0, r1, r10, r11, r12, r13, r14, r15, r16, r18, r19, r20, r21, r22, r23, r24, r25, r26, r29, r30, r31, r32, r33, r34, r35, r36, r37, r38, r39, r40, r42, r43, r44, r46, r47, r48, r49, r50, r51, r52, r53, r54, r55, r56, r57, r58, r59, r60, r61, r62, r63, r64, r65, r66, r67, r68, r69, r70, r71, r72, r73, r74, r75, r76, r77, r78, r79, r80, r81, r82, r83, r84, r85, r86, r87, w10, w11, w12, w13, w18, w19, w20, w21, w22, w23, w24, w25, w26, w30, w31, w32, w33, w34, w35, w36, w38, w39, w40, w43, w44, w46, w47, w48, w49, w50, w51, w52, w53, w54, w55, w56, w57, w58, w59, w60, w61, w62, w63, w64, w65, w66, w67, w68, w69, w70, w71, w72, w73, w74, w75, w76, w77, w78, w79, w80, w81, w82, w83, w84, w85, w86, w87, hi_hit, hi_row, hi_col, hj_hit, hj_row, hj_col, hi_sj, hj_si, hq_si, hq_sj, hi_sq, hj_sq, hi_srh, hi_srm]
/-- a word's letters as one number -/
theorem m_name (l : LX h B n) {a e : Nat} (ha : a ≤ e) (he : e ≤ n) (e6 : hi h 45 6 = nI a) (e7 : hi h 45 7 = nI e) (e10 : hj h 45 10 = 0) (hL : ∀ i, i < e - a → isL (B (a + i)) = true) : ∃ g, f_X9_next_L156 fu 45 (nI a) h = some g ∧ (FrM [] [10] h g ∧ (∀ k, hi g 45 k = hi h 45 k) ∧ (e - a ≤ 8 → hj g 45 10 = lN (pkr (Lr (fun i => B (a + i)) (e - a))))) := by
  have h9 := l.2.1.1
  refine forN (fun k i g => f_X9_next_L156 k 45 i g) (if e - a ≤ 8 then e else a + 8) (by split <;> omega) (fun i g => a ≤ i ∧ FrM [] [10] h g ∧ (∀ k, hi g 45 k = hi h 45 k) ∧ hj g 45 10 = lN (pkr (Lr (fun i => B (a + i)) (i - a)))) _ ?_ ?_ (i0 := a) (by split <;> omega) ⟨Nat.le_refl _, FrM.rfl, fun _ => rfl, by rw [Nat.sub_self, e10]; rfl⟩
  · rintro k g ⟨I0, I1, I2, I3⟩
    have Xg := I1.fx l.1
    have e6g := (I2 6).trans e6
    have e7g := (I2 7).trans e7
    by_cases c : e - a ≤ 8
    · rw [if_pos c] at I3 ⊢
      refine ⟨g, ?_, I1, I2, fun _ => I3⟩
      rw [f_X9_next_L156.eq_2, gi45 Xg, bd_some, e7g, if_pos (Int32.le_refl _)]
    · rw [if_neg c] at I3 ⊢
      have q1 : ¬ nI e ≤ nI (a + 8) := by rw [nI_leI (by omega) (by omega)]; omega
      refine ⟨g, ?_, I1, I2, fun z => absurd z c⟩
      rw [f_X9_next_L156.eq_2, gi45 Xg, bd_some, e7g, if_neg q1, gi45 Xg, bd_some, e6g, show nI a + 8 = nI (a + 8) from nI_add a 8, if_pos (Int32.le_refl _)]
  · rintro k i g hi' ⟨I0, I1, I2, I3⟩
    right
    have Xg := I1.fx l.1
    have lg := l.fr I1 (by decide) (by decide)
    have e6g := (I2 6).trans e6
    have e7g := (I2 7).trans e7
    have hi2 : i < e ∧ i < a + 8 := by
      by_cases c : e - a ≤ 8
      · rw [if_pos c] at hi'; omega
      · rw [if_neg c] at hi'; omega
    have q1 : ¬ nI e ≤ nI i := by rw [nI_leI (by omega) (by omega)]; omega
    have q2 : ¬ nI (a + 8) ≤ nI i := by rw [nI_leI (by omega) (by omega)]; omega
    have q3 := m_sign lg (k := i) (by omega)
    rw [if_pos (by omega)] at q3
    have Bl := (lg.2.1.2 i (by omega)).2
    have lt := pkr_lt (f := fun i => B (a + i)) (i - a + 1) (fun j hj => by have := isL_iff.mp (hL j (by omega)); omega)
    have lt2 : 256 ^ (i - a + 1) ≤ 256 ^ 8 := Nat.pow_le_pow_right (by decide) (by omega)
    have e4 : pkr (Lr (fun i => B (a + i)) (i - a + 1)) = 256 * pkr (Lr (fun i => B (a + i)) (i - a)) + B i := by
      show 256 * pkr (Lr (fun i => B (a + i)) (i - a)) + B (a + (i - a)) = _
      rw [show a + (i - a) = i by omega]
    rw [e4] at lt
    have q4 := lN_step (x := pkr (Lr (fun i => B (a + i)) (i - a))) Bl (by omega)
    refine ⟨sj g 45 10 (lN (256 * pkr (Lr (fun i => B (a + i)) (i - a)) + B i)), ?_, by omega, I1.trans (FrM.fldJ (by decide)), I2, ?_⟩
    · rw [f_X9_next_L156.eq_2, gi45 Xg, bd_some, e7g, if_neg q1, gi45 Xg, bd_some, e6g, show nI a + 8 = nI (a + 8) from nI_add a 8, if_neg q2, gj45 Xg, bd_some, rc45 Xg, bd_some, q3, b1_some, I3, q4, pj45 Xg, bd_some, nI_1]
    · rw [hj_hit, show i + 1 - a = i - a + 1 by omega, e4]
theorem m_next (l : LX h B n) {p : Nat} (hp : p ≤ n) (ep : hi h 45 7 = nI p) : ∃ g, f_X9_next 45 h = some g ∧ FrM [] BN h g ∧ hi g 45 6 = nI (tk B n p).2.1 ∧ hi g 45 7 = nI (tk B n p).2.2 ∧ MT B n (tk B n p).1 (tk B n p).2.1 (hi g 45 8) (hi g 45 9) (hj g 45 10) := by
  have h9 := l.2.1.1
  have X := l.1
  have l1 : LX (si h 45 6 (nI p)) B n := l.fr (A := []) (C := [6]) (FrM.fld (by decide)) (by decide) (by decide)
  obtain ⟨g, a1, a2, a3⟩ := m_blank l1 hp (hi_hit _ _ _)
  have fr1 : FrM [] BN h g := (FrM.fld (by decide)).trans (a2.wk (by decide) (by decide))
  have lg := l.fr fr1 (by decide) (by decide)
  have Xg := lg.1
  have g2 := rn_le (B := B) (P := isB) hp
  obtain ⟨a, ez⟩ : ∃ a, a = rn B n isB p := ⟨_, rfl⟩
  have sg := m_sign lg (k := a) (by omega)
  have Bl := B_lt lg (k := a)
  unfold tk
  rw [← ez] at a3 g2 ⊢
  obtain ⟨k1, ek1⟩ : ∃ k, k = si g 45 7 (nI (a + 1)) := ⟨_, rfl⟩
  have frk : FrM [] BN h k1 := by rw [ek1]; exact fr1.trans (FrM.fld (by decide))
  have lk := l.fr frk (by decide) (by decide)
  have Xk := lk.1
  have k6 : hi k1 45 6 = nI a := by rw [ek1, hi_col _ _ (by decide)]; exact a3
  have k7 : hi k1 45 7 = nI (a + 1) := by rw [ek1]; exact hi_hit _ _ _
  unfold f_X9_next
  rw [gi45 X, bd_some, ep, pi45 X, bd_some, a1, bd_some, gi45 Xg, bd_some, a3, rc45 Xg, bd_some, sg, b1_some, gi45 Xg, bd_some, a3, nI_1, pi45 Xg, bd_some, ← ek1, gi45 Xk, bd_some, k6, gi45 Xk, bd_some, lk.2.2]
  have q1 : nI a < nI n ↔ a < n := nI_ltI (by omega) (by omega)
  by_cases c1 : n ≤ a
  · rw [if_neg (fun z => by have := q1.mp z; omega), if_pos c1]
    have ea : a = n := by omega
    have x1 : FX (si k1 45 8 0) := FX_of Xk rfl (fun _ _ => rfl)
    have x2 : FX (si (si k1 45 8 0) 45 6 (nI n)) := FX_of Xk rfl (fun _ _ => rfl)
    have z3 : hi (si k1 45 8 0) 45 3 = nI n := by rw [hi_col _ _ (by decide)]; exact lk.2.2
    have z3' : hi (si (si k1 45 8 0) 45 6 (nI n)) 45 3 = nI n := by rw [hi_col _ _ (by decide)]; exact z3
    refine ⟨si (si (si k1 45 8 0) 45 6 (nI n)) 45 7 (nI n), ?_, ((frk.trans (FrM.fld (by decide))).trans (FrM.fld (by decide))).trans (FrM.fld (by decide)), ?_, ?_, Or.inl ⟨rfl, ?_⟩⟩
    · rw [pi45 Xk, bd_some, gi45 x1, bd_some, z3, pi45 x1, bd_some, gi45 x2, bd_some, z3', pi45 x2, bd_some, bd_some]
    · rw [hi_col _ _ (by decide), hi_hit, ea]
    · rw [hi_hit, ea]
    · rw [hi_col _ _ (by decide), hi_col _ _ (by decide), hi_hit]
  · rw [if_pos (q1.mpr (by omega)), if_neg c1]
    rw [if_pos (by omega)] at Bl ⊢
    rw [q9_L (by omega), b1_some]
    by_cases c2 : isL (B a) = true
    · rw [if_pos c2, if_pos c2, if_neg (by decide)]
      obtain ⟨g3, b1', b2', b3'⟩ := m_letters lk (p := a + 1) (by omega) k7
      rw [← rn_go (by omega) c2] at b3'
      have e1 := rn_ge (B := B) (n := n) (P := isL) (p := a)
      have e2 := rn_le (B := B) (P := isL) g2
      have fr3 : FrM [] BN h g3 := frk.trans (b2'.wk (by decide) (by decide))
      have x3 := fr3.fx X
      have frj : FrM [] BN h (sj g3 45 10 0) := fr3.trans (FrM.fldJ (by decide))
      have lj := l.fr frj (by decide) (by decide)
      have j6 : hi (sj g3 45 10 0) 45 6 = nI a := (b2'.ef (by decide)).trans k6
      obtain ⟨g4, d1, d2, d3, d4⟩ := m_name lj e1 e2 j6 b3' (hj_hit _ _ _) (fun i hi' => rn_in (n := n) (P := isL) (p := a) (by omega) (by omega))
      have fr4 : FrM [] BN h g4 := frj.trans (d2.wk (by decide) (by decide))
      have x4 := fr4.fx X
      have y6 : hi g4 45 6 = nI a := (d3 6).trans j6
      have y7 : hi g4 45 7 = nI (rn B n isL a) := (d3 7).trans b3'
      have sb : nI (rn B n isL a) - nI a = nI (rn B n isL a - a) := pk_sub e1
      have q8 : nI (rn B n isL a - a) ≤ (8 : Int32) ↔ rn B n isL a - a ≤ 8 := nI_leI (b := 8) (by omega) (by decide)
      rw [b1', bd_some, pj45 x3, bd_some, gi45 lj.1, bd_some, j6, d1, bd_some, gi45 x4, bd_some, y7, gi45 x4, bd_some, y6, sb]
      by_cases c3 : rn B n isL a - a ≤ 8
      · rw [if_pos (q8.mpr c3), if_pos c3, b1_some, pi45 x4, bd_some, bd_some]
        have d4' := d4 c3
        refine ⟨si g4 45 8 2, rfl, fr4.trans (FrM.fld (by decide)), ?_, ?_, Or.inr (Or.inr (Or.inl ⟨tkw_le _, hi_hit _ _ _, _, ?_, rfl, d4'⟩))⟩
        · rw [hi_col _ _ (by decide)]; exact y6
        · rw [hi_col _ _ (by decide)]; exact y7
        · have lt := pkr_lt (f := fun i => B (a + i)) (rn B n isL a - a) (fun j hj => by have := isL_iff.mp (rn_in (B := B) (n := n) (P := isL) (p := a) (k := a + j) (by omega) (by omega)); omega)
          have lt2 : 256 ^ (rn B n isL a - a) ≤ 256 ^ 8 := Nat.pow_le_pow_right (by decide) c3
          omega
      · rw [if_neg (fun z => c3 (q8.mp z)), if_neg c3, b1_some, pi45 x4, bd_some, bd_some]
        refine ⟨si g4 45 8 1, rfl, fr4.trans (FrM.fld (by decide)), ?_, ?_, Or.inr (Or.inl ⟨rfl, hi_hit _ _ _⟩)⟩
        · rw [hi_col _ _ (by decide)]; exact y6
        · rw [hi_col _ _ (by decide)]; exact y7
    · rw [if_neg c2, if_neg c2, if_pos rfl, q9_D (by omega), b1_some]
      by_cases c3 : isD (B a) = true
      · rw [if_pos c3, if_pos c3, if_neg (by decide)]
        obtain ⟨j1, ej1⟩ : ∃ j, j = si (si k1 45 9 0) 45 7 (nI a) := ⟨_, rfl⟩
        have xk9 : FX (si k1 45 9 0) := FX_of Xk rfl (fun _ _ => rfl)
        have z6 : hi (si k1 45 9 0) 45 6 = nI a := by rw [hi_col _ _ (by decide)]; exact k6
        have frj : FrM [] BN h j1 := by rw [ej1]; exact (frk.trans (FrM.fld (by decide))).trans (FrM.fld (by decide))
        have lj := l.fr frj (by decide) (by decide)
        have j6 : hi j1 45 6 = nI a := by rw [ej1, hi_col _ _ (by decide)]; exact z6
        have j7 : hi j1 45 7 = nI a := by rw [ej1]; exact hi_hit _ _ _
        have j9 : hi j1 45 9 = 0 := by rw [ej1, hi_col _ _ (by decide)]; exact hi_hit _ _ _
        obtain ⟨g4, d1, d2, d3, d4⟩ := m_digits lj g2 j6 j7 j9
        have e1 := rn_ge (B := B) (n := n) (P := isD) (p := a)
        have e2 := rn_le (B := B) (P := isD) g2
        have fr4 : FrM [] BN h g4 := frj.trans (d2.wk (by decide) (by decide))
        have l4 := l.fr fr4 (by decide) (by decide)
        have x4 := l4.1
        have y6 : hi g4 45 6 = nI a := (d2.ef (by decide)).trans j6
        have sb : nI (rn B n isD a) - nI a = nI (rn B n isD a - a) := pk_sub e1
        have q8 : (4 : Int32) < nI (rn B n isD a - a) ↔ 4 < rn B n isD a - a := nI_ltI (a := 4) (by decide) (by omega)
        rw [pi45 Xk, bd_some, gi45 xk9, bd_some, z6, pi45 xk9, bd_some, ← ej1, d1, bd_some, gi45 x4, bd_some, d3, gi45 x4, bd_some, y6, sb]
        have bad : (4 < rn B n isD a - a ∨ (rn B n isD a < n ∧ isL (B (rn B n isD a)) = true)) → ∃ g', (some (si g4 45 8 1) : Option Hp) = some g' ∧ FrM [] BN h g' ∧ hi g' 45 6 = nI (if 4 < rn B n isD a - a ∨ (rn B n isD a < n ∧ isL (B (rn B n isD a)) = true) then (26, a, rn B n isD a) else (1000 + vlD (fun i => B (a + i)) (rn B n isD a - a), a, rn B n isD a)).2.1 ∧ hi g' 45 7 = nI (if 4 < rn B n isD a - a ∨ (rn B n isD a < n ∧ isL (B (rn B n isD a)) = true) then (26, a, rn B n isD a) else (1000 + vlD (fun i => B (a + i)) (rn B n isD a - a), a, rn B n isD a)).2.2 ∧ MT B n (if 4 < rn B n isD a - a ∨ (rn B n isD a < n ∧ isL (B (rn B n isD a)) = true) then (26, a, rn B n isD a) else (1000 + vlD (fun i => B (a + i)) (rn B n isD a - a), a, rn B n isD a)).1 (if 4 < rn B n isD a - a ∨ (rn B n isD a < n ∧ isL (B (rn B n isD a)) = true) then (26, a, rn B n isD a) else (1000 + vlD (fun i => B (a + i)) (rn B n isD a - a), a, rn B n isD a)).2.1 (hi g' 45 8) (hi g' 45 9) (hj g' 45 10) := by
          intro cc
          rw [if_pos cc]
          refine ⟨si g4 45 8 1, rfl, fr4.trans (FrM.fld (by decide)), ?_, ?_, Or.inr (Or.inl ⟨rfl, hi_hit _ _ _⟩)⟩
          · rw [hi_col _ _ (by decide)]; exact y6
          · rw [hi_col _ _ (by decide)]; exact d3
        have good : ¬ (4 < rn B n isD a - a ∨ (rn B n isD a < n ∧ isL (B (rn B n isD a)) = true)) → ∃ g', (some (si g4 45 8 3) : Option Hp) = some g' ∧ FrM [] BN h g' ∧ hi g' 45 6 = nI (if 4 < rn B n isD a - a ∨ (rn B n isD a < n ∧ isL (B (rn B n isD a)) = true) then (26, a, rn B n isD a) else (1000 + vlD (fun i => B (a + i)) (rn B n isD a - a), a, rn B n isD a)).2.1 ∧ hi g' 45 7 = nI (if 4 < rn B n isD a - a ∨ (rn B n isD a < n ∧ isL (B (rn B n isD a)) = true) then (26, a, rn B n isD a) else (1000 + vlD (fun i => B (a + i)) (rn B n isD a - a), a, rn B n isD a)).2.2 ∧ MT B n (if 4 < rn B n isD a - a ∨ (rn B n isD a < n ∧ isL (B (rn B n isD a)) = true) then (26, a, rn B n isD a) else (1000 + vlD (fun i => B (a + i)) (rn B n isD a - a), a, rn B n isD a)).1 (if 4 < rn B n isD a - a ∨ (rn B n isD a < n ∧ isL (B (rn B n isD a)) = true) then (26, a, rn B n isD a) else (1000 + vlD (fun i => B (a + i)) (rn B n isD a - a), a, rn B n isD a)).2.1 (hi g' 45 8) (hi g' 45 9) (hj g' 45 10) := by
          intro cc
          have tkl := (tk_all B n p hp).1
          unfold tk at tkl
          rw [← ez, if_neg c1, if_neg c2, if_pos c3, if_neg cc] at tkl
          rw [if_neg cc]
          have lt : 1000 + vlD (fun i => B (a + i)) (rn B n isD a - a) < 11000 := by
            rcases tkl with o | o | o
            · simp only at o; omega
            · have := isS_iff.mp o; simp only at this; omega
            · exact o.2
          refine ⟨si g4 45 8 3, rfl, fr4.trans (FrM.fld (by decide)), ?_, ?_, Or.inr (Or.inr (Or.inr (Or.inl ⟨Nat.le_add_right _ _, lt, hi_hit _ _ _, ?_⟩)))⟩
          · rw [hi_col _ _ (by decide)]; exact y6
          · rw [hi_col _ _ (by decide)]; exact d3
          · rw [hi_col _ _ (by decide), d4 (by omega), Nat.add_sub_cancel_left]
        by_cases c4 : 4 < rn B n isD a - a
        · rw [if_pos (q8.mpr c4), b1_some, pi45 x4, bd_some, bd_some]
          exact bad (Or.inl c4)
        · rw [if_neg (fun z => c4 (q8.mp z)), bd_some, rc45 x4, bd_some, m_sign l4 (by omega), b1_some, q9_L (by have := B_lt l4 (k := rn B n isD a); omega), b1_some]
          by_cases c5 : rn B n isD a < n
          · rw [if_pos c5]
            by_cases c6 : isL (B (rn B n isD a)) = true
            · rw [if_pos c6, if_neg (by decide), b1_some, pi45 x4, bd_some, bd_some]
              exact bad (Or.inr ⟨c5, c6⟩)
            · rw [if_neg c6, if_pos rfl, b1_some, pi45 x4, bd_some, bd_some]
              exact good (fun q => q.elim c4 (fun q => c6 q.2))
          · rw [if_neg c5, if_neg (show ¬ isL 0 = true by decide), if_pos rfl, b1_some, pi45 x4, bd_some, bd_some]
            exact good (fun q => q.elim c4 (fun q => c5 q.1))
      · rw [if_neg c3, if_neg c3, if_pos rfl, q9_S Bl, b1_some]
        by_cases c4 : isS (B a) = true
        · rw [if_pos c4, if_pos c4, if_neg (by decide), b1_some, pi45 Xk, bd_some, bd_some]
          refine ⟨si k1 45 8 4, rfl, frk.trans (FrM.fld (by decide)), ?_, ?_, Or.inr (Or.inr (Or.inr (Or.inr ⟨c4, hi_hit _ _ _, by show a < n; omega, rfl⟩)))⟩
          · rw [hi_col _ _ (by decide)]; exact k6
          · rw [hi_col _ _ (by decide)]; exact k7
        · rw [if_neg c4, if_neg c4, if_pos rfl, b1_some, pi45 Xk, bd_some, bd_some]
          refine ⟨si k1 45 8 1, rfl, frk.trans (FrM.fld (by decide)), ?_, ?_, Or.inr (Or.inl ⟨rfl, hi_hit _ _ _⟩)⟩
          · rw [hi_col _ _ (by decide)]; exact k6
          · rw [hi_col _ _ (by decide)]; exact k7
end Ma
