/-! Bits of sets; the model's quarrel, spans, and all that it knows of a worker at a time. -/
def bts (s : Nat) : Nat → Nat
  | 0 => 0
  | n + 1 => bts s n + bt1 s n
/-- how many bits -/
def pc (s : Nat) : Nat := bts s 10
theorem bts_le (s : Nat) : ∀ n, bts s n ≤ n
  | 0 => Nat.le_refl _
  | n + 1 => by
    have := bts_le s n
    have h2 : bt1 s n < 2 := Nat.mod_lt _ (by omega)
    unfold bts
    omega
theorem pc_le : ∀ b, b < 11 → ∀ s, s < 2 ^ b → pc s ≤ b := by decide +kernel
theorem m_bitsOf {s : Nat} (hs : s < 2 ^ 31) (h : Hp) : f_X9_bitsOf (nI s) h = some (nI (pc s), h) := by
  unfold f_X9_bitsOf
  obtain ⟨r, h1, h2⟩ := forN (fun n v (p : Int32 × Hp) => f_X9_bitsOf_L4 n (nI s) p.1 v p.2) 10 (by omega) (fun i p => p = (nI (bts s i), h)) (fun r => r = (nI (bts s 10), h)) (fun n p I => by
    subst I
    exact ⟨_, by simp only [f_X9_bitsOf_L4.eq_2]; rw [if_pos (by decide)], rfl⟩) (fun n i p hi' I => by
    subst I
    refine Or.inr ⟨(nI (bts s (i + 1)), h), ?_, rfl⟩
    simp only [f_X9_bitsOf_L4.eq_2]
    rw [if_neg (by rw [L10, nI_leI (by omega) (by omega)]; omega), bit_of hs (by omega), nI_add, nI_1]
    rfl) (i0 := 0) (s := (nI (bts s 0), h)) (Nat.zero_le _) rfl
  subst h2
  have h1' : f_X9_bitsOf_L4 fu (nI s) 0 0 h = some (nI (bts s 10), h) := h1
  rw [h1', b1_some]
  rfl
/-- the fewest bits, then the least number; -1 if three do not do -/
def QUp (cn : Nat → Prop) (bc : Nat) (q : Int32) : Prop :=
  (∃ s, q = nI s ∧ s < 2 ^ bc ∧ pc s ≤ 3 ∧ cn s ∧ ∀ s', s' < 2 ^ bc → cn s' → pc s < pc s' ∨ (pc s = pc s' ∧ s ≤ s')) ∨ (q = -1 ∧ ∀ s', s' < 2 ^ bc → cn s' → 3 < pc s')
theorem QUp_uniq {cn : Nat → Prop} {bc : Nat} {q q' : Int32} (a : QUp cn bc q) (b : QUp cn bc q') : q = q' := by
  rcases a with ⟨s, a1, a2, a3, a4, a5⟩ | ⟨a1, a2⟩ <;> rcases b with ⟨t, b1, b2, b3, b4, b5⟩ | ⟨b1, b2⟩
  · have h1 := a5 t b2 b4
    have h2 := b5 s a2 a4
    rw [a1, b1, show s = t by omega]
  · have := b2 s a2 a4
    omega
  · have := a2 t b2 b4
    omega
  · rw [a1, b1]
theorem CAN_all {ls : Nat → Bool} {T : Nat → Int} {bA bE : Nat → Nat} {bT : Nat → Int} {bc : Nat} {out : Nat → Bool} (ho : ∀ b, b < bc → out b = true) : CAN ls T bA bE bT bc out := by
  refine ⟨fun v => Nat.rec (motive := fun _ => Int) 0 (fun w x => x + (if ls w = true then 0 else T w)) v, fun w hw => ?_, fun b hb hf => ?_⟩
  · simp only
    by_cases q : ls w = true
    · rw [if_pos q, if_pos q]; omega
    · rw [if_neg q, if_neg q]
  · rw [ho b hb] at hf
    exact absurd hf (by decide)
theorem ones_bt : ∀ n, n < 11 → ∀ b, b < n → btB (2 ^ n - 1) b = true := by decide +kernel
theorem p2_le {b : Nat} (h : b ≤ 10) : 2 ^ b ≤ 1024 := by
  have : ∀ b, b < 11 → 2 ^ b ≤ 1024 := by decide
  exact this b (by omega)
theorem MXD_uniq {ls : Nat → Bool} {T : Nat → Int} {bA bE : Nat → Nat} {bT : Nat → Int} {bc : Nat} {out : Nat → Bool} {u v : Nat} {z z' : Int} (a : MXD ls T bA bE bT bc out u v z) (b : MXD ls T bA bE bT bc out u v z') : z = z' := by
  obtain ⟨⟨S, h1, h2⟩, h3⟩ := a
  obtain ⟨⟨S', k1, k2⟩, k3⟩ := b
  have := h3 S' k1
  have := k3 S h1
  omega
section Sq
variable {g : Hp} {ls : Nat → Bool} {T : Nat → Int} {bc : Nat} {bA bE : Nat → Nat} {bT : Nat → Int}
theorem m_seek17 (D : DX g ls T bc bA bE bT) (m : Nat) (hm : m ≤ 10) :
    ∃ r, f_X9_seekQuarrel_L17 fu 45 (nI m) 0 g = some r ∧ ((∃ s g', r = Sum.inl (nI s, g') ∧ FrM [77] [51] g g' ∧ s < 2 ^ bc ∧ pc s = m ∧ CAN ls T bA bE bT bc (btB s) ∧ ∀ t, t < s → pc t = m → ¬ CAN ls T bA bE bT bc (btB t)) ∨ (∃ g', r = Sum.inr g' ∧ FrM [77] [51] g g' ∧ ∀ t, t < 2 ^ bc → pc t = m → ¬ CAN ls T bA bE bT bc (btB t))) := by
  have hbc := D.2.2.2.1
  have hp := p2_le hbc
  refine forN (fun n v g => f_X9_seekQuarrel_L17 n 45 (nI m) v g) (2 ^ bc) (by omega) (fun s g' => FrM [77] [51] g g' ∧ ∀ t, t < s → pc t = m → ¬ CAN ls T bA bE bT bc (btB t))
    (fun r => (∃ s g', r = Sum.inl (nI s, g') ∧ FrM [77] [51] g g' ∧ s < 2 ^ bc ∧ pc s = m ∧ CAN ls T bA bE bT bc (btB s) ∧ ∀ t, t < s → pc t = m → ¬ CAN ls T bA bE bT bc (btB t)) ∨ (∃ g', r = Sum.inr g' ∧ FrM [77] [51] g g' ∧ ∀ t, t < 2 ^ bc → pc t = m → ¬ CAN ls T bA bE bT bc (btB t))) ?_ ?_ (i0 := 0) (Nat.zero_le _) ⟨FrM.rfl, fun t ht => absurd ht (Nat.not_lt_zero _)⟩
  · rintro n g1 ⟨I1, I2⟩
    have D1 := D.fr I1 (by decide) (by decide)
    have F1 := D1.1
    have e49 := D1.2.2.2.2.1
    refine ⟨Sum.inr g1, ?_, Or.inr ⟨g1, rfl, I1, I2⟩⟩
    simp only [f_X9_seekQuarrel_L17.eq_2]
    simp (disch := (first | assumption | (simp only [FX_si, FX_sj, FX_sr]; assumption) | omega | decide)) only [e49, shl_of, bd_some, b1_some, b2_some, b3_some, b4_some, c1_eq, elim_inl, elim_inr, zok0, zok1, getQ_si, getQ_sj, getQ_sr, q8_0, q8_1, q8_2, q8_4, q8_7, q8_8, q8_9, q8_10, q8_11, q9_0, q9_3, q9_4, q9_8, q17_0, q17_1, q17_2, q17_4, q17_5, q17_6, q17_9, q17_10, q17_11, q27_4, q27_5, q27_6, q27_7, q27_8, q27_11, q45_0, q45_1, q45_11, q45_12, q45_13, q45_14, q45_15, q45_16, q45_17, q45_18, q45_19, q45_20, q45_21, q45_22, q45_23, q45_24, q45_30, q45_31, q45_32, q45_33, q45_34, q45_35, q45_36, q45_37, q45_38, q45_39, q45_43, q45_44, q45_45, q45_46, q45_47, q45_48, q45_52, q45_53, q45_54, q45_59, q45_60, q45_61, q45_62, q45_65, q45_67, q45_68, gi8, gj8, pi8, pz8, pj8, rc8, gi9, gj9, pi9, pz9, pj9, rc9, gi17, gj17, pi17, pz17, pj17, rc17, gi27, gj27, pi27, pz27, pj27, rc27, gi45, gj45, pi45, pz45, pj45, rc45, aln_si, aln_sj, aln_sq, rc_si, rc_sj, rc_sq, n0, n1, n10, n11, n12, n13, n14, n15, n16, n18, n19, n20, n21, n22, n23, n24, n25, n26, n29, n30, n31, n32, n33, n34, n35, n36, n37, n38, n39, n40, n42, n43, n44, n46, n47, n48, n49, n50, n51, n52, n53, n54, n55, n56, n57, n58, n59, n60, n61, n62, n63, n64, n65, n66, n67, n68, n69, n70, n71, n72, n73, n74, n75, n76, n77, n78, n79, n80, n81, n82, n83, n84, n85, n86, n87, r0, r1, r10, r11, r12, r13, r14, r15, r16, r18, r19, r20, r21, r22, r23, r24, r25, r26, r29, r30, r31, r32, r33, r34, r35, r36, r37, r38, r39, r40, r42, r43, r44, r46, r47, r48, r49, r50, r51, r52, r53, r54, r55, r56, r57, r58, r59, r60, r61, r62, r63, r64, r65, r66, r67, r68, r69, r70, r71, r72, r73, r74, r75, r76, r77, r78, r79, r80, r81, r82, r83, r84, r85, r86, r87, w10, w11, w12, w13, w18, w19, w20, w21, w22, w23, w24, w25, w26, w30, w31, w32, w33, w34, w35, w36, w38, w39, w40, w43, w44, w46, w47, w48, w49, w50, w51, w52, w53, w54, w55, w56, w57, w58, w59, w60, w61, w62, w63, w64, w65, w66, w67, w68, w69, w70, w71, w72, w73, w74, w75, w76, w77, w78, w79, w80, w81, w82, w83, w84, w85, w86, w87, hi_hit, hi_row, hi_col, hj_hit, hj_row, hj_col, hi_sj, hj_si, hq_si, hq_sj, hi_sq, hj_sq, hi_srh, hi_srm]
    rw [if_pos (Int32.le_refl _)]
  · rintro n s g1 hs ⟨I1, I2⟩
    have D1 := D.fr I1 (by decide) (by decide)
    have F1 := D1.1
    have e49 := D1.2.2.2.2.1
    have hne : ¬ nI (2 ^ bc) ≤ nI s := by rw [nI_leI (by omega) (by omega)]; omega
    have hb31 : bc < 31 := by omega
    have mb := m_bitsOf (s := s) (by omega) g1
    by_cases q : pc s = m
    · obtain ⟨g2, r, y1, y2, y3⟩ := m_canHold D1 (s := s) (by omega)
      rcases y3 with ⟨rfl, c⟩ | ⟨rfl, c⟩
      · refine Or.inl ⟨Sum.inl (nI s, g2), ?_, Or.inl ⟨s, g2, rfl, I1.trans y2, hs, q, c, I2⟩⟩
        simp only [f_X9_seekQuarrel_L17.eq_2]
        simp (disch := (first | assumption | (simp only [FX_si, FX_sj, FX_sr]; assumption) | omega | decide)) only [e49, shl_of, hne, if_false, mb, q, if_true, y1, if_neg (by decide : ¬ (1 : Int32) = 0), bd_some, b1_some, b2_some, b3_some, b4_some, c1_eq, elim_inl, elim_inr, zok0, zok1, getQ_si, getQ_sj, getQ_sr, q8_0, q8_1, q8_2, q8_4, q8_7, q8_8, q8_9, q8_10, q8_11, q9_0, q9_3, q9_4, q9_8, q17_0, q17_1, q17_2, q17_4, q17_5, q17_6, q17_9, q17_10, q17_11, q27_4, q27_5, q27_6, q27_7, q27_8, q27_11, q45_0, q45_1, q45_11, q45_12, q45_13, q45_14, q45_15, q45_16, q45_17, q45_18, q45_19, q45_20, q45_21, q45_22, q45_23, q45_24, q45_30, q45_31, q45_32, q45_33, q45_34, q45_35, q45_36, q45_37, q45_38, q45_39, q45_43, q45_44, q45_45, q45_46, q45_47, q45_48, q45_52, q45_53, q45_54, q45_59, q45_60, q45_61, q45_62, q45_65, q45_67, q45_68, gi8, gj8, pi8, pz8, pj8, rc8, gi9, gj9, pi9, pz9, pj9, rc9, gi17, gj17, pi17, pz17, pj17, rc17, gi27, gj27, pi27, pz27, pj27, rc27, gi45, gj45, pi45, pz45, pj45, rc45, aln_si, aln_sj, aln_sq, rc_si, rc_sj, rc_sq, n0, n1, n10, n11, n12, n13, n14, n15, n16, n18, n19, n20, n21, n22, n23, n24, n25, n26, n29, n30, n31, n32, n33, n34, n35, n36, n37, n38, n39, n40, n42, n43, n44, n46, n47, n48, n49, n50, n51, n52, n53, n54, n55, n56, n57, n58, n59, n60, n61, n62, n63, n64, n65, n66, n67, n68, n69, n70, n71, n72, n73, n74, n75, n76, n77, n78, n79, n80, n81, n82, n83, n84, n85, n86, n87, r0, r1, r10, r11, r12, r13, r14, r15, r16, r18, r19, r20, r21, r22, r23, r24, r25, r26, r29, r30, r31, r32, r33, r34, r35, r36, r37, r38, r39, r40, r42, r43, r44, r46, r47, r48, r49, r50, r51, r52, r53, r54, r55, r56, r57, r58, r59, r60, r61, r62, r63, r64, r65, r66, r67, r68, r69, r70, r71, r72, r73, r74, r75, r76, r77, r78, r79, r80, r81, r82, r83, r84, r85, r86, r87, w10, w11, w12, w13, w18, w19, w20, w21, w22, w23, w24, w25, w26, w30, w31, w32, w33, w34, w35, w36, w38, w39, w40, w43, w44, w46, w47, w48, w49, w50, w51, w52, w53, w54, w55, w56, w57, w58, w59, w60, w61, w62, w63, w64, w65, w66, w67, w68, w69, w70, w71, w72, w73, w74, w75, w76, w77, w78, w79, w80, w81, w82, w83, w84, w85, w86, w87, hi_hit, hi_row, hi_col, hj_hit, hj_row, hj_col, hi_sj, hj_si, hq_si, hq_sj, hi_sq, hj_sq, hi_srh, hi_srm]
      · refine Or.inr ⟨g2, ?_, I1.trans y2, fun t ht htm => ?_⟩
        · simp only [f_X9_seekQuarrel_L17.eq_2]
          simp (disch := (first | assumption | (simp only [FX_si, FX_sj, FX_sr]; assumption) | omega | decide)) only [e49, shl_of, hne, if_false, mb, q, if_true, y1, nI_1, bd_some, b1_some, b2_some, b3_some, b4_some, c1_eq, elim_inl, elim_inr, zok0, zok1, getQ_si, getQ_sj, getQ_sr, q8_0, q8_1, q8_2, q8_4, q8_7, q8_8, q8_9, q8_10, q8_11, q9_0, q9_3, q9_4, q9_8, q17_0, q17_1, q17_2, q17_4, q17_5, q17_6, q17_9, q17_10, q17_11, q27_4, q27_5, q27_6, q27_7, q27_8, q27_11, q45_0, q45_1, q45_11, q45_12, q45_13, q45_14, q45_15, q45_16, q45_17, q45_18, q45_19, q45_20, q45_21, q45_22, q45_23, q45_24, q45_30, q45_31, q45_32, q45_33, q45_34, q45_35, q45_36, q45_37, q45_38, q45_39, q45_43, q45_44, q45_45, q45_46, q45_47, q45_48, q45_52, q45_53, q45_54, q45_59, q45_60, q45_61, q45_62, q45_65, q45_67, q45_68, gi8, gj8, pi8, pz8, pj8, rc8, gi9, gj9, pi9, pz9, pj9, rc9, gi17, gj17, pi17, pz17, pj17, rc17, gi27, gj27, pi27, pz27, pj27, rc27, gi45, gj45, pi45, pz45, pj45, rc45, aln_si, aln_sj, aln_sq, rc_si, rc_sj, rc_sq, n0, n1, n10, n11, n12, n13, n14, n15, n16, n18, n19, n20, n21, n22, n23, n24, n25, n26, n29, n30, n31, n32, n33, n34, n35, n36, n37, n38, n39, n40, n42, n43, n44, n46, n47, n48, n49, n50, n51, n52, n53, n54, n55, n56, n57, n58, n59, n60, n61, n62, n63, n64, n65, n66, n67, n68, n69, n70, n71, n72, n73, n74, n75, n76, n77, n78, n79, n80, n81, n82, n83, n84, n85, n86, n87, r0, r1, r10, r11, r12, r13, r14, r15, r16, r18, r19, r20, r21, r22, r23, r24, r25, r26, r29, r30, r31, r32, r33, r34, r35, r36, r37, r38, r39, r40, r42, r43, r44, r46, r47, r48, r49, r50, r51, r52, r53, r54, r55, r56, r57, r58, r59, r60, r61, r62, r63, r64, r65, r66, r67, r68, r69, r70, r71, r72, r73, r74, r75, r76, r77, r78, r79, r80, r81, r82, r83, r84, r85, r86, r87, w10, w11, w12, w13, w18, w19, w20, w21, w22, w23, w24, w25, w26, w30, w31, w32, w33, w34, w35, w36, w38, w39, w40, w43, w44, w46, w47, w48, w49, w50, w51, w52, w53, w54, w55, w56, w57, w58, w59, w60, w61, w62, w63, w64, w65, w66, w67, w68, w69, w70, w71, w72, w73, w74, w75, w76, w77, w78, w79, w80, w81, w82, w83, w84, w85, w86, w87, hi_hit, hi_row, hi_col, hj_hit, hj_row, hj_col, hi_sj, hj_si, hq_si, hq_sj, hi_sq, hj_sq, hi_srh, hi_srm]
        · rcases Nat.lt_or_ge t s with z | z
          · exact I2 t z htm
          · rw [show t = s by omega]; exact c
    · have q' : ¬ nI (pc s) = nI m := by
        have := bts_le s 10
        rw [nI_eq (by unfold pc; omega) (by omega)]; exact q
      refine Or.inr ⟨g1, ?_, I1, fun t ht htm => ?_⟩
      · simp only [f_X9_seekQuarrel_L17.eq_2]
        simp (disch := (first | assumption | (simp only [FX_si, FX_sj, FX_sr]; assumption) | omega | decide)) only [e49, shl_of, hne, if_false, mb, q', nI_1, bd_some, b1_some, b2_some, b3_some, b4_some, c1_eq, elim_inl, elim_inr, zok0, zok1, getQ_si, getQ_sj, getQ_sr, q8_0, q8_1, q8_2, q8_4, q8_7, q8_8, q8_9, q8_10, q8_11, q9_0, q9_3, q9_4, q9_8, q17_0, q17_1, q17_2, q17_4, q17_5, q17_6, q17_9, q17_10, q17_11, q27_4, q27_5, q27_6, q27_7, q27_8, q27_11, q45_0, q45_1, q45_11, q45_12, q45_13, q45_14, q45_15, q45_16, q45_17, q45_18, q45_19, q45_20, q45_21, q45_22, q45_23, q45_24, q45_30, q45_31, q45_32, q45_33, q45_34, q45_35, q45_36, q45_37, q45_38, q45_39, q45_43, q45_44, q45_45, q45_46, q45_47, q45_48, q45_52, q45_53, q45_54, q45_59, q45_60, q45_61, q45_62, q45_65, q45_67, q45_68, gi8, gj8, pi8, pz8, pj8, rc8, gi9, gj9, pi9, pz9, pj9, rc9, gi17, gj17, pi17, pz17, pj17, rc17, gi27, gj27, pi27, pz27, pj27, rc27, gi45, gj45, pi45, pz45, pj45, rc45, aln_si, aln_sj, aln_sq, rc_si, rc_sj, rc_sq, n0, n1, n10, n11, n12, n13, n14, n15, n16, n18, n19, n20, n21, n22, n23, n24, n25, n26, n29, n30, n31, n32, n33, n34, n35, n36, n37, n38, n39, n40, n42, n43, n44, n46, n47, n48, n49, n50, n51, n52, n53, n54, n55, n56, n57, n58, n59, n60, n61, n62, n63, n64, n65, n66, n67, n68, n69, n70, n71, n72, n73, n74, n75, n76, n77, n78, n79, n80, n81, n82, n83, n84, n85, n86, n87, r0, r1, r10, r11, r12, r13, r14, r15, r16, r18, r19, r20, r21, r22, r23, r24, r25, r26, r29, r30, r31, r32, r33, r34, r35, r36, r37, r38, r39, r40, r42, r43, r44, r46, r47, r48, r49, r50, r51, r52, r53, r54, r55, r56, r57, r58, r59, r60, r61, r62, r63, r64, r65, r66, r67, r68, r69, r70, r71, r72, r73, r74, r75, r76, r77, r78, r79, r80, r81, r82, r83, r84, r85, r86, r87, w10, w11, w12, w13, w18, w19, w20, w21, w22, w23, w24, w25, w26, w30, w31, w32, w33, w34, w35, w36, w38, w39, w40, w43, w44, w46, w47, w48, w49, w50, w51, w52, w53, w54, w55, w56, w57, w58, w59, w60, w61, w62, w63, w64, w65, w66, w67, w68, w69, w70, w71, w72, w73, w74, w75, w76, w77, w78, w79, w80, w81, w82, w83, w84, w85, w86, w87, hi_hit, hi_row, hi_col, hj_hit, hj_row, hj_col, hi_sj, hj_si, hq_si, hq_sj, hi_sq, hj_sq, hi_srh, hi_srm]
      · rcases Nat.lt_or_ge t s with z | z
        · exact I2 t z htm
        · rw [show t = s by omega] at htm; exact absurd htm q
theorem m_seek2 (D : DX g ls T bc bA bE bT) :
    ∃ r, f_X9_seekQuarrel_L2 fu 45 0 g = some r ∧ ((∃ q g', r = Sum.inl (q, g') ∧ FrM [77] [51] g g' ∧ QUp (fun s => CAN ls T bA bE bT bc (btB s)) bc q) ∨ (∃ g', r = Sum.inr g' ∧ FrM [77] [51] g g' ∧ QUp (fun s => CAN ls T bA bE bT bc (btB s)) bc (-1))) := by
  have hbc := D.2.2.2.1
  have nomore : ∀ m, (∀ t, t < 2 ^ bc → pc t < m → ¬ CAN ls T bA bE bT bc (btB t)) → (3 < m ∨ bc < m) → QUp (fun s => CAN ls T bA bE bT bc (btB s)) bc (-1) := by
    intro m hm h2
    refine Or.inr ⟨rfl, fun s hs hc => ?_⟩
    have h3 := pc_le bc (by omega) s hs
    rcases Nat.lt_or_ge (pc s) m with q | q
    · exact absurd hc (hm s hs q)
    · omega
  refine forN (fun n v g => f_X9_seekQuarrel_L2 n 45 v g) 4 (by omega) (fun m g' => FrM [77] [51] g g' ∧ ∀ t, t < 2 ^ bc → pc t < m → ¬ CAN ls T bA bE bT bc (btB t))
    (fun r => (∃ q g', r = Sum.inl (q, g') ∧ FrM [77] [51] g g' ∧ QUp (fun s => CAN ls T bA bE bT bc (btB s)) bc q) ∨ (∃ g', r = Sum.inr g' ∧ FrM [77] [51] g g' ∧ QUp (fun s => CAN ls T bA bE bT bc (btB s)) bc (-1))) ?_ ?_ (i0 := 0) (Nat.zero_le _) ⟨FrM.rfl, fun t _ ht => absurd ht (Nat.not_lt_zero _)⟩
  · rintro n g1 ⟨I1, I2⟩
    refine ⟨Sum.inr g1, ?_, Or.inr ⟨g1, rfl, I1, nomore 4 I2 (by omega)⟩⟩
    simp only [f_X9_seekQuarrel_L2.eq_2]
    rw [if_pos (by decide)]
  · rintro n m g1 hm ⟨I1, I2⟩
    have D1 := D.fr I1 (by decide) (by decide)
    have F1 := D1.1
    have e49 := D1.2.2.2.2.1
    have hn3 : ¬ (3 : Int32) < nI m := by rw [L3, nI_ltI (by omega) (by omega)]; omega
    by_cases q : bc < m
    · refine Or.inl ⟨Sum.inr g1, ?_, Or.inr ⟨g1, rfl, I1, nomore m I2 (by omega)⟩⟩
      have q' : nI bc < nI m := by rw [nI_ltI (by omega) (by omega)]; omega
      simp only [f_X9_seekQuarrel_L2.eq_2]
      rw [if_neg hn3]
      simp (disch := (first | assumption | (simp only [FX_si, FX_sj, FX_sr]; assumption) | omega | decide)) only [e49, bd_some, b1_some, b2_some, b3_some, b4_some, c1_eq, elim_inl, elim_inr, zok0, zok1, getQ_si, getQ_sj, getQ_sr, q8_0, q8_1, q8_2, q8_4, q8_7, q8_8, q8_9, q8_10, q8_11, q9_0, q9_3, q9_4, q9_8, q17_0, q17_1, q17_2, q17_4, q17_5, q17_6, q17_9, q17_10, q17_11, q27_4, q27_5, q27_6, q27_7, q27_8, q27_11, q45_0, q45_1, q45_11, q45_12, q45_13, q45_14, q45_15, q45_16, q45_17, q45_18, q45_19, q45_20, q45_21, q45_22, q45_23, q45_24, q45_30, q45_31, q45_32, q45_33, q45_34, q45_35, q45_36, q45_37, q45_38, q45_39, q45_43, q45_44, q45_45, q45_46, q45_47, q45_48, q45_52, q45_53, q45_54, q45_59, q45_60, q45_61, q45_62, q45_65, q45_67, q45_68, gi8, gj8, pi8, pz8, pj8, rc8, gi9, gj9, pi9, pz9, pj9, rc9, gi17, gj17, pi17, pz17, pj17, rc17, gi27, gj27, pi27, pz27, pj27, rc27, gi45, gj45, pi45, pz45, pj45, rc45, aln_si, aln_sj, aln_sq, rc_si, rc_sj, rc_sq, n0, n1, n10, n11, n12, n13, n14, n15, n16, n18, n19, n20, n21, n22, n23, n24, n25, n26, n29, n30, n31, n32, n33, n34, n35, n36, n37, n38, n39, n40, n42, n43, n44, n46, n47, n48, n49, n50, n51, n52, n53, n54, n55, n56, n57, n58, n59, n60, n61, n62, n63, n64, n65, n66, n67, n68, n69, n70, n71, n72, n73, n74, n75, n76, n77, n78, n79, n80, n81, n82, n83, n84, n85, n86, n87, r0, r1, r10, r11, r12, r13, r14, r15, r16, r18, r19, r20, r21, r22, r23, r24, r25, r26, r29, r30, r31, r32, r33, r34, r35, r36, r37, r38, r39, r40, r42, r43, r44, r46, r47, r48, r49, r50, r51, r52, r53, r54, r55, r56, r57, r58, r59, r60, r61, r62, r63, r64, r65, r66, r67, r68, r69, r70, r71, r72, r73, r74, r75, r76, r77, r78, r79, r80, r81, r82, r83, r84, r85, r86, r87, w10, w11, w12, w13, w18, w19, w20, w21, w22, w23, w24, w25, w26, w30, w31, w32, w33, w34, w35, w36, w38, w39, w40, w43, w44, w46, w47, w48, w49, w50, w51, w52, w53, w54, w55, w56, w57, w58, w59, w60, w61, w62, w63, w64, w65, w66, w67, w68, w69, w70, w71, w72, w73, w74, w75, w76, w77, w78, w79, w80, w81, w82, w83, w84, w85, w86, w87, hi_hit, hi_row, hi_col, hj_hit, hj_row, hj_col, hi_sj, hj_si, hq_si, hq_sj, hi_sq, hj_sq, hi_srh, hi_srm]
      rw [if_pos q']
    · have q' : ¬ nI bc < nI m := by rw [nI_ltI (by omega) (by omega)]; omega
      obtain ⟨r, y1, y2⟩ := m_seek17 D1 m (by omega)
      have ev : f_X9_seekQuarrel_L2 (n + 1) 45 (nI m) g1 = Sum.elim (c1 fun w18 h19 => some (Sum.inl (w18, h19))) (fun h20 => f_X9_seekQuarrel_L2 n 45 (nI (m + 1)) h20) r := by
        rw [f_X9_seekQuarrel_L2.eq_2, if_neg hn3]
        simp (disch := (first | assumption | (simp only [FX_si, FX_sj, FX_sr]; assumption) | omega | decide)) only [e49, q', if_false, y1, nI_1, bd_some, b1_some, b2_some, b3_some, b4_some, c1_eq, elim_inl, elim_inr, zok0, zok1, getQ_si, getQ_sj, getQ_sr, q8_0, q8_1, q8_2, q8_4, q8_7, q8_8, q8_9, q8_10, q8_11, q9_0, q9_3, q9_4, q9_8, q17_0, q17_1, q17_2, q17_4, q17_5, q17_6, q17_9, q17_10, q17_11, q27_4, q27_5, q27_6, q27_7, q27_8, q27_11, q45_0, q45_1, q45_11, q45_12, q45_13, q45_14, q45_15, q45_16, q45_17, q45_18, q45_19, q45_20, q45_21, q45_22, q45_23, q45_24, q45_30, q45_31, q45_32, q45_33, q45_34, q45_35, q45_36, q45_37, q45_38, q45_39, q45_43, q45_44, q45_45, q45_46, q45_47, q45_48, q45_52, q45_53, q45_54, q45_59, q45_60, q45_61, q45_62, q45_65, q45_67, q45_68, gi8, gj8, pi8, pz8, pj8, rc8, gi9, gj9, pi9, pz9, pj9, rc9, gi17, gj17, pi17, pz17, pj17, rc17, gi27, gj27, pi27, pz27, pj27, rc27, gi45, gj45, pi45, pz45, pj45, rc45, aln_si, aln_sj, aln_sq, rc_si, rc_sj, rc_sq, n0, n1, n10, n11, n12, n13, n14, n15, n16, n18, n19, n20, n21, n22, n23, n24, n25, n26, n29, n30, n31, n32, n33, n34, n35, n36, n37, n38, n39, n40, n42, n43, n44, n46, n47, n48, n49, n50, n51, n52, n53, n54, n55, n56, n57, n58, n59, n60, n61, n62, n63, n64, n65, n66, n67, n68, n69, n70, n71, n72, n73, n74, n75, n76, n77, n78, n79, n80, n81, n82, n83, n84, n85, n86, n87, r0, r1, r10, r11, r12, r13, r14, r15, r16, r18, r19, r20, r21, r22, r23, r24, r25, r26, r29, r30, r31, r32, r33, r34, r35, r36, r37, r38, r39, r40, r42, r43, r44, r46, r47, r48, r49, r50, r51, r52, r53, r54, r55, r56, r57, r58, r59, r60, r61, r62, r63, r64, r65, r66, r67, r68, r69, r70, r71, r72, r73, r74, r75, r76, r77, r78, r79, r80, r81, r82, r83, r84, r85, r86, r87, w10, w11, w12, w13, w18, w19, w20, w21, w22, w23, w24, w25, w26, w30, w31, w32, w33, w34, w35, w36, w38, w39, w40, w43, w44, w46, w47, w48, w49, w50, w51, w52, w53, w54, w55, w56, w57, w58, w59, w60, w61, w62, w63, w64, w65, w66, w67, w68, w69, w70, w71, w72, w73, w74, w75, w76, w77, w78, w79, w80, w81, w82, w83, w84, w85, w86, w87, hi_hit, hi_row, hi_col, hj_hit, hj_row, hj_col, hi_sj, hj_si, hq_si, hq_sj, hi_sq, hj_sq, hi_srh, hi_srm]
      rcases y2 with ⟨s, g2, rfl, k1, k2, k3, k4, k5⟩ | ⟨g2, rfl, k1, k2⟩
      · refine Or.inl ⟨Sum.inl (nI s, g2), ev, Or.inl ⟨nI s, g2, rfl, I1.trans k1, Or.inl ⟨s, rfl, k2, by omega, k4, fun t ht hc => ?_⟩⟩⟩
        rcases Nat.lt_trichotomy (pc t) m with z | z | z
        · exact absurd hc (I2 t ht z)
        · rcases Nat.lt_or_ge t s with z2 | z2
          · exact absurd hc (k5 t z2 z)
          · omega
        · omega
      · refine Or.inr ⟨g2, ev, I1.trans k1, fun t ht hlt => ?_⟩
        rcases Nat.lt_or_ge (pc t) m with z | z
        · exact I2 t ht z
        · exact k2 t ht (by omega)
theorem m_seekQuarrel (D : DX g ls T bc bA bE bT) : ∃ g', f_X9_seekQuarrel 45 g = some g' ∧ FrM [77] [50, 51] g g' ∧ QUp (fun s => CAN ls T bA bE bT bc (btB s)) bc (hi g' 45 50) := by
  obtain ⟨r, y1, y2⟩ := m_seek2 D
  rcases y2 with ⟨q, g1, rfl, k1, k2⟩ | ⟨g1, rfl, k1, k2⟩
  · have F1 := k1.fx D.1
    refine ⟨si g1 45 50 q, ?_, (k1.wk (by decide) (by decide)).trans (FrM.fld (by decide)), by rw [hi_hit]; exact k2⟩
    unfold f_X9_seekQuarrel
    simp (disch := (first | assumption | (simp only [FX_si, FX_sj, FX_sr]; assumption) | omega | decide)) only [y1, bd_some, b1_some, b2_some, b3_some, b4_some, c1_eq, elim_inl, elim_inr, zok0, zok1, getQ_si, getQ_sj, getQ_sr, q8_0, q8_1, q8_2, q8_4, q8_7, q8_8, q8_9, q8_10, q8_11, q9_0, q9_3, q9_4, q9_8, q17_0, q17_1, q17_2, q17_4, q17_5, q17_6, q17_9, q17_10, q17_11, q27_4, q27_5, q27_6, q27_7, q27_8, q27_11, q45_0, q45_1, q45_11, q45_12, q45_13, q45_14, q45_15, q45_16, q45_17, q45_18, q45_19, q45_20, q45_21, q45_22, q45_23, q45_24, q45_30, q45_31, q45_32, q45_33, q45_34, q45_35, q45_36, q45_37, q45_38, q45_39, q45_43, q45_44, q45_45, q45_46, q45_47, q45_48, q45_52, q45_53, q45_54, q45_59, q45_60, q45_61, q45_62, q45_65, q45_67, q45_68, gi8, gj8, pi8, pz8, pj8, rc8, gi9, gj9, pi9, pz9, pj9, rc9, gi17, gj17, pi17, pz17, pj17, rc17, gi27, gj27, pi27, pz27, pj27, rc27, gi45, gj45, pi45, pz45, pj45, rc45, aln_si, aln_sj, aln_sq, rc_si, rc_sj, rc_sq, n0, n1, n10, n11, n12, n13, n14, n15, n16, n18, n19, n20, n21, n22, n23, n24, n25, n26, n29, n30, n31, n32, n33, n34, n35, n36, n37, n38, n39, n40, n42, n43, n44, n46, n47, n48, n49, n50, n51, n52, n53, n54, n55, n56, n57, n58, n59, n60, n61, n62, n63, n64, n65, n66, n67, n68, n69, n70, n71, n72, n73, n74, n75, n76, n77, n78, n79, n80, n81, n82, n83, n84, n85, n86, n87, r0, r1, r10, r11, r12, r13, r14, r15, r16, r18, r19, r20, r21, r22, r23, r24, r25, r26, r29, r30, r31, r32, r33, r34, r35, r36, r37, r38, r39, r40, r42, r43, r44, r46, r47, r48, r49, r50, r51, r52, r53, r54, r55, r56, r57, r58, r59, r60, r61, r62, r63, r64, r65, r66, r67, r68, r69, r70, r71, r72, r73, r74, r75, r76, r77, r78, r79, r80, r81, r82, r83, r84, r85, r86, r87, w10, w11, w12, w13, w18, w19, w20, w21, w22, w23, w24, w25, w26, w30, w31, w32, w33, w34, w35, w36, w38, w39, w40, w43, w44, w46, w47, w48, w49, w50, w51, w52, w53, w54, w55, w56, w57, w58, w59, w60, w61, w62, w63, w64, w65, w66, w67, w68, w69, w70, w71, w72, w73, w74, w75, w76, w77, w78, w79, w80, w81, w82, w83, w84, w85, w86, w87, hi_hit, hi_row, hi_col, hj_hit, hj_row, hj_col, hi_sj, hj_si, hq_si, hq_sj, hi_sq, hj_sq, hi_srh, hi_srm]
  · have F1 := k1.fx D.1
    refine ⟨si g1 45 50 (-1), ?_, (k1.wk (by decide) (by decide)).trans (FrM.fld (by decide)), by rw [hi_hit]; exact k2⟩
    unfold f_X9_seekQuarrel
    simp (disch := (first | assumption | (simp only [FX_si, FX_sj, FX_sr]; assumption) | omega | decide)) only [y1, bd_some, b1_some, b2_some, b3_some, b4_some, c1_eq, elim_inl, elim_inr, zok0, zok1, getQ_si, getQ_sj, getQ_sr, q8_0, q8_1, q8_2, q8_4, q8_7, q8_8, q8_9, q8_10, q8_11, q9_0, q9_3, q9_4, q9_8, q17_0, q17_1, q17_2, q17_4, q17_5, q17_6, q17_9, q17_10, q17_11, q27_4, q27_5, q27_6, q27_7, q27_8, q27_11, q45_0, q45_1, q45_11, q45_12, q45_13, q45_14, q45_15, q45_16, q45_17, q45_18, q45_19, q45_20, q45_21, q45_22, q45_23, q45_24, q45_30, q45_31, q45_32, q45_33, q45_34, q45_35, q45_36, q45_37, q45_38, q45_39, q45_43, q45_44, q45_45, q45_46, q45_47, q45_48, q45_52, q45_53, q45_54, q45_59, q45_60, q45_61, q45_62, q45_65, q45_67, q45_68, gi8, gj8, pi8, pz8, pj8, rc8, gi9, gj9, pi9, pz9, pj9, rc9, gi17, gj17, pi17, pz17, pj17, rc17, gi27, gj27, pi27, pz27, pj27, rc27, gi45, gj45, pi45, pz45, pj45, rc45, aln_si, aln_sj, aln_sq, rc_si, rc_sj, rc_sq, n0, n1, n10, n11, n12, n13, n14, n15, n16, n18, n19, n20, n21, n22, n23, n24, n25, n26, n29, n30, n31, n32, n33, n34, n35, n36, n37, n38, n39, n40, n42, n43, n44, n46, n47, n48, n49, n50, n51, n52, n53, n54, n55, n56, n57, n58, n59, n60, n61, n62, n63, n64, n65, n66, n67, n68, n69, n70, n71, n72, n73, n74, n75, n76, n77, n78, n79, n80, n81, n82, n83, n84, n85, n86, n87, r0, r1, r10, r11, r12, r13, r14, r15, r16, r18, r19, r20, r21, r22, r23, r24, r25, r26, r29, r30, r31, r32, r33, r34, r35, r36, r37, r38, r39, r40, r42, r43, r44, r46, r47, r48, r49, r50, r51, r52, r53, r54, r55, r56, r57, r58, r59, r60, r61, r62, r63, r64, r65, r66, r67, r68, r69, r70, r71, r72, r73, r74, r75, r76, r77, r78, r79, r80, r81, r82, r83, r84, r85, r86, r87, w10, w11, w12, w13, w18, w19, w20, w21, w22, w23, w24, w25, w26, w30, w31, w32, w33, w34, w35, w36, w38, w39, w40, w43, w44, w46, w47, w48, w49, w50, w51, w52, w53, w54, w55, w56, w57, w58, w59, w60, w61, w62, w63, w64, w65, w66, w67, w68, w69, w70, w71, w72, w73, w74, w75, w76, w77, w78, w79, w80, w81, w82, w83, w84, w85, w86, w87, hi_hit, hi_row, hi_col, hj_hit, hj_row, hj_col, hi_sj, hj_si, hq_si, hq_sj, hi_sq, hj_sq, hi_srh, hi_srm]
theorem m_spread (D : DX g ls T bc bA bE bT) {s w : Nat} (hs : s < 2 ^ 31) (hw : w < 104) (hl : ls w = true) (hc : CAN ls T bA bE bT bc (btB s)) :
    ∃ g', f_X9_spread 45 (nI w) (nI s) g = some g' ∧ FrM [73, 74, 77] [51] g g' ∧ (∀ j, j ≠ w → hi g' 73 j = hi g 73 j ∧ hi g' 74 j = hi g 74 j) ∧
      MXD ls T bA bE bT bc (btB s) w (w + 1) (hi g' 74 w).toInt ∧ MXD ls T bA bE bT bc (btB s) (w + 1) w (-(hi g' 73 w).toInt) := by
  have stp : ∀ S, WAY ls T bA bE bT bc (btB s) S → S w ≤ S (w + 1) ∧ S (w + 1) ≤ S w + 9999 := fun S hS => by
    have := hS.1 w hw
    rw [if_pos hl] at this
    exact this
  obtain ⟨g1, x, a1, a2, a3⟩ := m_most D hs (u := w) (v := w + 1) (by omega) (by omega) hc
  have F0 := D.1
  have a2' : FrM [73, 74, 77] [51] g g1 := a2.wk (by decide) (by decide)
  have F1 := a2'.fx D.1
  have fr2 : FrM [73, 74, 77] [51] g1 (si g1 74 w x.toInt32) := FrM.row (by decide) (by decide)
  have D2 := (D.fr a2' (by decide) (by decide)).fr fr2 (by decide) (by decide)
  obtain ⟨g3, y, b1', b2', b3'⟩ := m_most D2 hs (u := w + 1) (v := w) (by omega) (by omega) hc
  have b2'' : FrM [73, 74, 77] [51] (si g1 74 w x.toInt32) g3 := b2'.wk (by decide) (by decide)
  have F3 := b2''.fx D2.1
  have hx : x.toInt32.toInt = x.toInt := by
    obtain ⟨S, h1, h2⟩ := a3.1
    have := stp S h1
    exact j_i (by omega) (by omega)
  have hy : (-y).toInt32.toInt = -y.toInt := by
    obtain ⟨S, h1, h2⟩ := b3'.1
    have := stp S h1
    have e := j_neg (x := y) (by omega) (by omega)
    rw [j_i (by omega) (by omega), e]
  refine ⟨si g3 73 w (-y).toInt32, ?_, ((a2'.trans fr2).trans b2'').trans (FrM.row (by decide) (by decide)), fun j hj' => ?_, ?_, ?_⟩
  · unfold f_X9_spread
    simp (disch := (first | assumption | (simp only [FX_si, FX_sj, FX_sr]; assumption) | omega | decide)) only [a1, b1', nI_1, bd_some, b1_some, b2_some, b3_some, b4_some, c1_eq, elim_inl, elim_inr, zok0, zok1, getQ_si, getQ_sj, getQ_sr, q8_0, q8_1, q8_2, q8_4, q8_7, q8_8, q8_9, q8_10, q8_11, q9_0, q9_3, q9_4, q9_8, q17_0, q17_1, q17_2, q17_4, q17_5, q17_6, q17_9, q17_10, q17_11, q27_4, q27_5, q27_6, q27_7, q27_8, q27_11, q45_0, q45_1, q45_11, q45_12, q45_13, q45_14, q45_15, q45_16, q45_17, q45_18, q45_19, q45_20, q45_21, q45_22, q45_23, q45_24, q45_30, q45_31, q45_32, q45_33, q45_34, q45_35, q45_36, q45_37, q45_38, q45_39, q45_43, q45_44, q45_45, q45_46, q45_47, q45_48, q45_52, q45_53, q45_54, q45_59, q45_60, q45_61, q45_62, q45_65, q45_67, q45_68, gi8, gj8, pi8, pz8, pj8, rc8, gi9, gj9, pi9, pz9, pj9, rc9, gi17, gj17, pi17, pz17, pj17, rc17, gi27, gj27, pi27, pz27, pj27, rc27, gi45, gj45, pi45, pz45, pj45, rc45, aln_si, aln_sj, aln_sq, rc_si, rc_sj, rc_sq, n0, n1, n10, n11, n12, n13, n14, n15, n16, n18, n19, n20, n21, n22, n23, n24, n25, n26, n29, n30, n31, n32, n33, n34, n35, n36, n37, n38, n39, n40, n42, n43, n44, n46, n47, n48, n49, n50, n51, n52, n53, n54, n55, n56, n57, n58, n59, n60, n61, n62, n63, n64, n65, n66, n67, n68, n69, n70, n71, n72, n73, n74, n75, n76, n77, n78, n79, n80, n81, n82, n83, n84, n85, n86, n87, r0, r1, r10, r11, r12, r13, r14, r15, r16, r18, r19, r20, r21, r22, r23, r24, r25, r26, r29, r30, r31, r32, r33, r34, r35, r36, r37, r38, r39, r40, r42, r43, r44, r46, r47, r48, r49, r50, r51, r52, r53, r54, r55, r56, r57, r58, r59, r60, r61, r62, r63, r64, r65, r66, r67, r68, r69, r70, r71, r72, r73, r74, r75, r76, r77, r78, r79, r80, r81, r82, r83, r84, r85, r86, r87, w10, w11, w12, w13, w18, w19, w20, w21, w22, w23, w24, w25, w26, w30, w31, w32, w33, w34, w35, w36, w38, w39, w40, w43, w44, w46, w47, w48, w49, w50, w51, w52, w53, w54, w55, w56, w57, w58, w59, w60, w61, w62, w63, w64, w65, w66, w67, w68, w69, w70, w71, w72, w73, w74, w75, w76, w77, w78, w79, w80, w81, w82, w83, w84, w85, w86, w87, hi_hit, hi_row, hi_col, hj_hit, hj_row, hj_col, hi_sj, hj_si, hq_si, hq_sj, hi_sq, hj_sq, hi_srh, hi_srm]
  · constructor
    · rw [hi_col 73 _ hj', b2'.ei j (by decide) (by decide), hi_row _ _ _ (by decide), a2.ei j (by decide) (by decide)]
    · rw [hi_row _ _ _ (by decide), b2'.ei j (by decide) (by decide), hi_col 74 _ hj', a2.ei j (by decide) (by decide)]
  · rw [hi_row _ _ _ (by decide), b2'.ei w (by decide) (by decide), hi_hit, hx]
    exact a3
  · rw [hi_hit, hy, Int.neg_neg]
    exact b3'
theorem m_know241 (D : DX g ls T bc bA bE bT) {s : Nat} (hs : s < 2 ^ 31) (hc : CAN ls T bA bE bT bc (btB s)) :
    ∃ g', f_X9_know_L241 fu 45 (nI s) 0 g = some g' ∧ FrM [73, 74, 77] [51] g g' ∧ ∀ w, w < 104 → if ls w = true then MXD ls T bA bE bT bc (btB s) w (w + 1) (hi g' 74 w).toInt ∧ MXD ls T bA bE bT bc (btB s) (w + 1) w (-(hi g' 73 w).toInt) else hi g' 73 w = hi g 72 (6 * w) ∧ hi g' 74 w = hi g 72 (6 * w) := by
  refine forN (fun n v g => f_X9_know_L241 n 45 (nI s) v g) 104 (by omega)
    (fun u g' => FrM [73, 74, 77] [51] g g' ∧ ∀ w, w < u → if ls w = true then MXD ls T bA bE bT bc (btB s) w (w + 1) (hi g' 74 w).toInt ∧ MXD ls T bA bE bT bc (btB s) (w + 1) w (-(hi g' 73 w).toInt) else hi g' 73 w = hi g 72 (6 * w) ∧ hi g' 74 w = hi g 72 (6 * w))
    (fun g' => FrM [73, 74, 77] [51] g g' ∧ ∀ w, w < 104 → if ls w = true then MXD ls T bA bE bT bc (btB s) w (w + 1) (hi g' 74 w).toInt ∧ MXD ls T bA bE bT bc (btB s) (w + 1) w (-(hi g' 73 w).toInt) else hi g' 73 w = hi g 72 (6 * w) ∧ hi g' 74 w = hi g 72 (6 * w)) ?_ ?_ (i0 := 0) (Nat.zero_le _) ⟨FrM.rfl, fun w hw => absurd hw (Nat.not_lt_zero _)⟩
  · rintro n g1 ⟨I1, I2⟩
    exact ⟨g1, by simp only [f_X9_know_L241.eq_2]; rw [if_pos (by decide)], I1, I2⟩
  · rintro n u g1 hu ⟨I1, I2⟩
    right
    have D1 := D.fr I1 (by decide) (by decide)
    have F1 := D1.1
    have hne : ¬ (104 : Int32) ≤ nI u := by rw [L104, nI_leI (by omega) (by omega)]; omega
    have e76 := D1.2.1 u hu
    have e72 : hi g1 72 (6 * u) = hi g 72 (6 * u) := I1.ei _ (by decide) (by decide)
    have fr2 : FrM [73, 74, 77] [51] g1 (si (si g1 73 u (hi g 72 (6 * u))) 74 u (hi g 72 (6 * u))) := (FrM.row (by decide) (by decide)).trans (FrM.row (by decide) (by decide))
    have D2 := D1.fr fr2 (by decide) (by decide)
    have hold : ∀ g3, (∀ j, j ≠ u → hi g3 73 j = hi (si (si g1 73 u (hi g 72 (6 * u))) 74 u (hi g 72 (6 * u))) 73 j ∧ hi g3 74 j = hi (si (si g1 73 u (hi g 72 (6 * u))) 74 u (hi g 72 (6 * u))) 74 j) → ∀ j, j < u → hi g3 73 j = hi g1 73 j ∧ hi g3 74 j = hi g1 74 j := by
      intro g3 h3 j hj'
      obtain ⟨p, q⟩ := h3 j (by omega)
      rw [p, q]
      have hne : j ≠ u := by omega
      exact ⟨by rw [hi_row _ _ _ (by decide), hi_col 73 _ hne], by rw [hi_col 74 _ hne, hi_row _ _ _ (by decide)]⟩
    cases hl : ls u with
    | true =>
      obtain ⟨g3, y1, y2, y3, y4, y5⟩ := m_spread D2 hs hu hl hc
      rw [hl, if_pos rfl] at e76
      refine ⟨g3, ?_, (I1.trans fr2).trans y2, fun w hw => ?_⟩
      · simp only [f_X9_know_L241.eq_2]
        rw [if_neg hne]
        simp (disch := (first | assumption | (simp only [FX_si, FX_sj, FX_sr]; assumption) | omega | decide)) only [nI_60, nI_1, e72, e76, if_neg (by decide : ¬ (1 : Int32) = 0), y1, bd_some, b1_some, b2_some, b3_some, b4_some, c1_eq, elim_inl, elim_inr, zok0, zok1, getQ_si, getQ_sj, getQ_sr, q8_0, q8_1, q8_2, q8_4, q8_7, q8_8, q8_9, q8_10, q8_11, q9_0, q9_3, q9_4, q9_8, q17_0, q17_1, q17_2, q17_4, q17_5, q17_6, q17_9, q17_10, q17_11, q27_4, q27_5, q27_6, q27_7, q27_8, q27_11, q45_0, q45_1, q45_11, q45_12, q45_13, q45_14, q45_15, q45_16, q45_17, q45_18, q45_19, q45_20, q45_21, q45_22, q45_23, q45_24, q45_30, q45_31, q45_32, q45_33, q45_34, q45_35, q45_36, q45_37, q45_38, q45_39, q45_43, q45_44, q45_45, q45_46, q45_47, q45_48, q45_52, q45_53, q45_54, q45_59, q45_60, q45_61, q45_62, q45_65, q45_67, q45_68, gi8, gj8, pi8, pz8, pj8, rc8, gi9, gj9, pi9, pz9, pj9, rc9, gi17, gj17, pi17, pz17, pj17, rc17, gi27, gj27, pi27, pz27, pj27, rc27, gi45, gj45, pi45, pz45, pj45, rc45, aln_si, aln_sj, aln_sq, rc_si, rc_sj, rc_sq, n0, n1, n10, n11, n12, n13, n14, n15, n16, n18, n19, n20, n21, n22, n23, n24, n25, n26, n29, n30, n31, n32, n33, n34, n35, n36, n37, n38, n39, n40, n42, n43, n44, n46, n47, n48, n49, n50, n51, n52, n53, n54, n55, n56, n57, n58, n59, n60, n61, n62, n63, n64, n65, n66, n67, n68, n69, n70, n71, n72, n73, n74, n75, n76, n77, n78, n79, n80, n81, n82, n83, n84, n85, n86, n87, r0, r1, r10, r11, r12, r13, r14, r15, r16, r18, r19, r20, r21, r22, r23, r24, r25, r26, r29, r30, r31, r32, r33, r34, r35, r36, r37, r38, r39, r40, r42, r43, r44, r46, r47, r48, r49, r50, r51, r52, r53, r54, r55, r56, r57, r58, r59, r60, r61, r62, r63, r64, r65, r66, r67, r68, r69, r70, r71, r72, r73, r74, r75, r76, r77, r78, r79, r80, r81, r82, r83, r84, r85, r86, r87, w10, w11, w12, w13, w18, w19, w20, w21, w22, w23, w24, w25, w26, w30, w31, w32, w33, w34, w35, w36, w38, w39, w40, w43, w44, w46, w47, w48, w49, w50, w51, w52, w53, w54, w55, w56, w57, w58, w59, w60, w61, w62, w63, w64, w65, w66, w67, w68, w69, w70, w71, w72, w73, w74, w75, w76, w77, w78, w79, w80, w81, w82, w83, w84, w85, w86, w87, hi_hit, hi_row, hi_col, hj_hit, hj_row, hj_col, hi_sj, hj_si, hq_si, hq_sj, hi_sq, hj_sq, hi_srh, hi_srm]
      · rcases Nat.lt_or_ge w u with q | q
        · obtain ⟨p1, p2⟩ := hold g3 y3 w q
          rw [p1, p2]
          exact I2 w q
        · obtain rfl : w = u := by omega
          rw [if_pos hl]
          exact ⟨y4, y5⟩
    | false =>
      rw [hl, if_neg (by decide)] at e76
      refine ⟨si (si g1 73 u (hi g 72 (6 * u))) 74 u (hi g 72 (6 * u)), ?_, I1.trans fr2, fun w hw => ?_⟩
      · simp only [f_X9_know_L241.eq_2]
        rw [if_neg hne]
        simp (disch := (first | assumption | (simp only [FX_si, FX_sj, FX_sr]; assumption) | omega | decide)) only [nI_60, nI_1, e72, e76, ↓reduceIte, if_true, if_false, i10, i01, eq_self, bd_some, b1_some, b2_some, b3_some, b4_some, c1_eq, elim_inl, elim_inr, zok0, zok1, getQ_si, getQ_sj, getQ_sr, q8_0, q8_1, q8_2, q8_4, q8_7, q8_8, q8_9, q8_10, q8_11, q9_0, q9_3, q9_4, q9_8, q17_0, q17_1, q17_2, q17_4, q17_5, q17_6, q17_9, q17_10, q17_11, q27_4, q27_5, q27_6, q27_7, q27_8, q27_11, q45_0, q45_1, q45_11, q45_12, q45_13, q45_14, q45_15, q45_16, q45_17, q45_18, q45_19, q45_20, q45_21, q45_22, q45_23, q45_24, q45_30, q45_31, q45_32, q45_33, q45_34, q45_35, q45_36, q45_37, q45_38, q45_39, q45_43, q45_44, q45_45, q45_46, q45_47, q45_48, q45_52, q45_53, q45_54, q45_59, q45_60, q45_61, q45_62, q45_65, q45_67, q45_68, gi8, gj8, pi8, pz8, pj8, rc8, gi9, gj9, pi9, pz9, pj9, rc9, gi17, gj17, pi17, pz17, pj17, rc17, gi27, gj27, pi27, pz27, pj27, rc27, gi45, gj45, pi45, pz45, pj45, rc45, aln_si, aln_sj, aln_sq, rc_si, rc_sj, rc_sq, n0, n1, n10, n11, n12, n13, n14, n15, n16, n18, n19, n20, n21, n22, n23, n24, n25, n26, n29, n30, n31, n32, n33, n34, n35, n36, n37, n38, n39, n40, n42, n43, n44, n46, n47, n48, n49, n50, n51, n52, n53, n54, n55, n56, n57, n58, n59, n60, n61, n62, n63, n64, n65, n66, n67, n68, n69, n70, n71, n72, n73, n74, n75, n76, n77, n78, n79, n80, n81, n82, n83, n84, n85, n86, n87, r0, r1, r10, r11, r12, r13, r14, r15, r16, r18, r19, r20, r21, r22, r23, r24, r25, r26, r29, r30, r31, r32, r33, r34, r35, r36, r37, r38, r39, r40, r42, r43, r44, r46, r47, r48, r49, r50, r51, r52, r53, r54, r55, r56, r57, r58, r59, r60, r61, r62, r63, r64, r65, r66, r67, r68, r69, r70, r71, r72, r73, r74, r75, r76, r77, r78, r79, r80, r81, r82, r83, r84, r85, r86, r87, w10, w11, w12, w13, w18, w19, w20, w21, w22, w23, w24, w25, w26, w30, w31, w32, w33, w34, w35, w36, w38, w39, w40, w43, w44, w46, w47, w48, w49, w50, w51, w52, w53, w54, w55, w56, w57, w58, w59, w60, w61, w62, w63, w64, w65, w66, w67, w68, w69, w70, w71, w72, w73, w74, w75, w76, w77, w78, w79, w80, w81, w82, w83, w84, w85, w86, w87, hi_hit, hi_row, hi_col, hj_hit, hj_row, hj_col, hi_sj, hj_si, hq_si, hq_sj, hi_sq, hj_sq, hi_srh, hi_srm]
      · rcases Nat.lt_or_ge w u with q | q
        · obtain ⟨p1, p2⟩ := hold _ (fun _ _ => ⟨rfl, rfl⟩) w q
          rw [p1, p2]
          exact I2 w q
        · obtain rfl : w = u := by omega
          rw [if_neg (by rw [hl]; decide)]
          exact ⟨by rw [hi_row _ _ _ (by decide), hi_hit], hi_hit _ _ _⟩
end Sq
