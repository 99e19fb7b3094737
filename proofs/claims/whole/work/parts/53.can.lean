/-! What the model's lowering finds: whether there is a way, and the greatest differences. -/
def CAN (ls : Nat → Bool) (T : Nat → Int) (bA bE : Nat → Nat) (bT : Nat → Int) (bc : Nat) (out : Nat → Bool) : Prop := ∃ S, WAY ls T bA bE bT bc out S
/-- the greatest difference of two places, over all ways -/
def MXD (ls : Nat → Bool) (T : Nat → Int) (bA bE : Nat → Nat) (bT : Nat → Int) (bc : Nat) (out : Nat → Bool) (u v : Nat) (z : Int) : Prop :=
  (∃ S, WAY ls T bA bE bT bc out S ∧ S v - S u = z) ∧ ∀ S, WAY ls T bA bE bT bc out S → S v - S u ≤ z
theorem st_shift {es : List Ed} {x : Nat → Int} (c : Int) (hs : St' es x) : St' es (fun v => x v + c) := fun e he => by
  have := hs e he
  simp only
  omega
theorem rds_stab {B : Int} {es : List Ed} {f : Nat → Int} {i : Nat} (hr : rds B es f (i + 1) = rds B es f i) : ∀ k, i ≤ k → rds B es f k = rds B es f i := by
  intro k
  induction k with
  | zero => intro h; rw [Nat.le_zero.mp h]
  | succ k ih =>
    intro h
    rcases Nat.lt_or_ge k i with q | q
    · rw [show k + 1 = i by omega]
    · show rd B es (rds B es f k) = _
      rw [ih q]
      exact hr
theorem WAY_bd {ls : Nat → Bool} {T : Nat → Int} {bA bE : Nat → Nat} {bT : Nat → Int} {bc : Nat} {out : Nat → Bool} {S : Nat → Int} (hT : ∀ w, w < 104 → 0 ≤ T w ∧ T w ≤ 50000) (hw : WAY ls T bA bE bT bc out S) (u : Nat) : ∀ n, u + n ≤ 104 → S u ≤ S (u + n) ∧ S (u + n) ≤ S u + 50000 * n := by
  intro n
  induction n with
  | zero => intro _; exact ⟨Int.le_refl _, by simp⟩
  | succ n ih =>
    intro h
    have h1 := ih (by omega)
    have h2 := hw.1 (u + n) (by omega)
    have h3 := hT (u + n) (by omega)
    rw [← Nat.add_assoc]
    split at h2 <;> omega
theorem WAY_bd2 {ls : Nat → Bool} {T : Nat → Int} {bA bE : Nat → Nat} {bT : Nat → Int} {bc : Nat} {out : Nat → Bool} {S : Nat → Int} (hT : ∀ w, w < 104 → 0 ≤ T w ∧ T w ≤ 50000) (hw : WAY ls T bA bE bT bc out S) {u v : Nat} (hu : u < 105) (hv : v < 105) : S v ≤ S u + 5200000 := by
  rcases Nat.le_total u v with q | q
  · have := (WAY_bd hT hw u (v - u) (by omega)).2
    rw [show u + (v - u) = v by omega] at this
    omega
  · have := (WAY_bd hT hw v (u - v) (by omega)).1
    rw [show v + (u - v) = u by omega] at this
    omega
section Ch
variable {g : Hp} {ls : Nat → Bool} {T : Nat → Int} {bc : Nat} {bA bE : Nat → Nat} {bT : Nat → Int}
theorem es_in (D : DX g ls T bc bA bE bT) (out : Nat → Bool) : ∀ e ∈ WE ls T 104 ++ BE bA bE bT out bc, e.1 < 105 ∧ e.2.1 < 105 := by
  intro e he
  rcases List.mem_append.mp he with q | q
  · exact WE_in ls T 104 e q
  · refine BE_in bA bE bT out bc (fun b hb => ?_) e q
    obtain ⟨f, e, h1, h2, h3, h4, h5, h6, h7, h8, -⟩ := D.2.2.2.2.2 b hb
    exact ⟨h8, by omega⟩
theorem m_canHold28 (D : DX g ls T bc bA bE bT) {s : Nat} (hs : s < 2 ^ 31) (z : ∀ j, j < 105 → hj g 77 j = 0) (fl : hi g 45 51 = 1) :
    ∃ g', f_X9_canHold_L28 fu 45 (nI s) 0 g = some g' ∧ FrM [77] [51] g g' ∧ ((hi g' 45 51 = 0 ∧ CAN ls T bA bE bT bc (btB s)) ∨ (hi g' 45 51 = 1 ∧ ¬ CAN ls T bA bE bT bc (btB s))) := by
  have hN := es_in D (btB s)
  have hway := fun S => WAY_st ls T bA bE bT bc (btB s) S
  have z01 : (0 : Int32) = 0 ∨ (0 : Int32) = 1 := Or.inl rfl
  have hda := fun (g' : Hp) (D' : DX g' ls T bc bA bE bT) (R : Nat → Int) (M : Int) => @m_drawAll g' ls T bc bA bE bT D' s hs R M
  generalize hes : WE ls T 104 ++ BE bA bE bT (btB s) bc = es at hN hway hda
  have good : ∀ i, rds 1000000000 es (fun _ => 0) (i + 1) = rds 1000000000 es (fun _ => 0) i → CAN ls T bA bE bT bc (btB s) := by
    intro i hr
    refine ⟨rds 1000000000 es (fun _ => 0) i, (hway _).mp (rd_rest (B := 1000000000) (fun v => congrFun hr v) fun e he => ?_)⟩
    have := rds_le 1000000000 es (fun _ => 0) i e.1
    omega
  refine forN (fun n v g => f_X9_canHold_L28 n 45 (nI s) v g) 106 (by omega)
    (fun i g' => FrM [77] [51] g g' ∧ SMP g' (rds 1000000000 es (fun _ => 0) i) (300000000 * i) ∧ ((hi g' 45 51 = 1 ∧ (∀ m, i = m + 1 → ∃ j, rds 1000000000 es (fun _ => 0) i j < rds 1000000000 es (fun _ => 0) m j)) ∨ (hi g' 45 51 = 0 ∧ ∃ m, i = m + 1 ∧ rds 1000000000 es (fun _ => 0) i = rds 1000000000 es (fun _ => 0) m)))
    (fun g' => FrM [77] [51] g g' ∧ ((hi g' 45 51 = 0 ∧ CAN ls T bA bE bT bc (btB s)) ∨ (hi g' 45 51 = 1 ∧ ¬ CAN ls T bA bE bT bc (btB s)))) ?_ ?_ (i0 := 0) (Nat.zero_le _) ⟨FrM.rfl, fun j hj' => by rw [z j hj']; exact ⟨rfl, by simp [rds], by simp [rds]⟩, Or.inl ⟨fl, fun m hm => absurd hm (by omega)⟩⟩
  · rintro n g' ⟨I1, I2, I3⟩
    refine ⟨g', by simp only [f_X9_canHold_L28.eq_2]; rw [if_pos (by decide)], I1, ?_⟩
    rcases I3 with ⟨a, b⟩ | ⟨a, m, b, c⟩
    · refine Or.inr ⟨a, ?_⟩
      rintro ⟨S, hS⟩
      obtain ⟨C, hC⟩ := bd_ex S 105
      have h1 := st_shift (-C) ((hway S).mpr hS)
      obtain ⟨d, -, h2, -⟩ := settle (B := 1000000000) (f := fun _ => 0) hN h1 (fun v hv => by have := hC v hv; show S v + -C ≤ 0; omega) (fun y _ hy v _ => by have := hy v; omega)
      obtain ⟨j, hj'⟩ := b 105 rfl
      have h3 := h2 j
      have h4 : rds 1000000000 es (fun _ => 0) 106 j = rd 1000000000 es (rds 1000000000 es (fun _ => 0) 105) j := rfl
      omega
    · cases b
      exact Or.inl ⟨a, good 105 c⟩
  · rintro n i g1 hi' ⟨I1, I2, I3⟩
    have D1 := D.fr I1 (by decide) (by decide)
    have F1 := D1.1
    have hne : ¬ (105 : Int32) < nI i := by rw [L105, nI_ltI (by omega) (by omega)]; omega
    rcases I3 with ⟨a, b⟩ | ⟨a, m, b, c⟩
    · right
      have F2 : FX (si g1 45 51 0) := F1
      have fr2 : FrM [77] [51] g1 (si g1 45 51 0) := FrM.fld (by decide)
      obtain ⟨g2, y1, y2, y3, y4⟩ := hda (si g1 45 51 0) (D1.fr fr2 (by decide) (by decide)) (rds 1000000000 es (fun _ => 0) i) (300000000 * i) I2 (by omega) (by omega) (hi_hit _ _ _)
      refine ⟨g2, ?_, (I1.trans fr2).trans y2, ?_, ?_⟩
      · simp only [f_X9_canHold_L28.eq_2]
        rw [if_neg hne]
        simp (disch := (first | assumption | (simp only [FX_si, FX_sj, FX_sr]; assumption) | omega | decide)) only [a, nI_1, if_neg (by decide : ¬ (1 : Int32) = 0), y1, bd_some, b1_some, b2_some, b3_some, b4_some, c1_eq, elim_inl, elim_inr, zok0, zok1, getQ_si, getQ_sj, getQ_sr, q8_0, q8_1, q8_2, q8_4, q8_7, q8_8, q8_9, q8_10, q8_11, q9_0, q9_3, q9_4, q9_8, q17_0, q17_1, q17_2, q17_4, q17_5, q17_6, q17_9, q17_10, q17_11, q27_4, q27_5, q27_6, q27_7, q27_8, q27_11, q45_0, q45_1, q45_11, q45_12, q45_13, q45_14, q45_15, q45_16, q45_17, q45_18, q45_19, q45_20, q45_21, q45_22, q45_23, q45_24, q45_30, q45_31, q45_32, q45_33, q45_34, q45_35, q45_36, q45_37, q45_38, q45_39, q45_43, q45_44, q45_45, q45_46, q45_47, q45_48, q45_52, q45_53, q45_54, q45_59, q45_60, q45_61, q45_62, q45_65, q45_67, q45_68, gi8, gj8, pi8, pz8, pj8, rc8, gi9, gj9, pi9, pz9, pj9, rc9, gi17, gj17, pi17, pz17, pj17, rc17, gi27, gj27, pi27, pz27, pj27, rc27, gi45, gj45, pi45, pz45, pj45, rc45, aln_si, aln_sj, aln_sq, rc_si, rc_sj, rc_sq, n0, n1, n10, n11, n12, n13, n14, n15, n16, n18, n19, n20, n21, n22, n23, n24, n25, n26, n29, n30, n31, n32, n33, n34, n35, n36, n37, n38, n39, n40, n42, n43, n44, n46, n47, n48, n49, n50, n51, n52, n53, n54, n55, n56, n57, n58, n59, n60, n61, n62, n63, n64, n65, n66, n67, n68, n69, n70, n71, n72, n73, n74, n75, n76, n77, n78, n79, n80, n81, n82, n83, n84, n85, n86, n87, r0, r1, r10, r11, r12, r13, r14, r15, r16, r18, r19, r20, r21, r22, r23, r24, r25, r26, r29, r30, r31, r32, r33, r34, r35, r36, r37, r38, r39, r40, r42, r43, r44, r46, r47, r48, r49, r50, r51, r52, r53, r54, r55, r56, r57, r58, r59, r60, r61, r62, r63, r64, r65, r66, r67, r68, r69, r70, r71, r72, r73, r74, r75, r76, r77, r78, r79, r80, r81, r82, r83, r84, r85, r86, r87, w10, w11, w12, w13, w18, w19, w20, w21, w22, w23, w24, w25, w26, w30, w31, w32, w33, w34, w35, w36, w38, w39, w40, w43, w44, w46, w47, w48, w49, w50, w51, w52, w53, w54, w55, w56, w57, w58, w59, w60, w61, w62, w63, w64, w65, w66, w67, w68, w69, w70, w71, w72, w73, w74, w75, w76, w77, w78, w79, w80, w81, w82, w83, w84, w85, w86, w87, hi_hit, hi_row, hi_col, hj_hit, hj_row, hj_col, hi_sj, hj_si, hq_si, hq_sj, hi_sq, hj_sq, hi_srh, hi_srm]
      · intro j hj'
        have := y3 j hj'
        refine ⟨this.1, ?_, this.2.2⟩
        have h2 := this.2.1
        show _ ≤ rd 1000000000 es (rds 1000000000 es (fun _ => 0) i) j
        omega
      · rcases y4 with ⟨p, q⟩ | ⟨p, -, j, hj', q⟩
        · exact Or.inr ⟨p, i, rfl, q⟩
        · refine Or.inl ⟨p, fun m hm => ?_⟩
          obtain rfl : i = m := by omega
          exact ⟨j, q⟩
    · left
      refine ⟨g1, ?_, I1, Or.inl ⟨a, ?_⟩⟩
      · simp only [f_X9_canHold_L28.eq_2]
        rw [if_neg hne]
        simp (disch := (first | assumption | (simp only [FX_si, FX_sj, FX_sr]; assumption) | omega | decide)) only [a, ↓reduceIte, if_true, if_false, i10, i01, eq_self, bd_some, b1_some, b2_some, b3_some, b4_some, c1_eq, elim_inl, elim_inr, zok0, zok1, getQ_si, getQ_sj, getQ_sr, q8_0, q8_1, q8_2, q8_4, q8_7, q8_8, q8_9, q8_10, q8_11, q9_0, q9_3, q9_4, q9_8, q17_0, q17_1, q17_2, q17_4, q17_5, q17_6, q17_9, q17_10, q17_11, q27_4, q27_5, q27_6, q27_7, q27_8, q27_11, q45_0, q45_1, q45_11, q45_12, q45_13, q45_14, q45_15, q45_16, q45_17, q45_18, q45_19, q45_20, q45_21, q45_22, q45_23, q45_24, q45_30, q45_31, q45_32, q45_33, q45_34, q45_35, q45_36, q45_37, q45_38, q45_39, q45_43, q45_44, q45_45, q45_46, q45_47, q45_48, q45_52, q45_53, q45_54, q45_59, q45_60, q45_61, q45_62, q45_65, q45_67, q45_68, gi8, gj8, pi8, pz8, pj8, rc8, gi9, gj9, pi9, pz9, pj9, rc9, gi17, gj17, pi17, pz17, pj17, rc17, gi27, gj27, pi27, pz27, pj27, rc27, gi45, gj45, pi45, pz45, pj45, rc45, aln_si, aln_sj, aln_sq, rc_si, rc_sj, rc_sq, n0, n1, n10, n11, n12, n13, n14, n15, n16, n18, n19, n20, n21, n22, n23, n24, n25, n26, n29, n30, n31, n32, n33, n34, n35, n36, n37, n38, n39, n40, n42, n43, n44, n46, n47, n48, n49, n50, n51, n52, n53, n54, n55, n56, n57, n58, n59, n60, n61, n62, n63, n64, n65, n66, n67, n68, n69, n70, n71, n72, n73, n74, n75, n76, n77, n78, n79, n80, n81, n82, n83, n84, n85, n86, n87, r0, r1, r10, r11, r12, r13, r14, r15, r16, r18, r19, r20, r21, r22, r23, r24, r25, r26, r29, r30, r31, r32, r33, r34, r35, r36, r37, r38, r39, r40, r42, r43, r44, r46, r47, r48, r49, r50, r51, r52, r53, r54, r55, r56, r57, r58, r59, r60, r61, r62, r63, r64, r65, r66, r67, r68, r69, r70, r71, r72, r73, r74, r75, r76, r77, r78, r79, r80, r81, r82, r83, r84, r85, r86, r87, w10, w11, w12, w13, w18, w19, w20, w21, w22, w23, w24, w25, w26, w30, w31, w32, w33, w34, w35, w36, w38, w39, w40, w43, w44, w46, w47, w48, w49, w50, w51, w52, w53, w54, w55, w56, w57, w58, w59, w60, w61, w62, w63, w64, w65, w66, w67, w68, w69, w70, w71, w72, w73, w74, w75, w76, w77, w78, w79, w80, w81, w82, w83, w84, w85, w86, w87, hi_hit, hi_row, hi_col, hj_hit, hj_row, hj_col, hi_sj, hj_si, hq_si, hq_sj, hi_sq, hj_sq, hi_srh, hi_srm]
      · subst b
        exact good m c
theorem m_canHold (D : DX g ls T bc bA bE bT) {s : Nat} (hs : s < 2 ^ 31) :
    ∃ g' r, f_X9_canHold 45 (nI s) g = some (r, g') ∧ FrM [77] [51] g g' ∧ ((r = 1 ∧ CAN ls T bA bE bT bc (btB s)) ∨ (r = 0 ∧ ¬ CAN ls T bA bE bT bc (btB s))) := by
  obtain ⟨g1, a1, a2, a3⟩ := m_canHold2 D.1 (nI s)
  have a2' : FrM [77] [51] g g1 := a2.wk (by decide) (by decide)
  have F1 := a2'.fx D.1
  have fr2 : FrM [77] [51] g1 (si g1 45 51 1) := FrM.fld (by decide)
  have D2 := (D.fr a2' (by decide) (by decide)).fr fr2 (by decide) (by decide)
  have z01 : (1 : Int32) = 0 ∨ (1 : Int32) = 1 := Or.inr rfl
  obtain ⟨g3, b1', b2', b3'⟩ := m_canHold28 D2 hs (fun j hj' => (hj_si _ _ _ _ _).trans (a3 j hj')) (hi_hit _ _ _)
  have F3 := b2'.fx D2.1
  rcases b3' with ⟨e, c⟩ | ⟨e, c⟩
  · refine ⟨g3, 1, ?_, (a2'.trans fr2).trans b2', Or.inl ⟨rfl, c⟩⟩
    unfold f_X9_canHold
    rw [a1, bd_some]
    simp (disch := (first | assumption | (simp only [FX_si, FX_sj, FX_sr]; assumption) | omega | decide)) only [b1', e, ↓reduceIte, if_true, if_false, i10, i01, eq_self, bd_some, b1_some, b2_some, b3_some, b4_some, c1_eq, elim_inl, elim_inr, zok0, zok1, getQ_si, getQ_sj, getQ_sr, q8_0, q8_1, q8_2, q8_4, q8_7, q8_8, q8_9, q8_10, q8_11, q9_0, q9_3, q9_4, q9_8, q17_0, q17_1, q17_2, q17_4, q17_5, q17_6, q17_9, q17_10, q17_11, q27_4, q27_5, q27_6, q27_7, q27_8, q27_11, q45_0, q45_1, q45_11, q45_12, q45_13, q45_14, q45_15, q45_16, q45_17, q45_18, q45_19, q45_20, q45_21, q45_22, q45_23, q45_24, q45_30, q45_31, q45_32, q45_33, q45_34, q45_35, q45_36, q45_37, q45_38, q45_39, q45_43, q45_44, q45_45, q45_46, q45_47, q45_48, q45_52, q45_53, q45_54, q45_59, q45_60, q45_61, q45_62, q45_65, q45_67, q45_68, gi8, gj8, pi8, pz8, pj8, rc8, gi9, gj9, pi9, pz9, pj9, rc9, gi17, gj17, pi17, pz17, pj17, rc17, gi27, gj27, pi27, pz27, pj27, rc27, gi45, gj45, pi45, pz45, pj45, rc45, aln_si, aln_sj, aln_sq, rc_si, rc_sj, rc_sq, n0, n1, n10, n11, n12, n13, n14, n15, n16, n18, n19, n20, n21, n22, n23, n24, n25, n26, n29, n30, n31, n32, n33, n34, n35, n36, n37, n38, n39, n40, n42, n43, n44, n46, n47, n48, n49, n50, n51, n52, n53, n54, n55, n56, n57, n58, n59, n60, n61, n62, n63, n64, n65, n66, n67, n68, n69, n70, n71, n72, n73, n74, n75, n76, n77, n78, n79, n80, n81, n82, n83, n84, n85, n86, n87, r0, r1, r10, r11, r12, r13, r14, r15, r16, r18, r19, r20, r21, r22, r23, r24, r25, r26, r29, r30, r31, r32, r33, r34, r35, r36, r37, r38, r39, r40, r42, r43, r44, r46, r47, r48, r49, r50, r51, r52, r53, r54, r55, r56, r57, r58, r59, r60, r61, r62, r63, r64, r65, r66, r67, r68, r69, r70, r71, r72, r73, r74, r75, r76, r77, r78, r79, r80, r81, r82, r83, r84, r85, r86, r87, w10, w11, w12, w13, w18, w19, w20, w21, w22, w23, w24, w25, w26, w30, w31, w32, w33, w34, w35, w36, w38, w39, w40, w43, w44, w46, w47, w48, w49, w50, w51, w52, w53, w54, w55, w56, w57, w58, w59, w60, w61, w62, w63, w64, w65, w66, w67, w68, w69, w70, w71, w72, w73, w74, w75, w76, w77, w78, w79, w80, w81, w82, w83, w84, w85, w86, w87, hi_hit, hi_row, hi_col, hj_hit, hj_row, hj_col, hi_sj, hj_si, hq_si, hq_sj, hi_sq, hj_sq, hi_srh, hi_srm]
  · refine ⟨g3, 0, ?_, (a2'.trans fr2).trans b2', Or.inr ⟨rfl, c⟩⟩
    unfold f_X9_canHold
    rw [a1, bd_some]
    simp (disch := (first | assumption | (simp only [FX_si, FX_sj, FX_sr]; assumption) | omega | decide)) only [b1', e, ↓reduceIte, if_true, if_false, i10, i01, eq_self, bd_some, b1_some, b2_some, b3_some, b4_some, c1_eq, elim_inl, elim_inr, zok0, zok1, getQ_si, getQ_sj, getQ_sr, q8_0, q8_1, q8_2, q8_4, q8_7, q8_8, q8_9, q8_10, q8_11, q9_0, q9_3, q9_4, q9_8, q17_0, q17_1, q17_2, q17_4, q17_5, q17_6, q17_9, q17_10, q17_11, q27_4, q27_5, q27_6, q27_7, q27_8, q27_11, q45_0, q45_1, q45_11, q45_12, q45_13, q45_14, q45_15, q45_16, q45_17, q45_18, q45_19, q45_20, q45_21, q45_22, q45_23, q45_24, q45_30, q45_31, q45_32, q45_33, q45_34, q45_35, q45_36, q45_37, q45_38, q45_39, q45_43, q45_44, q45_45, q45_46, q45_47, q45_48, q45_52, q45_53, q45_54, q45_59, q45_60, q45_61, q45_62, q45_65, q45_67, q45_68, gi8, gj8, pi8, pz8, pj8, rc8, gi9, gj9, pi9, pz9, pj9, rc9, gi17, gj17, pi17, pz17, pj17, rc17, gi27, gj27, pi27, pz27, pj27, rc27, gi45, gj45, pi45, pz45, pj45, rc45, aln_si, aln_sj, aln_sq, rc_si, rc_sj, rc_sq, n0, n1, n10, n11, n12, n13, n14, n15, n16, n18, n19, n20, n21, n22, n23, n24, n25, n26, n29, n30, n31, n32, n33, n34, n35, n36, n37, n38, n39, n40, n42, n43, n44, n46, n47, n48, n49, n50, n51, n52, n53, n54, n55, n56, n57, n58, n59, n60, n61, n62, n63, n64, n65, n66, n67, n68, n69, n70, n71, n72, n73, n74, n75, n76, n77, n78, n79, n80, n81, n82, n83, n84, n85, n86, n87, r0, r1, r10, r11, r12, r13, r14, r15, r16, r18, r19, r20, r21, r22, r23, r24, r25, r26, r29, r30, r31, r32, r33, r34, r35, r36, r37, r38, r39, r40, r42, r43, r44, r46, r47, r48, r49, r50, r51, r52, r53, r54, r55, r56, r57, r58, r59, r60, r61, r62, r63, r64, r65, r66, r67, r68, r69, r70, r71, r72, r73, r74, r75, r76, r77, r78, r79, r80, r81, r82, r83, r84, r85, r86, r87, w10, w11, w12, w13, w18, w19, w20, w21, w22, w23, w24, w25, w26, w30, w31, w32, w33, w34, w35, w36, w38, w39, w40, w43, w44, w46, w47, w48, w49, w50, w51, w52, w53, w54, w55, w56, w57, w58, w59, w60, w61, w62, w63, w64, w65, w66, w67, w68, w69, w70, w71, w72, w73, w74, w75, w76, w77, w78, w79, w80, w81, w82, w83, w84, w85, w86, w87, hi_hit, hi_row, hi_col, hj_hit, hj_row, hj_col, hi_sj, hj_si, hq_si, hq_sj, hi_sq, hj_sq, hi_srh, hi_srm]
theorem m_most41 (D : DX g ls T bc bA bE bT) {s u : Nat} (hs : s < 2 ^ 31) (hu : u < 105) (v2 : Int32) (z : ∀ j, j < 105 → (hj g 77 j).toInt = if j = u then 0 else 1000000000) (fl : hi g 45 51 = 1) (hc : CAN ls T bA bE bT bc (btB s)) :
    ∃ g', f_X9_most_L41 fu 45 v2 (nI s) g = some g' ∧ FrM [77] [51] g g' ∧ ∀ v, v < 105 → MXD ls T bA bE bT bc (btB s) u v (hj g' 77 v).toInt := by
  have hN := es_in D (btB s)
  have hway := fun S => WAY_st ls T bA bE bT bc (btB s) S
  have hT : ∀ w, w < 104 → 0 ≤ T w ∧ T w ≤ 50000 := fun w hw => ⟨(D.2.2.1 w hw).1, (D.2.2.1 w hw).2.1⟩
  have z01 : (0 : Int32) = 0 ∨ (0 : Int32) = 1 := Or.inl rfl
  have hda := fun (g' : Hp) (D' : DX g' ls T bc bA bE bT) (R : Nat → Int) (M : Int) => @m_drawAll g' ls T bc bA bE bT D' s hs R M
  generalize hes : WE ls T 104 ++ BE bA bE bT (btB s) bc = es at hN hway hda
  obtain ⟨f, hf⟩ : ∃ f : Nat → Int, f = fun j => if j = u then 0 else 1000000000 := ⟨_, rfl⟩
  have fu0 : f u = 0 := by rw [hf]; simp
  have fle : ∀ v, v ≠ u → f v = 1000000000 := fun v hv => by rw [hf]; simp [hv]
  have below : ∀ S, WAY ls T bA bE bT bc (btB s) S → St' es (fun v => S v + -S u) ∧ ∀ v, v < 105 → S v + -S u ≤ f v := by
    intro S hS
    refine ⟨st_shift _ ((hway S).mpr hS), fun v hv => ?_⟩
    by_cases q : v = u
    · subst q; rw [fu0]; omega
    · rw [fle v q]; have := WAY_bd2 hT hS hu hv; omega
  obtain ⟨S0, hS0⟩ := hc
  obtain ⟨d, d1, d2, d3, d4, d5⟩ := settle (B := 1000000000) (f := f) hN (below S0 hS0).1 (below S0 hS0).2 (fun y hy1 hy2 v hv => by
    have := WAY_bd2 hT ((hway y).mp hy1) hu hv
    have := hy2 u
    rw [fu0] at this
    omega)
  have du : d u = 0 := by
    have a := d4 u
    have b := d5 _ (below S0 hS0).1 (below S0 hS0).2 u hu
    rw [fu0] at a
    omega
  have fin : ∀ v, v < 105 → MXD ls T bA bE bT bc (btB s) u v (d v) := by
    intro v hv
    refine ⟨⟨d, (hway d).mp d3, by rw [du]; omega⟩, fun S hS => ?_⟩
    have := d5 _ (below S hS).1 (below S hS).2 v hv
    omega
  have rest105 : rds 1000000000 es f 106 = rds 1000000000 es f 105 := funext d2
  refine whl (fun n (p : Nat × Hp) => f_X9_most_L41 n 45 v2 (nI s) p.2) (fun p => 107 - p.1)
    (fun p => p.1 ≤ 106 ∧ FrM [77] [51] g p.2 ∧ SMP p.2 (rds 1000000000 es f p.1) (300000000 * p.1) ∧ ((hi p.2 45 51 = 1 ∧ (∀ m, p.1 = m + 1 → ∃ j, rds 1000000000 es f p.1 j < rds 1000000000 es f m j)) ∨ (hi p.2 45 51 = 0 ∧ ∃ m, p.1 = m + 1 ∧ rds 1000000000 es f p.1 = rds 1000000000 es f m)))
    (fun g' => FrM [77] [51] g g' ∧ ∀ v, v < 105 → MXD ls T bA bE bT bc (btB s) u v (hj g' 77 v).toInt) ?_ fu (0, g)
    ⟨Nat.zero_le _, FrM.rfl, fun j hj' => by
      rw [z j hj']
      show (if j = u then (0 : Int) else 1000000000) = f j ∧ _ ≤ f j ∧ f j ≤ _
      by_cases q : j = u
      · subst q; rw [fu0, if_pos rfl]; simp
      · rw [fle j q, if_neg q]; simp, Or.inl ⟨fl, fun m hm => absurd hm (by omega)⟩⟩ (fu_gt (by show 107 - 0 ≤ _; omega))
  · rintro n ⟨i, g1⟩ ⟨I0, I1, I2, I3⟩
    simp only at I0 I1 I2 I3
    have D1 := D.fr I1 (by decide) (by decide)
    have F1 := D1.1
    rcases I3 with ⟨a, b⟩ | ⟨a, m, b, c⟩
    · right
      have hi105 : i ≤ 105 := by
        rcases Nat.lt_or_ge 105 i with q | q
        · obtain rfl : i = 106 := by omega
          obtain ⟨j, hj'⟩ := b 105 rfl
          have := congrFun rest105 j
          omega
        · exact q
      have F2 : FX (si g1 45 51 0) := F1
      have fr2 : FrM [77] [51] g1 (si g1 45 51 0) := FrM.fld (by decide)
      obtain ⟨g2, y1, y2, y3, y4⟩ := hda (si g1 45 51 0) (D1.fr fr2 (by decide) (by decide)) (rds 1000000000 es f i) (300000000 * i) I2 (by omega) (by omega) (hi_hit _ _ _)
      refine ⟨(i + 1, g2), ?_, ⟨by simp only; omega, (I1.trans fr2).trans y2, ?_, ?_⟩, by simp only; omega⟩
      · simp only [f_X9_most_L41.eq_2]
        simp (disch := (first | assumption | (simp only [FX_si, FX_sj, FX_sr]; assumption) | omega | decide)) only [a, if_neg (by decide : ¬ (1 : Int32) = 0), y1, bd_some, b1_some, b2_some, b3_some, b4_some, c1_eq, elim_inl, elim_inr, zok0, zok1, getQ_si, getQ_sj, getQ_sr, q8_0, q8_1, q8_2, q8_4, q8_7, q8_8, q8_9, q8_10, q8_11, q9_0, q9_3, q9_4, q9_8, q17_0, q17_1, q17_2, q17_4, q17_5, q17_6, q17_9, q17_10, q17_11, q27_4, q27_5, q27_6, q27_7, q27_8, q27_11, q45_0, q45_1, q45_11, q45_12, q45_13, q45_14, q45_15, q45_16, q45_17, q45_18, q45_19, q45_20, q45_21, q45_22, q45_23, q45_24, q45_30, q45_31, q45_32, q45_33, q45_34, q45_35, q45_36, q45_37, q45_38, q45_39, q45_43, q45_44, q45_45, q45_46, q45_47, q45_48, q45_52, q45_53, q45_54, q45_59, q45_60, q45_61, q45_62, q45_65, q45_67, q45_68, gi8, gj8, pi8, pz8, pj8, rc8, gi9, gj9, pi9, pz9, pj9, rc9, gi17, gj17, pi17, pz17, pj17, rc17, gi27, gj27, pi27, pz27, pj27, rc27, gi45, gj45, pi45, pz45, pj45, rc45, aln_si, aln_sj, aln_sq, rc_si, rc_sj, rc_sq, n0, n1, n10, n11, n12, n13, n14, n15, n16, n18, n19, n20, n21, n22, n23, n24, n25, n26, n29, n30, n31, n32, n33, n34, n35, n36, n37, n38, n39, n40, n42, n43, n44, n46, n47, n48, n49, n50, n51, n52, n53, n54, n55, n56, n57, n58, n59, n60, n61, n62, n63, n64, n65, n66, n67, n68, n69, n70, n71, n72, n73, n74, n75, n76, n77, n78, n79, n80, n81, n82, n83, n84, n85, n86, n87, r0, r1, r10, r11, r12, r13, r14, r15, r16, r18, r19, r20, r21, r22, r23, r24, r25, r26, r29, r30, r31, r32, r33, r34, r35, r36, r37, r38, r39, r40, r42, r43, r44, r46, r47, r48, r49, r50, r51, r52, r53, r54, r55, r56, r57, r58, r59, r60, r61, r62, r63, r64, r65, r66, r67, r68, r69, r70, r71, r72, r73, r74, r75, r76, r77, r78, r79, r80, r81, r82, r83, r84, r85, r86, r87, w10, w11, w12, w13, w18, w19, w20, w21, w22, w23, w24, w25, w26, w30, w31, w32, w33, w34, w35, w36, w38, w39, w40, w43, w44, w46, w47, w48, w49, w50, w51, w52, w53, w54, w55, w56, w57, w58, w59, w60, w61, w62, w63, w64, w65, w66, w67, w68, w69, w70, w71, w72, w73, w74, w75, w76, w77, w78, w79, w80, w81, w82, w83, w84, w85, w86, w87, hi_hit, hi_row, hi_col, hj_hit, hj_row, hj_col, hi_sj, hj_si, hq_si, hq_sj, hi_sq, hj_sq, hi_srh, hi_srm]
      · intro j hj'
        have := y3 j hj'
        refine ⟨this.1, ?_, this.2.2⟩
        have h2 := this.2.1
        show _ ≤ rd 1000000000 es (rds 1000000000 es f i) j
        simp only
        omega
      · rcases y4 with ⟨p, q⟩ | ⟨p, -, j, hj', q⟩
        · exact Or.inr ⟨p, i, rfl, q⟩
        · refine Or.inl ⟨p, fun m hm => ?_⟩
          simp only at hm
          obtain rfl : i = m := by omega
          exact ⟨j, q⟩
    · left
      refine ⟨g1, ?_, I1, ?_⟩
      · simp only [f_X9_most_L41.eq_2]
        simp (disch := (first | assumption | (simp only [FX_si, FX_sj, FX_sr]; assumption) | omega | decide)) only [a, ↓reduceIte, if_true, if_false, i10, i01, eq_self, bd_some, b1_some, b2_some, b3_some, b4_some, c1_eq, elim_inl, elim_inr, zok0, zok1, getQ_si, getQ_sj, getQ_sr, q8_0, q8_1, q8_2, q8_4, q8_7, q8_8, q8_9, q8_10, q8_11, q9_0, q9_3, q9_4, q9_8, q17_0, q17_1, q17_2, q17_4, q17_5, q17_6, q17_9, q17_10, q17_11, q27_4, q27_5, q27_6, q27_7, q27_8, q27_11, q45_0, q45_1, q45_11, q45_12, q45_13, q45_14, q45_15, q45_16, q45_17, q45_18, q45_19, q45_20, q45_21, q45_22, q45_23, q45_24, q45_30, q45_31, q45_32, q45_33, q45_34, q45_35, q45_36, q45_37, q45_38, q45_39, q45_43, q45_44, q45_45, q45_46, q45_47, q45_48, q45_52, q45_53, q45_54, q45_59, q45_60, q45_61, q45_62, q45_65, q45_67, q45_68, gi8, gj8, pi8, pz8, pj8, rc8, gi9, gj9, pi9, pz9, pj9, rc9, gi17, gj17, pi17, pz17, pj17, rc17, gi27, gj27, pi27, pz27, pj27, rc27, gi45, gj45, pi45, pz45, pj45, rc45, aln_si, aln_sj, aln_sq, rc_si, rc_sj, rc_sq, n0, n1, n10, n11, n12, n13, n14, n15, n16, n18, n19, n20, n21, n22, n23, n24, n25, n26, n29, n30, n31, n32, n33, n34, n35, n36, n37, n38, n39, n40, n42, n43, n44, n46, n47, n48, n49, n50, n51, n52, n53, n54, n55, n56, n57, n58, n59, n60, n61, n62, n63, n64, n65, n66, n67, n68, n69, n70, n71, n72, n73, n74, n75, n76, n77, n78, n79, n80, n81, n82, n83, n84, n85, n86, n87, r0, r1, r10, r11, r12, r13, r14, r15, r16, r18, r19, r20, r21, r22, r23, r24, r25, r26, r29, r30, r31, r32, r33, r34, r35, r36, r37, r38, r39, r40, r42, r43, r44, r46, r47, r48, r49, r50, r51, r52, r53, r54, r55, r56, r57, r58, r59, r60, r61, r62, r63, r64, r65, r66, r67, r68, r69, r70, r71, r72, r73, r74, r75, r76, r77, r78, r79, r80, r81, r82, r83, r84, r85, r86, r87, w10, w11, w12, w13, w18, w19, w20, w21, w22, w23, w24, w25, w26, w30, w31, w32, w33, w34, w35, w36, w38, w39, w40, w43, w44, w46, w47, w48, w49, w50, w51, w52, w53, w54, w55, w56, w57, w58, w59, w60, w61, w62, w63, w64, w65, w66, w67, w68, w69, w70, w71, w72, w73, w74, w75, w76, w77, w78, w79, w80, w81, w82, w83, w84, w85, w86, w87, hi_hit, hi_row, hi_col, hj_hit, hj_row, hj_col, hi_sj, hj_si, hq_si, hq_sj, hi_sq, hj_sq, hi_srh, hi_srm]
      · subst b
        intro v hv
        have e := rds_stab c 105 (by omega)
        rw [(I2 v hv).1, c, ← e, d1 v]
        exact fin v hv
theorem m_most (D : DX g ls T bc bA bE bT) {s u v : Nat} (hs : s < 2 ^ 31) (hu : u < 105) (hv : v < 105) (hc : CAN ls T bA bE bT bc (btB s)) :
    ∃ g' x, f_X9_most 45 (nI u) (nI v) (nI s) g = some (x, g') ∧ FrM [77] [51] g g' ∧ MXD ls T bA bE bT bc (btB s) u v x.toInt := by
  obtain ⟨g1, a1, a2, a3⟩ := m_most3 D.1 hu (nI v) (nI s)
  have a2' : FrM [77] [51] g g1 := a2.wk (by decide) (by decide)
  have F1 := a2'.fx D.1
  have fr2 : FrM [77] [51] g1 (si g1 45 51 1) := FrM.fld (by decide)
  have D2 := (D.fr a2' (by decide) (by decide)).fr fr2 (by decide) (by decide)
  have z01 : (1 : Int32) = 0 ∨ (1 : Int32) = 1 := Or.inr rfl
  obtain ⟨g3, b1', b2', b3'⟩ := m_most41 D2 hs hu (nI v) (fun j hj' => by rw [hj_si]; exact a3 j hj') (hi_hit _ _ _) hc
  have F3 := b2'.fx D2.1
  refine ⟨g3, hj g3 77 v, ?_, (a2'.trans fr2).trans b2', b3' v hv⟩
  unfold f_X9_most
  rw [a1, bd_some]
  simp (disch := (first | assumption | (simp only [FX_si, FX_sj, FX_sr]; assumption) | omega | decide)) only [b1', bd_some, b1_some, b2_some, b3_some, b4_some, c1_eq, elim_inl, elim_inr, zok0, zok1, getQ_si, getQ_sj, getQ_sr, q8_0, q8_1, q8_2, q8_4, q8_7, q8_8, q8_9, q8_10, q8_11, q9_0, q9_3, q9_4, q9_8, q17_0, q17_1, q17_2, q17_4, q17_5, q17_6, q17_9, q17_10, q17_11, q27_4, q27_5, q27_6, q27_7, q27_8, q27_11, q45_0, q45_1, q45_11, q45_12, q45_13, q45_14, q45_15, q45_16, q45_17, q45_18, q45_19, q45_20, q45_21, q45_22, q45_23, q45_24, q45_30, q45_31, q45_32, q45_33, q45_34, q45_35, q45_36, q45_37, q45_38, q45_39, q45_43, q45_44, q45_45, q45_46, q45_47, q45_48, q45_52, q45_53, q45_54, q45_59, q45_60, q45_61, q45_62, q45_65, q45_67, q45_68, gi8, gj8, pi8, pz8, pj8, rc8, gi9, gj9, pi9, pz9, pj9, rc9, gi17, gj17, pi17, pz17, pj17, rc17, gi27, gj27, pi27, pz27, pj27, rc27, gi45, gj45, pi45, pz45, pj45, rc45, aln_si, aln_sj, aln_sq, rc_si, rc_sj, rc_sq, n0, n1, n10, n11, n12, n13, n14, n15, n16, n18, n19, n20, n21, n22, n23, n24, n25, n26, n29, n30, n31, n32, n33, n34, n35, n36, n37, n38, n39, n40, n42, n43, n44, n46, n47, n48, n49, n50, n51, n52, n53, n54, n55, n56, n57, n58, n59, n60, n61, n62, n63, n64, n65, n66, n67, n68, n69, n70, n71, n72, n73, n74, n75, n76, n77, n78, n79, n80, n81, n82, n83, n84, n85, n86, n87, r0, r1, r10, r11, r12, r13, r14, r15, r16, r18, r19, r20, r21, r22, r23, r24, r25, r26, r29, r30, r31, r32, r33, r34, r35, r36, r37, r38, r39, r40, r42, r43, r44, r46, r47, r48, r49, r50, r51, r52, r53, r54, r55, r56, r57, r58, r59, r60, r61, r62, r63, r64, r65, r66, r67, r68, r69, r70, r71, r72, r73, r74, r75, r76, r77, r78, r79, r80, r81, r82, r83, r84, r85, r86, r87, w10, w11, w12, w13, w18, w19, w20, w21, w22, w23, w24, w25, w26, w30, w31, w32, w33, w34, w35, w36, w38, w39, w40, w43, w44, w46, w47, w48, w49, w50, w51, w52, w53, w54, w55, w56, w57, w58, w59, w60, w61, w62, w63, w64, w65, w66, w67, w68, w69, w70, w71, w72, w73, w74, w75, w76, w77, w78, w79, w80, w81, w82, w83, w84, w85, w86, w87, hi_hit, hi_row, hi_col, hj_hit, hj_row, hj_col, hi_sj, hj_si, hq_si, hq_sj, hi_sq, hj_sq, hi_srh, hi_srm]
end Ch
