/-! What is known of a worker at a time, as functions of the facts; the model finds it. -/
section Sk
variable (F : Nat → Nat → Int32) (wk k : Int32) (n : Nat)
def bkc : Nat := (BKn F wk k n).length
def bkA (b : Nat) : Nat := (F 2 ((BKn F wk k n).getD b 0)).toNatClampNeg
def bkE (b : Nat) : Nat := (F 3 ((BKn F wk k n).getD b 0)).toNatClampNeg + 1
def bkT (b : Nat) : Int := (F 4 ((BKn F wk k n).getD b 0)).toInt
def totI (w : Nat) : Int := (PD F wk k n 0 w).toInt + (PD F wk k n 1 w).toInt + (PD F wk k n 2 w).toInt + (PD F wk k n 3 w).toInt + (PD F wk k n 4 w).toInt
def CANk (s : Nat) : Prop := CAN (LSn F wk k n) (totI F wk k n) (bkA F wk k n) (bkE F wk k n) (bkT F wk k n) (bkc F wk k n) (btB s)
/-- the quarrel -/
noncomputable def QRL : Int32 := Classical.epsilon (QUp (CANk F wk k n) (bkc F wk k n))
noncomputable def OUTk : Nat := if QRL F wk k n < 0 then 2 ^ bkc F wk k n - 1 else (QRL F wk k n).toNatClampNeg
def MXk (out u v : Nat) (z : Int) : Prop := MXD (LSn F wk k n) (totI F wk k n) (bkA F wk k n) (bkE F wk k n) (bkT F wk k n) (bkc F wk k n) (btB out) u v z
/-- the base by highs and by lows -/
noncomputable def HIG (w : Nat) : Int32 := if LSn F wk k n w = true then Classical.epsilon (fun z : Int32 => MXk F wk k n (OUTk F wk k n) w (w + 1) z.toInt) else PD F wk k n 0 w
noncomputable def LOW (w : Nat) : Int32 := if LSn F wk k n w = true then Classical.epsilon (fun z : Int32 => MXk F wk k n (OUTk F wk k n) (w + 1) w (-z.toInt)) else PD F wk k n 0 w
variable {F wk k n}
theorem QRL_eq {q : Int32} (h : QUp (CANk F wk k n) (bkc F wk k n) q) : QRL F wk k n = q := QUp_uniq (Classical.epsilon_spec (p := QUp (CANk F wk k n) (bkc F wk k n)) ⟨q, h⟩) h
theorem HIG_eq {w : Nat} {z : Int32} (h : MXk F wk k n (OUTk F wk k n) w (w + 1) z.toInt) (hl : LSn F wk k n w = true) : HIG F wk k n w = z := by
  unfold HIG
  rw [if_pos hl]
  exact i_ext (MXD_uniq (Classical.epsilon_spec (p := fun z : Int32 => MXk F wk k n (OUTk F wk k n) w (w + 1) z.toInt) ⟨z, h⟩) h)
theorem LOW_eq {w : Nat} {z : Int32} (h : MXk F wk k n (OUTk F wk k n) (w + 1) w (-z.toInt)) (hl : LSn F wk k n w = true) : LOW F wk k n w = z := by
  unfold LOW
  rw [if_pos hl]
  have := MXD_uniq (Classical.epsilon_spec (p := fun z : Int32 => MXk F wk k n (OUTk F wk k n) (w + 1) w (-z.toInt)) ⟨z, h⟩) h
  exact i_ext (by omega)
theorem BKn_pre {m : Nat} (hm : m ≤ n) : ∃ t, BKn F wk k n = BKn F wk k m ++ t := by
  induction n with
  | zero => rw [Nat.le_zero.mp hm]; exact ⟨[], (List.append_nil _).symm⟩
  | succ n ih =>
    rcases Nat.lt_or_ge n m with q | q
    · rw [show m = n + 1 by omega]; exact ⟨[], (List.append_nil _).symm⟩
    · obtain ⟨t, ht⟩ := ih q
      rw [BKn.eq_2]
      split
      · exact ⟨t ++ [n], by rw [ht, List.append_assoc]⟩
      · exact ⟨t, ht⟩
end Sk
theorem nI_tn {x : Nat} (h : x < 2 ^ 31) : (nI x).toNatClampNeg = x := nI_clamp h
section Kn
variable {F : Nat → Nat → Int32} {nw nf : Nat}
theorem PDn_bd (R : RG F nw nf) (wk k : Int32) {n : Nat} (hn : n ≤ nf) (i w : Nat) : ∃ v, v ≤ 9999 ∧ PDn F wk k n i w = nI v := by
  induction n with
  | zero => exact ⟨0, by omega, rfl⟩
  | succ n ih =>
    rw [PDn.eq_2]
    split
    · rename_i q
      obtain ⟨-, -, v, hv, e⟩ := (R.1 n (by omega)).2.1 (cnts_iff.mp q.1).1
      exact ⟨v, hv, e⟩
    · exact ih (by omega)
theorem PD_bd (R : RG F nw nf) (wk k : Int32) (i w : Nat) : ∃ v, v ≤ 9999 ∧ PD F wk k nf i w = nI v := by
  unfold PD
  split
  · exact ⟨0, by omega, rfl⟩
  · exact PDn_bd R wk k (Nat.le_refl _) i w
theorem totI_bd (R : RG F nw nf) (wk k : Int32) (w : Nat) : 0 ≤ totI F wk k nf w ∧ totI F wk k nf w ≤ 50000 ∧
    (PD F wk k nf 0 w + PD F wk k nf 1 w + PD F wk k nf 2 w + PD F wk k nf 3 w + PD F wk k nf 4 w).toInt = totI F wk k nf w := by
  unfold totI
  obtain ⟨v0, h0, e0⟩ := PD_bd R wk k 0 w
  obtain ⟨v1, h1, e1⟩ := PD_bd R wk k 1 w
  obtain ⟨v2, h2, e2⟩ := PD_bd R wk k 2 w
  obtain ⟨v3, h3, e3⟩ := PD_bd R wk k 3 w
  obtain ⟨v4, h4, e4⟩ := PD_bd R wk k 4 w
  rw [e0, e1, e2, e3, e4]
  simp only [nI_add]
  rw [nI_toInt (by omega), nI_toInt (by omega), nI_toInt (by omega), nI_toInt (by omega), nI_toInt (by omega), nI_toInt (by omega)]
  omega
theorem bk_at (R : RG F nw nf) {w : Nat} (hw : w < nw) (k : Int32) {b : Nat} (hb : b < bkc F (nI w) k nf) : ∃ f a e t, f < nf ∧ a ≤ e ∧ e < 104 ∧ t ≤ 999999 ∧ (BKn F (nI w) k nf).getD b 0 = f ∧ (BKn F (nI w) k nf)[b]? = some f ∧ cnts F 2 (nI w) k f = true ∧ F 2 f = nI a ∧ F 3 f = nI e ∧ F 4 f = nI t ∧ bkA F (nI w) k nf b = a ∧ bkE F (nI w) k nf b = e + 1 ∧ bkT F (nI w) k nf b = t := by
  have hg : (BKn F (nI w) k nf)[b]? = some ((BKn F (nI w) k nf)[b]'hb) := List.getElem?_eq_getElem hb
  have hd : (BKn F (nI w) k nf).getD b 0 = (BKn F (nI w) k nf)[b]'hb := by rw [List.getD_eq_getElem?_getD, hg]; rfl
  obtain ⟨h1, h2⟩ := BKn_lt F (nI w) k nf _ (List.getElem_mem hb)
  obtain ⟨a, e, t, r1, r2, r3, r4, r5, r6⟩ := (R.1 _ h1).2.2.2.1 (cnts_iff.mp h2).1
  refine ⟨_, a, e, t, h1, r1, r2, r3, hd, hg, h2, r4, r5, r6, ?_, ?_, ?_⟩
  · unfold bkA; rw [hd, r4, nI_tn (by omega)]
  · unfold bkE; rw [hd, r5, nI_tn (by omega)]
  · unfold bkT; rw [hd, r6, nI_toInt (by omega)]
theorem bkc_le (R : RG F nw nf) {w : Nat} (hw : w < nw) (k : Int32) : bkc F (nI w) k nf ≤ 10 := Nat.le_trans (BKn_len F (nI w) k nf) (R.2 w hw)
/-- what is left out leaves a way -/
theorem OUT_can {w : Nat} (R : RG F nw nf) (hw : w < nw) (k : Int32) (hq : ∃ q, QUp (CANk F (nI w) k nf) (bkc F (nI w) k nf) q) : OUTk F (nI w) k nf < 1024 ∧ CANk F (nI w) k nf (OUTk F (nI w) k nf) := by
  obtain ⟨q, hq⟩ := hq
  have hb := bkc_le R hw k
  have hp := p2_le hb
  have e := QRL_eq hq
  unfold OUTk
  rw [e]
  rcases hq with ⟨s, a1, a2, a3, a4, a5⟩ | ⟨a1, a2⟩
  · rw [a1, if_neg (nI_pos (by omega)), nI_tn (by omega)]
    exact ⟨by omega, a4⟩
  · rw [a1, if_pos (by decide)]
    exact ⟨by omega, CAN_all (ones_bt _ (by omega))⟩
end Kn
/-- the rows of what is known -/
def KNW (F : Nat → Nat → Int32) (wk k : Int32) (nf : Nat) (g : Hp) : Prop :=
  (∀ i u, i < 6 → u < 104 → hi g 72 (6 * u + i) = PD F wk k nf i u) ∧ (∀ u, u < 104 → hi g 76 u = if LSn F wk k nf u = true then 1 else 0) ∧
  hi g 45 50 = QRL F wk k nf ∧ ∀ u, u < 104 → hi g 73 u = LOW F wk k nf u ∧ hi g 74 u = HIG F wk k nf u
theorem m_know {h : Hp} (F : FX h) {nw nf w : Nat} (hw : w < nw) (hw' : nw ≤ 10) (hnf : nf ≤ 250) (e41 : hi h 45 41 = nI nf) (R : RG (vF h) nw nf) (k : Int32) :
    ∃ g, f_X9_know 45 (nI w) k h = some g ∧ FrM [72, 73, 74, 75, 76, 77] [49, 50, 51] h g ∧ KNW (vF h) (nI w) k nf g ∧ ∃ q, QUp (CANk (vF h) (nI w) k nf) (bkc (vF h) (nI w) k nf) q := by
  obtain ⟨g1, a1, a2, a3⟩ := m_know2 F (nI w) k
  have F1 := a2.fx F
  obtain ⟨g2, b1', b2', b3'⟩ := m_know24 F1 (nI w) k
  have F2 := b2'.fx F1
  have fr3 : FrM [72, 76] [49] h (si g2 45 49 0) := ((a2.wk (by decide) (by decide)).trans (b2'.wk (by decide) (by decide))).trans (FrM.fld (by decide))
  have F3 : FX (si g2 45 49 0) := F2
  have v3 := vF_frE fr3 (by decide)
  obtain ⟨g4, c1', c2', c3', c4', c5', c6'⟩ := m_know50 F3 hw hw' hnf ((fr3.ef (by decide)).trans e41) (by rw [v3]; exact R) k (fun j hj' => by
    rw [hi_row _ _ _ (by decide), b2'.ei j (by decide) (by decide)]; exact a3 j hj') (fun j hj' => by
    rw [hi_row _ _ _ (by decide)]; exact b3' j hj') (hi_hit _ _ _)
  rw [v3] at c3' c4' c5' c6'
  have F4 := c2'.fx F3
  obtain ⟨g5, d1', d2', d3'⟩ := m_know161 F4 (LSn (vF h) (nI w) k nf) c4'
  have F5 := d2'.fx F4
  have fr5 : FrM [72, 75, 76] [49] h g5 := ((fr3.wk (by decide) (by decide)).trans c2').trans (d2'.wk (by decide) (by decide))
  have v5 := vF_frE fr5 (by decide)
  have pd5 : ∀ i u, i < 6 → u < 104 → hi g5 72 (6 * u + i) = PD (vF h) (nI w) k nf i u := fun i u hi' hu => by
    rw [d3' i u hi' hu, c3' i u hi' hu]
    rfl
  have D : DX g5 (LSn (vF h) (nI w) k nf) (totI (vF h) (nI w) k nf) (bkc (vF h) (nI w) k nf) (bkA (vF h) (nI w) k nf) (bkE (vF h) (nI w) k nf) (bkT (vF h) (nI w) k nf) := by
    refine ⟨F5, fun u hu => (d2'.ei u (by decide) (by decide)).trans (c4' u hu), fun u hu => ?_, bkc_le R hw k, (d2'.ef (by decide)).trans c5', fun b hb => ?_⟩
    · obtain ⟨t1, t2, t3⟩ := totI_bd R (nI w) k u
      refine ⟨t1, t2, ?_⟩
      unfold tot5
      rw [← t3, ← pd5 0 u (by omega) hu, ← pd5 1 u (by omega) hu, ← pd5 2 u (by omega) hu, ← pd5 3 u (by omega) hu, ← pd5 4 u (by omega) hu]
      rfl
    · obtain ⟨f, a, e, t, h1, h2, h3, h4, h5, h6, h7, h8, h9, h10, h11, h12, h13⟩ := bk_at R hw k hb
      have fe : ∀ j, j < 7 → hi g5 (64 + j) f = vF h j f := fun j hj' => by rw [← vF_at g5 f hj', v5]
      refine ⟨f, e, by omega, h3, ?_, ?_, ?_, h12, ?_, ?_, ?_, ?_⟩
      · rw [d2'.ei b (by decide) (by decide), c6' b hb]
        have := List.getElem?_eq_getElem hb
        rw [h6] at this
        exact congrArg nI (Option.some.inj this).symm
      · rw [h11]; exact (fe 2 (by omega)).trans h8
      · exact (fe 3 (by omega)).trans h9
      · have := (fe 4 (by omega)).trans h10
        rw [show hi g5 68 f = nI t from this, nI_toInt (by omega), h13]
      · rw [h11]; omega
      · rw [h13]; omega
      · rw [h13]; omega
  obtain ⟨g6, e1', e2', e3'⟩ := m_seekQuarrel D
  have q6 : QRL (vF h) (nI w) k nf = hi g6 45 50 := QRL_eq e3'
  obtain ⟨o1, o2⟩ := OUT_can R hw k ⟨_, e3'⟩
  have D6 := D.fr e2' (by decide) (by decide)
  have F6 := D6.1
  obtain ⟨g7, f1', f2', f3'⟩ := m_know241 D6 (s := OUTk (vF h) (nI w) k nf) (by omega) o2
  have fr7 : FrM [72, 73, 74, 75, 76, 77] [49, 50, 51] h g7 := ((fr5.wk (by decide) (by decide)).trans (e2'.wk (by decide) (by decide))).trans (f2'.wk (by decide) (by decide))
  have hb10 := bkc_le R hw k
  have hp2 := p2_le hb10
  have hb31 : bkc (vF h) (nI w) k nf < 31 := by omega
  have e49 : hi g6 45 49 = nI (bkc (vF h) (nI w) k nf) := D6.2.2.2.2.1
  have hp0 : 1 ≤ 2 ^ bkc (vF h) (nI w) k nf := Nat.one_le_two_pow
  refine ⟨g7, ?_, fr7, ⟨fun i u hi' hu => ?_, fun u hu => ?_, ?_, fun u hu => ?_⟩, ⟨_, e3'⟩⟩
  · have ho : (if 0 ≤ hi g6 45 50 then some (hi g6 45 50, g6) else some (nI (2 ^ bkc (vF h) (nI w) k nf) - 1, g6) : Option (Int32 × Hp)) = some (nI (OUTk (vF h) (nI w) k nf), g6) := by
      unfold OUTk
      rw [q6]
      by_cases q : hi g6 45 50 < 0
      · rw [if_pos q, if_neg (by rw [Int32.not_le]; exact q), show (1 : Int32) = nI 1 from rfl, pk_sub hp0]
      · obtain ⟨j, hj1, hj2⟩ := nI_of q
        rw [if_neg q, if_pos (Int32.not_lt.mp q), hj2, nI_tn hj1]
    unfold f_X9_know
    rw [a1, bd_some, b1', bd_some]
    simp (disch := (first | assumption | (simp only [FX_si, FX_sj, FX_sr]; assumption) | omega | decide)) only [c1', d1', e1', e49, shl_of, bd_some, b1_some, b2_some, b3_some, b4_some, c1_eq, elim_inl, elim_inr, zok0, zok1, getQ_si, getQ_sj, getQ_sr, q8_0, q8_1, q8_2, q8_4, q8_7, q8_8, q8_9, q8_10, q8_11, q9_0, q9_3, q9_4, q9_8, q17_0, q17_1, q17_2, q17_4, q17_5, q17_6, q17_9, q17_10, q17_11, q27_4, q27_5, q27_6, q27_7, q27_8, q27_11, q45_0, q45_1, q45_11, q45_12, q45_13, q45_14, q45_15, q45_16, q45_17, q45_18, q45_19, q45_20, q45_21, q45_22, q45_23, q45_24, q45_30, q45_31, q45_32, q45_33, q45_34, q45_35, q45_36, q45_37, q45_38, q45_39, q45_43, q45_44, q45_45, q45_46, q45_47, q45_48, q45_52, q45_53, q45_54, q45_59, q45_60, q45_61, q45_62, q45_65, q45_67, q45_68, gi8, gj8, pi8, pz8, pj8, rc8, gi9, gj9, pi9, pz9, pj9, rc9, gi17, gj17, pi17, pz17, pj17, rc17, gi27, gj27, pi27, pz27, pj27, rc27, gi45, gj45, pi45, pz45, pj45, rc45, aln_si, aln_sj, aln_sq, rc_si, rc_sj, rc_sq, n0, n1, n10, n11, n12, n13, n14, n15, n16, n18, n19, n20, n21, n22, n23, n24, n25, n26, n29, n30, n31, n32, n33, n34, n35, n36, n37, n38, n39, n40, n42, n43, n44, n46, n47, n48, n49, n50, n51, n52, n53, n54, n55, n56, n57, n58, n59, n60, n61, n62, n63, n64, n65, n66, n67, n68, n69, n70, n71, n72, n73, n74, n75, n76, n77, n78, n79, n80, n81, n82, n83, n84, n85, n86, n87, r0, r1, r10, r11, r12, r13, r14, r15, r16, r18, r19, r20, r21, r22, r23, r24, r25, r26, r29, r30, r31, r32, r33, r34, r35, r36, r37, r38, r39, r40, r42, r43, r44, r46, r47, r48, r49, r50, r51, r52, r53, r54, r55, r56, r57, r58, r59, r60, r61, r62, r63, r64, r65, r66, r67, r68, r69, r70, r71, r72, r73, r74, r75, r76, r77, r78, r79, r80, r81, r82, r83, r84, r85, r86, r87, w10, w11, w12, w13, w18, w19, w20, w21, w22, w23, w24, w25, w26, w30, w31, w32, w33, w34, w35, w36, w38, w39, w40, w43, w44, w46, w47, w48, w49, w50, w51, w52, w53, w54, w55, w56, w57, w58, w59, w60, w61, w62, w63, w64, w65, w66, w67, w68, w69, w70, w71, w72, w73, w74, w75, w76, w77, w78, w79, w80, w81, w82, w83, w84, w85, w86, w87, hi_hit, hi_row, hi_col, hj_hit, hj_row, hj_col, hi_sj, hj_si, hq_si, hq_sj, hi_sq, hj_sq, hi_srh, hi_srm]
    rw [ho, b1_some, f1', bd_some]
  · rw [f2'.ei _ (by decide) (by decide), e2'.ei _ (by decide) (by decide)]
    exact pd5 i u hi' hu
  · rw [f2'.ei _ (by decide) (by decide), e2'.ei _ (by decide) (by decide)]
    exact D.2.1 u hu
  · rw [f2'.ef (by decide)]
    exact q6.symm
  · have := f3' u hu
    by_cases hl : LSn (vF h) (nI w) k nf u = true
    · rw [if_pos hl] at this
      exact ⟨(LOW_eq this.2 hl).symm, (HIG_eq this.1 hl).symm⟩
    · rw [if_neg hl] at this
      have p0 := pd5 0 u (by omega) hu
      rw [← e2'.ei _ (by decide) (by decide)] at p0
      unfold LOW HIG
      rw [if_neg hl, if_neg hl, ← p0]
      exact this
