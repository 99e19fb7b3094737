/-! Queries agree: what each looks up, sheets opened, spans, counts, averages. -/
def LQ : List Nat := [59, 72, 73, 74, 75, 76, 77, 78, 79, 80, 81, 82, 83, 84, 85, 86, 87]
def BQ : List Nat := [49, 50, 51, 55, 56, 57, 58, 63, 64, 66, 69, 70]
/-- tape and fault -/
def TP (h : Hp) : Prop := (∀ k, hi h 0 k = ls0.getD k 0) ∧ (∀ k, hi h 1 k = ms0.getD k 0) ∧ ∃ ts, ts ≤ 900 ∧ hi h 9 1 = nI ts ∧ hi h 45 2 = nI ts ∧ (∀ j, j < ts → hi h 10 j = hi h 46 j) ∧ hi h 9 12 = hi h 45 4 ∧ hi h 9 13 = hi h 45 5
/-- no banks of workers that are not there -/
def Z63 (h : Hp) : Prop := ∀ w, w < 10 → hi h 45 40 ≤ nI w → hi h 63 w = 0
def TAP (h : Hp) : Prop := Z63 h ∧ TP h
def INVp (h : Hp) (nw nf : Nat) (F : Nat → Nat → Int32) (A : Nat → Ac) (pls tms : Nat → Int32) (tme : Nat) (wa fa : Nat → Nat) : Prop :=
  FX h ∧ STM h nw nf F A pls tms tme ∧ STC h nw nf F A pls tms tme wa fa ∧ CCH h F nw nf wa ∧ TAP h
def INV (h : Hp) : Prop := ∃ nw nf F A pls tms tme wa fa, INVp h nw nf F A pls tms tme wa fa
/-- the script stays -/
def KS (h h' : Hp) : Prop := FX h' ∧ hk h' 2 = hk h 2 ∧ ∀ k, hi h' 2 k = hi h 2 k
theorem KS.trans {h h' h'' : Hp} (a : KS h h') (b : KS h' h'') : KS h h'' := ⟨b.1, b.2.1.trans a.2.1, fun k => (b.2.2 k).trans (a.2.2 k)⟩
theorem KS.frM {A B : List Nat} {h h' : Hp} (X : FX h) (fr : FrM A B h h') (hA : 2 ∉ A) : KS h h' := ⟨fr.fx X, by unfold hk; rw [fr.1], fun k => fr.ei k hA (by decide)⟩
/-- both answer alike, and the state stays sound -/
def AG {α : Type} (cf mf : Hp → Option (α × Hp)) : Prop := ∀ h, INV h → ∃ v h1 h2, cf h = some (v, h1) ∧ mf h1 = some (v, h2) ∧ INV h2 ∧ KS h h1 ∧ KS h h2
theorem TP.same {h h' : Hp} (t : TP h) (E : ∀ a k, (a = 0 ∨ a = 1 ∨ a = 9 ∨ a = 10 ∨ a = 46 ∨ (a = 45 ∧ (k = 2 ∨ k = 4 ∨ k = 5))) → hi h' a k = hi h a k) : TP h' := by
  obtain ⟨t0, t00, ts, t1, t2, t3, t4, t5, t6⟩ := t
  exact ⟨fun k => by rw [E _ _ (by omega)]; exact t0 k, fun k => by rw [E _ _ (by omega)]; exact t00 k, ts, t1, by rw [E _ _ (by omega)]; exact t2, by rw [E _ _ (by omega)]; exact t3, fun j hj => by rw [E _ _ (by omega), E _ _ (by omega)]; exact t4 j hj, by rw [E _ _ (by omega), E _ _ (by omega)]; exact t5, by rw [E _ _ (by omega), E _ _ (by omega)]; exact t6⟩
theorem TAP.same {h h' : Hp} (t : TAP h) (E : ∀ a k, (a = 0 ∨ a = 1 ∨ a = 9 ∨ a = 10 ∨ a = 46 ∨ a = 63 ∨ (a = 45 ∧ (k = 2 ∨ k = 4 ∨ k = 5 ∨ k = 40))) → hi h' a k = hi h a k) : TAP h' :=
  ⟨fun w hw q => by
    rw [E _ _ (by omega)] at q ⊢
    exact t.1 w hw q, t.2.same (fun a k ha => E a k (by omega))⟩
section Qa
variable {h : Hp} {nw nf : Nat} {F : Nat → Nat → Int32} {A : Nat → Ac} {pls tms : Nat → Int32} {tme : Nat} {wa fa : Nat → Nat}
theorem RQ_low (T : STC h nw nf F A pls tms tme wa fa) {a k : Nat} (h1 : a < 17) (h2 : a ≠ 8) : ¬ RQ nw nf wa fa a k := fun q => by
  rcases q with q | q | q | ⟨w, hw, q⟩ | ⟨f, hf, q, -⟩
  · omega
  · omega
  · omega
  · have := T.ge hw
    rcases q with q | q <;> omega
  · have := (T.2.2.2.2.1 f hf).1
    omega
theorem RQ_no (T : STC h nw nf F A pls tms tme wa fa) {a k : Nat} (h1 : 38 ≤ a) (h2 : a < 88) : ¬ RQ nw nf wa fa a k := fun q => by
  rcases q with q | q | q | ⟨w, hw, q⟩ | ⟨f, hf, q, -⟩
  · omega
  · omega
  · omega
  · have := T.ge hw
    rcases q with q | q <;> omega
  · have := (T.2.2.2.2.1 f hf).1
    omega
theorem TAP.frq {h' : Hp} (t : TAP h) (T : STC h nw nf F A pls tms tme wa fa) (fr : FrP HQ (RQ nw nf wa fa) h h') : TAP h' :=
  t.same (fun a k ha => fr.2.2.1 _ _ (by
    rcases Nat.lt_or_ge a 17 with q | q
    · exact RQ_low T q (by omega)
    · exact RQ_no T (by omega) (by omega)))
theorem TAP.frM {h' : Hp} (t : TAP h) (fr : FrM LQ BQ h h') : TAP h' :=
  t.same (fun a k ha => by
    rcases ha with rfl | rfl | rfl | rfl | rfl | rfl | ⟨rfl, rfl | rfl | rfl | rfl⟩
    · exact fr.ei _ (by decide) (by decide)
    · exact fr.ei _ (by decide) (by decide)
    · exact fr.ei _ (by decide) (by decide)
    · exact fr.ei _ (by decide) (by decide)
    · exact fr.ei _ (by decide) (by decide)
    · exact fr.ei _ (by decide) (by decide)
    · exact fr.ef (by decide)
    · exact fr.ef (by decide)
    · exact fr.ef (by decide)
    · exact fr.ef (by decide))
theorem STM.frq {h' : Hp} (M : STM h nw nf F A pls tms tme) (T : STC h nw nf F A pls tms tme wa fa) (fr : FrP HQ (RQ nw nf wa fa) h h') : STM h' nw nf F A pls tms tme :=
  M.same (fun a k h1 h2 => fr.2.2.1 _ _ (fun q => by
    rcases q with q | q | q | ⟨w, hw, q⟩ | ⟨f, hf, q, -⟩
    · omega
    · omega
    · omega
    · have := T.ge hw
      rcases q with q | q <;> omega
    · have := (T.2.2.2.2.1 f hf).1; omega))
theorem INVp.frM {h' : Hp} (I : INVp h nw nf F A pls tms tme wa fa) (fr : FrM LQ BQ h h') : INVp h' nw nf F A pls tms tme wa fa := by
  obtain ⟨X, M, T, c, t⟩ := I
  have E : ∀ a k, a < 45 ∨ 88 ≤ a → hi h' a k = hi h a k := fun a k ha => fr.2.2.1 a k (fun q => by unfold LQ at q; simp at q; omega) (by omega)
  exact ⟨fr.fx X, M.frM fr (by decide) (by decide), T.same fr.1 fr.2.1 E, c.same (fun a k ha => E a k (Or.inr ha)) (fun w hw => T.ge hw), t.frM fr⟩
theorem INVp.frq {h' : Hp} (I : INVp h nw nf F A pls tms tme wa fa) (fr : FrP HQ (RQ nw nf wa fa) h h') (c : CCH h' F nw nf wa) : INVp h' nw nf F A pls tms tme wa fa := by
  obtain ⟨X, M, T, -, t⟩ := I
  exact ⟨fr.fx X HQ_fx, M.frq T fr, T.frq fr, c, t.frq T fr⟩
end Qa
/-- a query: the class's part and the model's part by themselves -/
theorem AG_q {α : Type} {cf mf : Hp → Option (α × Hp)} (hh : ∀ h nw nf F A pls tms tme wa fa, INVp h nw nf F A pls tms tme wa fa → ∃ v, (∃ h1, cf h = some (v, h1) ∧ FrP HQ (RQ nw nf wa fa) h h1 ∧ CCH h1 F nw nf wa) ∧ ∀ h1, FX h1 → STM h1 nw nf F A pls tms tme → ∃ h2, mf h1 = some (v, h2) ∧ FrM LQ BQ h1 h2) : AG cf mf := by
  rintro h ⟨nw, nf, F, A, pls, tms, tme, wa, fa, I⟩
  obtain ⟨v, ⟨h1, a1, a2, a3⟩, b⟩ := hh h nw nf F A pls tms tme wa fa I
  have I1 := I.frq a2 a3
  obtain ⟨h2, b1', b2'⟩ := b h1 I1.1 I1.2.1
  have k1 : KS h h1 := ⟨I1.1, a2.kd 2, fun k => a2.2.2.1 _ _ (RQ_low I.2.2.1 (by omega) (by omega))⟩
  exact ⟨v, h1, h2, a1, b1', ⟨nw, nf, F, A, pls, tms, tme, wa, fa, I1.frM b2'⟩, k1, k1.trans (KS.frM I1.1 b2' (by decide))⟩
section Lk
variable {h : Hp} {nw nf : Nat} {F : Nat → Nat → Int32} {A : Nat → Ac} {pls tms : Nat → Int32} {tme : Nat} {wa fa : Nat → Nat}
theorem shelf_cases (X : FX h) (T : STC h nw nf F A pls tms tme wa fa) (v : Int32) :
    (∃ s b, s < 4 ∧ v = nI s ∧ f_X8_shelfAt 8 v h = some (some b, h) ∧ CA (PW nw wa) h b (A s) ∧ ∀ g, f_X9_isShelf v g = some (1, g)) ∨ (f_X8_shelfAt 8 v h = some (none, h) ∧ ∀ g, f_X9_isShelf v g = some (0, g)) := by
  rcases pk_ix v (n := 4) (by omega) with q | q | ⟨s, hs, rfl⟩
  · right
    refine ⟨by unfold f_X8_shelfAt; rw [if_pos q, b1_some], fun g => by unfold f_X9_isShelf; rw [if_pos q, b1_some]; rfl⟩
  · right
    have n0' : ¬ v < 0 := fun z => by
      have h1 := Int32.lt_iff_toInt_lt.mp z
      have h2 := Int32.le_iff_toInt_le.mp q
      rw [nI_toInt (by omega)] at h2
      rw [show (0 : Int32).toInt = 0 from rfl] at h1
      omega
    have q' : (4 : Int32) ≤ v := q
    refine ⟨?_, fun g => by unfold f_X9_isShelf; rw [if_neg n0', if_pos q', b1_some]; rfl⟩
    unfold f_X8_shelfAt
    simp (disch := (first | assumption | (simp only [FX_si, FX_sj, FX_sr, WX_si, WX_sj, WX_sr, FK_si, FK_sj, FK_sr]; assumption) | omega | decide)) only [n0', q, ↓reduceIte, if_true, if_false, i10, i01, eq_self, wq7, wq8, wq9, wq10, wrc, wgi, wpi, wpz, wn1, wn2, wn3, wn4, wr1, wr2, wr3, wr4, ww1, ww2, ww3, ww4, fgi, fgq, fpi, frc, at18, at19, at21, at22, at23, at24, at25, at26, at_neg, wat1, wat2, wat3, wat4, reduceCtorEq, bd_some, b1_some, b2_some, b3_some, b4_some, c1_eq, elim_inl, elim_inr, zok0, zok1, getQ_si, getQ_sj, getQ_sr, q8_0, q8_1, q8_2, q8_4, q8_7, q8_8, q8_9, q8_10, q8_11, q9_0, q9_3, q9_4, q9_8, q17_0, q17_1, q17_2, q17_4, q17_5, q17_6, q17_9, q17_10, q17_11, q27_4, q27_5, q27_6, q27_7, q27_8, q27_11, q45_0, q45_1, q45_11, q45_12, q45_13, q45_14, q45_15, q45_16, q45_17, q45_18, q45_19, q45_20, q45_21, q45_22, q45_23, q45_24, q45_30, q45_31, q45_32, q45_33, q45_34, q45_35, q45_36, q45_37, q45_38, q45_39, q45_43, q45_44, q45_45, q45_46, q45_47, q45_48, q45_52, q45_53, q45_54, q45_59, q45_60, q45_61, q45_62, q45_65, q45_67, q45_68, gi8, gj8, pi8, pz8, pj8, rc8, gi9, gj9, pi9, pz9, pj9, rc9, gi17, gj17, pi17, pz17, pj17, rc17, gi27, gj27, pi27, pz27, pj27, rc27, gi45, gj45, pi45, pz45, pj45, rc45, aln_si, aln_sj, aln_sq, rc_si, rc_sj, rc_sq, n0, n1, n10, n11, n12, n13, n14, n15, n16, n18, n19, n20, n21, n22, n23, n24, n25, n26, n29, n30, n31, n32, n33, n34, n35, n36, n37, n38, n39, n40, n42, n43, n44, n46, n47, n48, n49, n50, n51, n52, n53, n54, n55, n56, n57, n58, n59, n60, n61, n62, n63, n64, n65, n66, n67, n68, n69, n70, n71, n72, n73, n74, n75, n76, n77, n78, n79, n80, n81, n82, n83, n84, n85, n86, n87, r0, r1, r10, r11, r12, r13, r14, r15, r16, r18, r19, r20, r21, r22, r23, r24, r25, r26, r29, r30, r31, r32, r33, r34, r35, r36, r37, r38, r39, r40, r42, r43, r44, r46, r47, r48, r49, r50, r51, r52, r53, r54, r55, r56, r57, r58, r59, r60, r61, r62, r63, r64, r65, r66, r67, r68, r69, r70, r71, r72, r73, r74, r75, r76, r77, r78, r79, r80, r81, r82, r83, r84, r85, r86, r87, w10, w11, w12, w13, w18, w19, w20, w21, w22, w23, w24, w25, w26, w30, w31, w32, w33, w34, w35, w36, w38, w39, w40, w43, w44, w46, w47, w48, w49, w50, w51, w52, w53, w54, w55, w56, w57, w58, w59, w60, w61, w62, w63, w64, w65, w66, w67, w68, w69, w70, w71, w72, w73, w74, w75, w76, w77, w78, w79, w80, w81, w82, w83, w84, w85, w86, w87, hi_hit, hi_row, hi_col, hj_hit, hj_row, hj_col, hi_sj, hj_si, hq_si, hq_sj, hi_sq, hj_sq, hi_srh, hi_srm]
  · left
    obtain ⟨b, b1', b2'⟩ := T.2.2.2.2.2.2.1 s hs
    have m0 : ¬ nI s < 0 := nI_pos (by omega)
    have m1 : ¬ nI 4 ≤ nI s := by rw [nI_leI (by omega) (by omega)]; omega
    have m1' : ¬ (4 : Int32) ≤ nI s := m1
    refine ⟨s, b, hs, rfl, ?_, b2', fun g => by unfold f_X9_isShelf; rw [if_neg m0, if_neg m1', b1_some]; rfl⟩
    unfold f_X8_shelfAt
    simp (disch := (first | assumption | (simp only [FX_si, FX_sj, FX_sr, WX_si, WX_sj, WX_sr, FK_si, FK_sj, FK_sr]; assumption) | omega | decide)) only [m0, m1, b1', ↓reduceIte, if_true, if_false, i10, i01, eq_self, wq7, wq8, wq9, wq10, wrc, wgi, wpi, wpz, wn1, wn2, wn3, wn4, wr1, wr2, wr3, wr4, ww1, ww2, ww3, ww4, fgi, fgq, fpi, frc, at18, at19, at21, at22, at23, at24, at25, at26, at_neg, wat1, wat2, wat3, wat4, reduceCtorEq, bd_some, b1_some, b2_some, b3_some, b4_some, c1_eq, elim_inl, elim_inr, zok0, zok1, getQ_si, getQ_sj, getQ_sr, q8_0, q8_1, q8_2, q8_4, q8_7, q8_8, q8_9, q8_10, q8_11, q9_0, q9_3, q9_4, q9_8, q17_0, q17_1, q17_2, q17_4, q17_5, q17_6, q17_9, q17_10, q17_11, q27_4, q27_5, q27_6, q27_7, q27_8, q27_11, q45_0, q45_1, q45_11, q45_12, q45_13, q45_14, q45_15, q45_16, q45_17, q45_18, q45_19, q45_20, q45_21, q45_22, q45_23, q45_24, q45_30, q45_31, q45_32, q45_33, q45_34, q45_35, q45_36, q45_37, q45_38, q45_39, q45_43, q45_44, q45_45, q45_46, q45_47, q45_48, q45_52, q45_53, q45_54, q45_59, q45_60, q45_61, q45_62, q45_65, q45_67, q45_68, gi8, gj8, pi8, pz8, pj8, rc8, gi9, gj9, pi9, pz9, pj9, rc9, gi17, gj17, pi17, pz17, pj17, rc17, gi27, gj27, pi27, pz27, pj27, rc27, gi45, gj45, pi45, pz45, pj45, rc45, aln_si, aln_sj, aln_sq, rc_si, rc_sj, rc_sq, n0, n1, n10, n11, n12, n13, n14, n15, n16, n18, n19, n20, n21, n22, n23, n24, n25, n26, n29, n30, n31, n32, n33, n34, n35, n36, n37, n38, n39, n40, n42, n43, n44, n46, n47, n48, n49, n50, n51, n52, n53, n54, n55, n56, n57, n58, n59, n60, n61, n62, n63, n64, n65, n66, n67, n68, n69, n70, n71, n72, n73, n74, n75, n76, n77, n78, n79, n80, n81, n82, n83, n84, n85, n86, n87, r0, r1, r10, r11, r12, r13, r14, r15, r16, r18, r19, r20, r21, r22, r23, r24, r25, r26, r29, r30, r31, r32, r33, r34, r35, r36, r37, r38, r39, r40, r42, r43, r44, r46, r47, r48, r49, r50, r51, r52, r53, r54, r55, r56, r57, r58, r59, r60, r61, r62, r63, r64, r65, r66, r67, r68, r69, r70, r71, r72, r73, r74, r75, r76, r77, r78, r79, r80, r81, r82, r83, r84, r85, r86, r87, w10, w11, w12, w13, w18, w19, w20, w21, w22, w23, w24, w25, w26, w30, w31, w32, w33, w34, w35, w36, w38, w39, w40, w43, w44, w46, w47, w48, w49, w50, w51, w52, w53, w54, w55, w56, w57, w58, w59, w60, w61, w62, w63, w64, w65, w66, w67, w68, w69, w70, w71, w72, w73, w74, w75, w76, w77, w78, w79, w80, w81, w82, w83, w84, w85, w86, w87, hi_hit, hi_row, hi_col, hj_hit, hj_row, hj_col, hi_sj, hj_si, hq_si, hq_sj, hi_sq, hj_sq, hi_srh, hi_srm]
theorem worker_cases (X : FX h) (T : STC h nw nf F A pls tms tme wa fa) (hw10 : nw ≤ 10) (v : Int32) :
    (∃ w, w < nw ∧ v = nI w ∧ f_X8_workerAt 8 v h = some (some (wa w), h) ∧ ∀ g, FX g → hi g 45 40 = nI nw → f_X9_isWorker 45 v g = some (1, g)) ∨ (f_X8_workerAt 8 v h = some (none, h) ∧ ∀ g, FX g → hi g 45 40 = nI nw → f_X9_isWorker 45 v g = some (0, g)) := by
  have e3 := T.1
  have sub : (nI nw - 1).toInt = (nw : Int) - 1 := by rw [show (1 : Int32) = nI 1 from rfl, pk_sub_toInt (by omega) (by omega)]; rfl
  rcases pk_ix v (n := nw) (by omega) with q | q | ⟨w, hw, rfl⟩
  · right
    refine ⟨by unfold f_X8_workerAt; rw [if_pos q, b1_some], fun g Xg e => ?_⟩
    have ii := m_isIn v 0 (nI nw - 1) g
    rw [if_neg (by simp [q])] at ii
    unfold f_X9_isWorker
    simp (disch := (first | assumption | (simp only [FX_si, FX_sj, FX_sr, WX_si, WX_sj, WX_sr, FK_si, FK_sj, FK_sr]; assumption) | omega | decide)) only [e, ii, ↓reduceIte, if_true, if_false, i10, i01, eq_self, wq7, wq8, wq9, wq10, wrc, wgi, wpi, wpz, wn1, wn2, wn3, wn4, wr1, wr2, wr3, wr4, ww1, ww2, ww3, ww4, fgi, fgq, fpi, frc, at18, at19, at21, at22, at23, at24, at25, at26, at_neg, wat1, wat2, wat3, wat4, reduceCtorEq, bd_some, b1_some, b2_some, b3_some, b4_some, c1_eq, elim_inl, elim_inr, zok0, zok1, getQ_si, getQ_sj, getQ_sr, q8_0, q8_1, q8_2, q8_4, q8_7, q8_8, q8_9, q8_10, q8_11, q9_0, q9_3, q9_4, q9_8, q17_0, q17_1, q17_2, q17_4, q17_5, q17_6, q17_9, q17_10, q17_11, q27_4, q27_5, q27_6, q27_7, q27_8, q27_11, q45_0, q45_1, q45_11, q45_12, q45_13, q45_14, q45_15, q45_16, q45_17, q45_18, q45_19, q45_20, q45_21, q45_22, q45_23, q45_24, q45_30, q45_31, q45_32, q45_33, q45_34, q45_35, q45_36, q45_37, q45_38, q45_39, q45_43, q45_44, q45_45, q45_46, q45_47, q45_48, q45_52, q45_53, q45_54, q45_59, q45_60, q45_61, q45_62, q45_65, q45_67, q45_68, gi8, gj8, pi8, pz8, pj8, rc8, gi9, gj9, pi9, pz9, pj9, rc9, gi17, gj17, pi17, pz17, pj17, rc17, gi27, gj27, pi27, pz27, pj27, rc27, gi45, gj45, pi45, pz45, pj45, rc45, aln_si, aln_sj, aln_sq, rc_si, rc_sj, rc_sq, n0, n1, n10, n11, n12, n13, n14, n15, n16, n18, n19, n20, n21, n22, n23, n24, n25, n26, n29, n30, n31, n32, n33, n34, n35, n36, n37, n38, n39, n40, n42, n43, n44, n46, n47, n48, n49, n50, n51, n52, n53, n54, n55, n56, n57, n58, n59, n60, n61, n62, n63, n64, n65, n66, n67, n68, n69, n70, n71, n72, n73, n74, n75, n76, n77, n78, n79, n80, n81, n82, n83, n84, n85, n86, n87, r0, r1, r10, r11, r12, r13, r14, r15, r16, r18, r19, r20, r21, r22, r23, r24, r25, r26, r29, r30, r31, r32, r33, r34, r35, r36, r37, r38, r39, r40, r42, r43, r44, r46, r47, r48, r49, r50, r51, r52, r53, r54, r55, r56, r57, r58, r59, r60, r61, r62, r63, r64, r65, r66, r67, r68, r69, r70, r71, r72, r73, r74, r75, r76, r77, r78, r79, r80, r81, r82, r83, r84, r85, r86, r87, w10, w11, w12, w13, w18, w19, w20, w21, w22, w23, w24, w25, w26, w30, w31, w32, w33, w34, w35, w36, w38, w39, w40, w43, w44, w46, w47, w48, w49, w50, w51, w52, w53, w54, w55, w56, w57, w58, w59, w60, w61, w62, w63, w64, w65, w66, w67, w68, w69, w70, w71, w72, w73, w74, w75, w76, w77, w78, w79, w80, w81, w82, w83, w84, w85, w86, w87, hi_hit, hi_row, hi_col, hj_hit, hj_row, hj_col, hi_sj, hj_si, hq_si, hq_sj, hi_sq, hj_sq, hi_srh, hi_srm]
  · right
    have qi := Int32.le_iff_toInt_le.mp q
    rw [nI_toInt (by omega)] at qi
    have n0' : ¬ v < 0 := fun z => by
      have h1 := Int32.lt_iff_toInt_lt.mp z
      rw [show (0 : Int32).toInt = 0 from rfl] at h1
      omega
    have n1' : nI nw - 1 < v := by rw [Int32.lt_iff_toInt_lt, sub]; omega
    refine ⟨?_, fun g Xg e => ?_⟩
    · unfold f_X8_workerAt
      simp (disch := (first | assumption | (simp only [FX_si, FX_sj, FX_sr, WX_si, WX_sj, WX_sr, FK_si, FK_sj, FK_sr]; assumption) | omega | decide)) only [n0', e3, q, ↓reduceIte, if_true, if_false, i10, i01, eq_self, wq7, wq8, wq9, wq10, wrc, wgi, wpi, wpz, wn1, wn2, wn3, wn4, wr1, wr2, wr3, wr4, ww1, ww2, ww3, ww4, fgi, fgq, fpi, frc, at18, at19, at21, at22, at23, at24, at25, at26, at_neg, wat1, wat2, wat3, wat4, reduceCtorEq, bd_some, b1_some, b2_some, b3_some, b4_some, c1_eq, elim_inl, elim_inr, zok0, zok1, getQ_si, getQ_sj, getQ_sr, q8_0, q8_1, q8_2, q8_4, q8_7, q8_8, q8_9, q8_10, q8_11, q9_0, q9_3, q9_4, q9_8, q17_0, q17_1, q17_2, q17_4, q17_5, q17_6, q17_9, q17_10, q17_11, q27_4, q27_5, q27_6, q27_7, q27_8, q27_11, q45_0, q45_1, q45_11, q45_12, q45_13, q45_14, q45_15, q45_16, q45_17, q45_18, q45_19, q45_20, q45_21, q45_22, q45_23, q45_24, q45_30, q45_31, q45_32, q45_33, q45_34, q45_35, q45_36, q45_37, q45_38, q45_39, q45_43, q45_44, q45_45, q45_46, q45_47, q45_48, q45_52, q45_53, q45_54, q45_59, q45_60, q45_61, q45_62, q45_65, q45_67, q45_68, gi8, gj8, pi8, pz8, pj8, rc8, gi9, gj9, pi9, pz9, pj9, rc9, gi17, gj17, pi17, pz17, pj17, rc17, gi27, gj27, pi27, pz27, pj27, rc27, gi45, gj45, pi45, pz45, pj45, rc45, aln_si, aln_sj, aln_sq, rc_si, rc_sj, rc_sq, n0, n1, n10, n11, n12, n13, n14, n15, n16, n18, n19, n20, n21, n22, n23, n24, n25, n26, n29, n30, n31, n32, n33, n34, n35, n36, n37, n38, n39, n40, n42, n43, n44, n46, n47, n48, n49, n50, n51, n52, n53, n54, n55, n56, n57, n58, n59, n60, n61, n62, n63, n64, n65, n66, n67, n68, n69, n70, n71, n72, n73, n74, n75, n76, n77, n78, n79, n80, n81, n82, n83, n84, n85, n86, n87, r0, r1, r10, r11, r12, r13, r14, r15, r16, r18, r19, r20, r21, r22, r23, r24, r25, r26, r29, r30, r31, r32, r33, r34, r35, r36, r37, r38, r39, r40, r42, r43, r44, r46, r47, r48, r49, r50, r51, r52, r53, r54, r55, r56, r57, r58, r59, r60, r61, r62, r63, r64, r65, r66, r67, r68, r69, r70, r71, r72, r73, r74, r75, r76, r77, r78, r79, r80, r81, r82, r83, r84, r85, r86, r87, w10, w11, w12, w13, w18, w19, w20, w21, w22, w23, w24, w25, w26, w30, w31, w32, w33, w34, w35, w36, w38, w39, w40, w43, w44, w46, w47, w48, w49, w50, w51, w52, w53, w54, w55, w56, w57, w58, w59, w60, w61, w62, w63, w64, w65, w66, w67, w68, w69, w70, w71, w72, w73, w74, w75, w76, w77, w78, w79, w80, w81, w82, w83, w84, w85, w86, w87, hi_hit, hi_row, hi_col, hj_hit, hj_row, hj_col, hi_sj, hj_si, hq_si, hq_sj, hi_sq, hj_sq, hi_srh, hi_srm]
    · have ii := m_isIn v 0 (nI nw - 1) g
      rw [if_neg (by simp [n0', n1'])] at ii
      unfold f_X9_isWorker
      simp (disch := (first | assumption | (simp only [FX_si, FX_sj, FX_sr, WX_si, WX_sj, WX_sr, FK_si, FK_sj, FK_sr]; assumption) | omega | decide)) only [e, ii, ↓reduceIte, if_true, if_false, i10, i01, eq_self, wq7, wq8, wq9, wq10, wrc, wgi, wpi, wpz, wn1, wn2, wn3, wn4, wr1, wr2, wr3, wr4, ww1, ww2, ww3, ww4, fgi, fgq, fpi, frc, at18, at19, at21, at22, at23, at24, at25, at26, at_neg, wat1, wat2, wat3, wat4, reduceCtorEq, bd_some, b1_some, b2_some, b3_some, b4_some, c1_eq, elim_inl, elim_inr, zok0, zok1, getQ_si, getQ_sj, getQ_sr, q8_0, q8_1, q8_2, q8_4, q8_7, q8_8, q8_9, q8_10, q8_11, q9_0, q9_3, q9_4, q9_8, q17_0, q17_1, q17_2, q17_4, q17_5, q17_6, q17_9, q17_10, q17_11, q27_4, q27_5, q27_6, q27_7, q27_8, q27_11, q45_0, q45_1, q45_11, q45_12, q45_13, q45_14, q45_15, q45_16, q45_17, q45_18, q45_19, q45_20, q45_21, q45_22, q45_23, q45_24, q45_30, q45_31, q45_32, q45_33, q45_34, q45_35, q45_36, q45_37, q45_38, q45_39, q45_43, q45_44, q45_45, q45_46, q45_47, q45_48, q45_52, q45_53, q45_54, q45_59, q45_60, q45_61, q45_62, q45_65, q45_67, q45_68, gi8, gj8, pi8, pz8, pj8, rc8, gi9, gj9, pi9, pz9, pj9, rc9, gi17, gj17, pi17, pz17, pj17, rc17, gi27, gj27, pi27, pz27, pj27, rc27, gi45, gj45, pi45, pz45, pj45, rc45, aln_si, aln_sj, aln_sq, rc_si, rc_sj, rc_sq, n0, n1, n10, n11, n12, n13, n14, n15, n16, n18, n19, n20, n21, n22, n23, n24, n25, n26, n29, n30, n31, n32, n33, n34, n35, n36, n37, n38, n39, n40, n42, n43, n44, n46, n47, n48, n49, n50, n51, n52, n53, n54, n55, n56, n57, n58, n59, n60, n61, n62, n63, n64, n65, n66, n67, n68, n69, n70, n71, n72, n73, n74, n75, n76, n77, n78, n79, n80, n81, n82, n83, n84, n85, n86, n87, r0, r1, r10, r11, r12, r13, r14, r15, r16, r18, r19, r20, r21, r22, r23, r24, r25, r26, r29, r30, r31, r32, r33, r34, r35, r36, r37, r38, r39, r40, r42, r43, r44, r46, r47, r48, r49, r50, r51, r52, r53, r54, r55, r56, r57, r58, r59, r60, r61, r62, r63, r64, r65, r66, r67, r68, r69, r70, r71, r72, r73, r74, r75, r76, r77, r78, r79, r80, r81, r82, r83, r84, r85, r86, r87, w10, w11, w12, w13, w18, w19, w20, w21, w22, w23, w24, w25, w26, w30, w31, w32, w33, w34, w35, w36, w38, w39, w40, w43, w44, w46, w47, w48, w49, w50, w51, w52, w53, w54, w55, w56, w57, w58, w59, w60, w61, w62, w63, w64, w65, w66, w67, w68, w69, w70, w71, w72, w73, w74, w75, w76, w77, w78, w79, w80, w81, w82, w83, w84, w85, w86, w87, hi_hit, hi_row, hi_col, hj_hit, hj_row, hj_col, hi_sj, hj_si, hq_si, hq_sj, hi_sq, hj_sq, hi_srh, hi_srm]
  · left
    have w1 := (T.2.2.2.1 w hw).1
    have m0 : ¬ nI w < 0 := nI_pos (by omega)
    have m1 : ¬ nI nw ≤ nI w := by rw [nI_leI (by omega) (by omega)]; omega
    have m2 : ¬ nI 10 ≤ nI w := by rw [nI_leI (by omega) (by omega)]; omega
    have m3 : ¬ nI nw - 1 < nI w := by rw [Int32.lt_iff_toInt_lt, sub, nI_toInt (by omega)]; omega
    have w10' : w < 10 := by omega
    refine ⟨w, hw, rfl, ?_, fun g Xg e => ?_⟩
    · unfold f_X8_workerAt
      simp (disch := (first | assumption | (simp only [FX_si, FX_sj, FX_sr, WX_si, WX_sj, WX_sr, FK_si, FK_sj, FK_sr]; assumption) | omega | decide)) only [m0, e3, m1, m2, w1, ↓reduceIte, if_true, if_false, i10, i01, eq_self, wq7, wq8, wq9, wq10, wrc, wgi, wpi, wpz, wn1, wn2, wn3, wn4, wr1, wr2, wr3, wr4, ww1, ww2, ww3, ww4, fgi, fgq, fpi, frc, at18, at19, at21, at22, at23, at24, at25, at26, at_neg, wat1, wat2, wat3, wat4, reduceCtorEq, bd_some, b1_some, b2_some, b3_some, b4_some, c1_eq, elim_inl, elim_inr, zok0, zok1, getQ_si, getQ_sj, getQ_sr, q8_0, q8_1, q8_2, q8_4, q8_7, q8_8, q8_9, q8_10, q8_11, q9_0, q9_3, q9_4, q9_8, q17_0, q17_1, q17_2, q17_4, q17_5, q17_6, q17_9, q17_10, q17_11, q27_4, q27_5, q27_6, q27_7, q27_8, q27_11, q45_0, q45_1, q45_11, q45_12, q45_13, q45_14, q45_15, q45_16, q45_17, q45_18, q45_19, q45_20, q45_21, q45_22, q45_23, q45_24, q45_30, q45_31, q45_32, q45_33, q45_34, q45_35, q45_36, q45_37, q45_38, q45_39, q45_43, q45_44, q45_45, q45_46, q45_47, q45_48, q45_52, q45_53, q45_54, q45_59, q45_60, q45_61, q45_62, q45_65, q45_67, q45_68, gi8, gj8, pi8, pz8, pj8, rc8, gi9, gj9, pi9, pz9, pj9, rc9, gi17, gj17, pi17, pz17, pj17, rc17, gi27, gj27, pi27, pz27, pj27, rc27, gi45, gj45, pi45, pz45, pj45, rc45, aln_si, aln_sj, aln_sq, rc_si, rc_sj, rc_sq, n0, n1, n10, n11, n12, n13, n14, n15, n16, n18, n19, n20, n21, n22, n23, n24, n25, n26, n29, n30, n31, n32, n33, n34, n35, n36, n37, n38, n39, n40, n42, n43, n44, n46, n47, n48, n49, n50, n51, n52, n53, n54, n55, n56, n57, n58, n59, n60, n61, n62, n63, n64, n65, n66, n67, n68, n69, n70, n71, n72, n73, n74, n75, n76, n77, n78, n79, n80, n81, n82, n83, n84, n85, n86, n87, r0, r1, r10, r11, r12, r13, r14, r15, r16, r18, r19, r20, r21, r22, r23, r24, r25, r26, r29, r30, r31, r32, r33, r34, r35, r36, r37, r38, r39, r40, r42, r43, r44, r46, r47, r48, r49, r50, r51, r52, r53, r54, r55, r56, r57, r58, r59, r60, r61, r62, r63, r64, r65, r66, r67, r68, r69, r70, r71, r72, r73, r74, r75, r76, r77, r78, r79, r80, r81, r82, r83, r84, r85, r86, r87, w10, w11, w12, w13, w18, w19, w20, w21, w22, w23, w24, w25, w26, w30, w31, w32, w33, w34, w35, w36, w38, w39, w40, w43, w44, w46, w47, w48, w49, w50, w51, w52, w53, w54, w55, w56, w57, w58, w59, w60, w61, w62, w63, w64, w65, w66, w67, w68, w69, w70, w71, w72, w73, w74, w75, w76, w77, w78, w79, w80, w81, w82, w83, w84, w85, w86, w87, hi_hit, hi_row, hi_col, hj_hit, hj_row, hj_col, hi_sj, hj_si, hq_si, hq_sj, hi_sq, hj_sq, hi_srh, hi_srm]
    · have ii := m_isIn (nI w) 0 (nI nw - 1) g
      rw [if_pos (by simp [m0, m3])] at ii
      unfold f_X9_isWorker
      simp (disch := (first | assumption | (simp only [FX_si, FX_sj, FX_sr, WX_si, WX_sj, WX_sr, FK_si, FK_sj, FK_sr]; assumption) | omega | decide)) only [e, ii, ↓reduceIte, if_true, if_false, i10, i01, eq_self, wq7, wq8, wq9, wq10, wrc, wgi, wpi, wpz, wn1, wn2, wn3, wn4, wr1, wr2, wr3, wr4, ww1, ww2, ww3, ww4, fgi, fgq, fpi, frc, at18, at19, at21, at22, at23, at24, at25, at26, at_neg, wat1, wat2, wat3, wat4, reduceCtorEq, bd_some, b1_some, b2_some, b3_some, b4_some, c1_eq, elim_inl, elim_inr, zok0, zok1, getQ_si, getQ_sj, getQ_sr, q8_0, q8_1, q8_2, q8_4, q8_7, q8_8, q8_9, q8_10, q8_11, q9_0, q9_3, q9_4, q9_8, q17_0, q17_1, q17_2, q17_4, q17_5, q17_6, q17_9, q17_10, q17_11, q27_4, q27_5, q27_6, q27_7, q27_8, q27_11, q45_0, q45_1, q45_11, q45_12, q45_13, q45_14, q45_15, q45_16, q45_17, q45_18, q45_19, q45_20, q45_21, q45_22, q45_23, q45_24, q45_30, q45_31, q45_32, q45_33, q45_34, q45_35, q45_36, q45_37, q45_38, q45_39, q45_43, q45_44, q45_45, q45_46, q45_47, q45_48, q45_52, q45_53, q45_54, q45_59, q45_60, q45_61, q45_62, q45_65, q45_67, q45_68, gi8, gj8, pi8, pz8, pj8, rc8, gi9, gj9, pi9, pz9, pj9, rc9, gi17, gj17, pi17, pz17, pj17, rc17, gi27, gj27, pi27, pz27, pj27, rc27, gi45, gj45, pi45, pz45, pj45, rc45, aln_si, aln_sj, aln_sq, rc_si, rc_sj, rc_sq, n0, n1, n10, n11, n12, n13, n14, n15, n16, n18, n19, n20, n21, n22, n23, n24, n25, n26, n29, n30, n31, n32, n33, n34, n35, n36, n37, n38, n39, n40, n42, n43, n44, n46, n47, n48, n49, n50, n51, n52, n53, n54, n55, n56, n57, n58, n59, n60, n61, n62, n63, n64, n65, n66, n67, n68, n69, n70, n71, n72, n73, n74, n75, n76, n77, n78, n79, n80, n81, n82, n83, n84, n85, n86, n87, r0, r1, r10, r11, r12, r13, r14, r15, r16, r18, r19, r20, r21, r22, r23, r24, r25, r26, r29, r30, r31, r32, r33, r34, r35, r36, r37, r38, r39, r40, r42, r43, r44, r46, r47, r48, r49, r50, r51, r52, r53, r54, r55, r56, r57, r58, r59, r60, r61, r62, r63, r64, r65, r66, r67, r68, r69, r70, r71, r72, r73, r74, r75, r76, r77, r78, r79, r80, r81, r82, r83, r84, r85, r86, r87, w10, w11, w12, w13, w18, w19, w20, w21, w22, w23, w24, w25, w26, w30, w31, w32, w33, w34, w35, w36, w38, w39, w40, w43, w44, w46, w47, w48, w49, w50, w51, w52, w53, w54, w55, w56, w57, w58, w59, w60, w61, w62, w63, w64, w65, w66, w67, w68, w69, w70, w71, w72, w73, w74, w75, w76, w77, w78, w79, w80, w81, w82, w83, w84, w85, w86, w87, hi_hit, hi_row, hi_col, hj_hit, hj_row, hj_col, hi_sj, hj_si, hq_si, hq_sj, hi_sq, hj_sq, hi_srh, hi_srm]
theorem fact_cases (X : FX h) (T : STC h nw nf F A pls tms tme wa fa) (hnf : nf ≤ 250) (st v : Int32) :
    (∃ f, f < nf ∧ v = nI f ∧ F 0 f = st ∧ f_X8_factOf 8 st v h = some (some (fa f), h) ∧ ∀ g, FX g → hi g 45 41 = nI nf → vF g = F → f_X9_isOf 45 v st g = some (1, g)) ∨ (f_X8_factOf 8 st v h = some (none, h) ∧ ∀ g, FX g → hi g 45 41 = nI nf → vF g = F → f_X9_isOf 45 v st g = some (0, g)) := by
  have e5 := T.2.1
  rcases pk_ix v (n := nf) (by omega) with q | q | ⟨f, hf, rfl⟩
  · right
    refine ⟨?_, fun g Xg e _ => by unfold f_X9_isOf; rw [if_pos q, b1_some]; rfl⟩
    unfold f_X8_factOf f_X8_factAt
    rw [rc8 X, bd_some, if_pos q, b1_some, b1_some, if_pos rfl, b1_some]
  · right
    have qi := Int32.le_iff_toInt_le.mp q
    rw [nI_toInt (by omega)] at qi
    have n0' : ¬ v < 0 := fun z => by
      have h1 := Int32.lt_iff_toInt_lt.mp z
      rw [show (0 : Int32).toInt = 0 from rfl] at h1
      omega
    have fa' : f_X8_factAt 8 v h = some (none, h) := by
      unfold f_X8_factAt
      simp (disch := (first | assumption | (simp only [FX_si, FX_sj, FX_sr, WX_si, WX_sj, WX_sr, FK_si, FK_sj, FK_sr]; assumption) | omega | decide)) only [n0', e5, q, ↓reduceIte, if_true, if_false, i10, i01, eq_self, wq7, wq8, wq9, wq10, wrc, wgi, wpi, wpz, wn1, wn2, wn3, wn4, wr1, wr2, wr3, wr4, ww1, ww2, ww3, ww4, fgi, fgq, fpi, frc, at18, at19, at21, at22, at23, at24, at25, at26, at_neg, wat1, wat2, wat3, wat4, reduceCtorEq, bd_some, b1_some, b2_some, b3_some, b4_some, c1_eq, elim_inl, elim_inr, zok0, zok1, getQ_si, getQ_sj, getQ_sr, q8_0, q8_1, q8_2, q8_4, q8_7, q8_8, q8_9, q8_10, q8_11, q9_0, q9_3, q9_4, q9_8, q17_0, q17_1, q17_2, q17_4, q17_5, q17_6, q17_9, q17_10, q17_11, q27_4, q27_5, q27_6, q27_7, q27_8, q27_11, q45_0, q45_1, q45_11, q45_12, q45_13, q45_14, q45_15, q45_16, q45_17, q45_18, q45_19, q45_20, q45_21, q45_22, q45_23, q45_24, q45_30, q45_31, q45_32, q45_33, q45_34, q45_35, q45_36, q45_37, q45_38, q45_39, q45_43, q45_44, q45_45, q45_46, q45_47, q45_48, q45_52, q45_53, q45_54, q45_59, q45_60, q45_61, q45_62, q45_65, q45_67, q45_68, gi8, gj8, pi8, pz8, pj8, rc8, gi9, gj9, pi9, pz9, pj9, rc9, gi17, gj17, pi17, pz17, pj17, rc17, gi27, gj27, pi27, pz27, pj27, rc27, gi45, gj45, pi45, pz45, pj45, rc45, aln_si, aln_sj, aln_sq, rc_si, rc_sj, rc_sq, n0, n1, n10, n11, n12, n13, n14, n15, n16, n18, n19, n20, n21, n22, n23, n24, n25, n26, n29, n30, n31, n32, n33, n34, n35, n36, n37, n38, n39, n40, n42, n43, n44, n46, n47, n48, n49, n50, n51, n52, n53, n54, n55, n56, n57, n58, n59, n60, n61, n62, n63, n64, n65, n66, n67, n68, n69, n70, n71, n72, n73, n74, n75, n76, n77, n78, n79, n80, n81, n82, n83, n84, n85, n86, n87, r0, r1, r10, r11, r12, r13, r14, r15, r16, r18, r19, r20, r21, r22, r23, r24, r25, r26, r29, r30, r31, r32, r33, r34, r35, r36, r37, r38, r39, r40, r42, r43, r44, r46, r47, r48, r49, r50, r51, r52, r53, r54, r55, r56, r57, r58, r59, r60, r61, r62, r63, r64, r65, r66, r67, r68, r69, r70, r71, r72, r73, r74, r75, r76, r77, r78, r79, r80, r81, r82, r83, r84, r85, r86, r87, w10, w11, w12, w13, w18, w19, w20, w21, w22, w23, w24, w25, w26, w30, w31, w32, w33, w34, w35, w36, w38, w39, w40, w43, w44, w46, w47, w48, w49, w50, w51, w52, w53, w54, w55, w56, w57, w58, w59, w60, w61, w62, w63, w64, w65, w66, w67, w68, w69, w70, w71, w72, w73, w74, w75, w76, w77, w78, w79, w80, w81, w82, w83, w84, w85, w86, w87, hi_hit, hi_row, hi_col, hj_hit, hj_row, hj_col, hi_sj, hj_si, hq_si, hq_sj, hi_sq, hj_sq, hi_srh, hi_srm]
    refine ⟨?_, fun g Xg e _ => ?_⟩
    · unfold f_X8_factOf
      simp (disch := (first | assumption | (simp only [FX_si, FX_sj, FX_sr, WX_si, WX_sj, WX_sr, FK_si, FK_sj, FK_sr]; assumption) | omega | decide)) only [fa', ↓reduceIte, if_true, if_false, i10, i01, eq_self, wq7, wq8, wq9, wq10, wrc, wgi, wpi, wpz, wn1, wn2, wn3, wn4, wr1, wr2, wr3, wr4, ww1, ww2, ww3, ww4, fgi, fgq, fpi, frc, at18, at19, at21, at22, at23, at24, at25, at26, at_neg, wat1, wat2, wat3, wat4, reduceCtorEq, bd_some, b1_some, b2_some, b3_some, b4_some, c1_eq, elim_inl, elim_inr, zok0, zok1, getQ_si, getQ_sj, getQ_sr, q8_0, q8_1, q8_2, q8_4, q8_7, q8_8, q8_9, q8_10, q8_11, q9_0, q9_3, q9_4, q9_8, q17_0, q17_1, q17_2, q17_4, q17_5, q17_6, q17_9, q17_10, q17_11, q27_4, q27_5, q27_6, q27_7, q27_8, q27_11, q45_0, q45_1, q45_11, q45_12, q45_13, q45_14, q45_15, q45_16, q45_17, q45_18, q45_19, q45_20, q45_21, q45_22, q45_23, q45_24, q45_30, q45_31, q45_32, q45_33, q45_34, q45_35, q45_36, q45_37, q45_38, q45_39, q45_43, q45_44, q45_45, q45_46, q45_47, q45_48, q45_52, q45_53, q45_54, q45_59, q45_60, q45_61, q45_62, q45_65, q45_67, q45_68, gi8, gj8, pi8, pz8, pj8, rc8, gi9, gj9, pi9, pz9, pj9, rc9, gi17, gj17, pi17, pz17, pj17, rc17, gi27, gj27, pi27, pz27, pj27, rc27, gi45, gj45, pi45, pz45, pj45, rc45, aln_si, aln_sj, aln_sq, rc_si, rc_sj, rc_sq, n0, n1, n10, n11, n12, n13, n14, n15, n16, n18, n19, n20, n21, n22, n23, n24, n25, n26, n29, n30, n31, n32, n33, n34, n35, n36, n37, n38, n39, n40, n42, n43, n44, n46, n47, n48, n49, n50, n51, n52, n53, n54, n55, n56, n57, n58, n59, n60, n61, n62, n63, n64, n65, n66, n67, n68, n69, n70, n71, n72, n73, n74, n75, n76, n77, n78, n79, n80, n81, n82, n83, n84, n85, n86, n87, r0, r1, r10, r11, r12, r13, r14, r15, r16, r18, r19, r20, r21, r22, r23, r24, r25, r26, r29, r30, r31, r32, r33, r34, r35, r36, r37, r38, r39, r40, r42, r43, r44, r46, r47, r48, r49, r50, r51, r52, r53, r54, r55, r56, r57, r58, r59, r60, r61, r62, r63, r64, r65, r66, r67, r68, r69, r70, r71, r72, r73, r74, r75, r76, r77, r78, r79, r80, r81, r82, r83, r84, r85, r86, r87, w10, w11, w12, w13, w18, w19, w20, w21, w22, w23, w24, w25, w26, w30, w31, w32, w33, w34, w35, w36, w38, w39, w40, w43, w44, w46, w47, w48, w49, w50, w51, w52, w53, w54, w55, w56, w57, w58, w59, w60, w61, w62, w63, w64, w65, w66, w67, w68, w69, w70, w71, w72, w73, w74, w75, w76, w77, w78, w79, w80, w81, w82, w83, w84, w85, w86, w87, hi_hit, hi_row, hi_col, hj_hit, hj_row, hj_col, hi_sj, hj_si, hq_si, hq_sj, hi_sq, hj_sq, hi_srh, hi_srm]
    · unfold f_X9_isOf
      simp (disch := (first | assumption | (simp only [FX_si, FX_sj, FX_sr, WX_si, WX_sj, WX_sr, FK_si, FK_sj, FK_sr]; assumption) | omega | decide)) only [n0', e, q, ↓reduceIte, if_true, if_false, i10, i01, eq_self, wq7, wq8, wq9, wq10, wrc, wgi, wpi, wpz, wn1, wn2, wn3, wn4, wr1, wr2, wr3, wr4, ww1, ww2, ww3, ww4, fgi, fgq, fpi, frc, at18, at19, at21, at22, at23, at24, at25, at26, at_neg, wat1, wat2, wat3, wat4, reduceCtorEq, bd_some, b1_some, b2_some, b3_some, b4_some, c1_eq, elim_inl, elim_inr, zok0, zok1, getQ_si, getQ_sj, getQ_sr, q8_0, q8_1, q8_2, q8_4, q8_7, q8_8, q8_9, q8_10, q8_11, q9_0, q9_3, q9_4, q9_8, q17_0, q17_1, q17_2, q17_4, q17_5, q17_6, q17_9, q17_10, q17_11, q27_4, q27_5, q27_6, q27_7, q27_8, q27_11, q45_0, q45_1, q45_11, q45_12, q45_13, q45_14, q45_15, q45_16, q45_17, q45_18, q45_19, q45_20, q45_21, q45_22, q45_23, q45_24, q45_30, q45_31, q45_32, q45_33, q45_34, q45_35, q45_36, q45_37, q45_38, q45_39, q45_43, q45_44, q45_45, q45_46, q45_47, q45_48, q45_52, q45_53, q45_54, q45_59, q45_60, q45_61, q45_62, q45_65, q45_67, q45_68, gi8, gj8, pi8, pz8, pj8, rc8, gi9, gj9, pi9, pz9, pj9, rc9, gi17, gj17, pi17, pz17, pj17, rc17, gi27, gj27, pi27, pz27, pj27, rc27, gi45, gj45, pi45, pz45, pj45, rc45, aln_si, aln_sj, aln_sq, rc_si, rc_sj, rc_sq, n0, n1, n10, n11, n12, n13, n14, n15, n16, n18, n19, n20, n21, n22, n23, n24, n25, n26, n29, n30, n31, n32, n33, n34, n35, n36, n37, n38, n39, n40, n42, n43, n44, n46, n47, n48, n49, n50, n51, n52, n53, n54, n55, n56, n57, n58, n59, n60, n61, n62, n63, n64, n65, n66, n67, n68, n69, n70, n71, n72, n73, n74, n75, n76, n77, n78, n79, n80, n81, n82, n83, n84, n85, n86, n87, r0, r1, r10, r11, r12, r13, r14, r15, r16, r18, r19, r20, r21, r22, r23, r24, r25, r26, r29, r30, r31, r32, r33, r34, r35, r36, r37, r38, r39, r40, r42, r43, r44, r46, r47, r48, r49, r50, r51, r52, r53, r54, r55, r56, r57, r58, r59, r60, r61, r62, r63, r64, r65, r66, r67, r68, r69, r70, r71, r72, r73, r74, r75, r76, r77, r78, r79, r80, r81, r82, r83, r84, r85, r86, r87, w10, w11, w12, w13, w18, w19, w20, w21, w22, w23, w24, w25, w26, w30, w31, w32, w33, w34, w35, w36, w38, w39, w40, w43, w44, w46, w47, w48, w49, w50, w51, w52, w53, w54, w55, w56, w57, w58, w59, w60, w61, w62, w63, w64, w65, w66, w67, w68, w69, w70, w71, w72, w73, w74, w75, w76, w77, w78, w79, w80, w81, w82, w83, w84, w85, w86, w87, hi_hit, hi_row, hi_col, hj_hit, hj_row, hj_col, hi_sj, hj_si, hq_si, hq_sj, hi_sq, hj_sq, hi_srh, hi_srm]
  · have c1 := T.2.2.2.2.1 f hf
    have K : FK h (fa f) := c1.2.1
    have q16 := T.2.2.2.2.2.1 f hf
    have m0 : ¬ nI f < 0 := nI_pos (by omega)
    have m1 : ¬ nI nf ≤ nI f := by rw [nI_leI (by omega) (by omega)]; omega
    have m2 : ¬ nI 250 ≤ nI f := by rw [nI_leI (by omega) (by omega)]; omega
    have f250 : f < 250 := by omega
    have fa' : f_X8_factAt 8 (nI f) h = some (some (fa f), h) := by
      unfold f_X8_factAt
      simp (disch := (first | assumption | (simp only [FX_si, FX_sj, FX_sr, WX_si, WX_sj, WX_sr, FK_si, FK_sj, FK_sr]; assumption) | omega | decide)) only [m0, e5, m1, m2, q16, ↓reduceIte, if_true, if_false, i10, i01, eq_self, wq7, wq8, wq9, wq10, wrc, wgi, wpi, wpz, wn1, wn2, wn3, wn4, wr1, wr2, wr3, wr4, ww1, ww2, ww3, ww4, fgi, fgq, fpi, frc, at18, at19, at21, at22, at23, at24, at25, at26, at_neg, wat1, wat2, wat3, wat4, reduceCtorEq, bd_some, b1_some, b2_some, b3_some, b4_some, c1_eq, elim_inl, elim_inr, zok0, zok1, getQ_si, getQ_sj, getQ_sr, q8_0, q8_1, q8_2, q8_4, q8_7, q8_8, q8_9, q8_10, q8_11, q9_0, q9_3, q9_4, q9_8, q17_0, q17_1, q17_2, q17_4, q17_5, q17_6, q17_9, q17_10, q17_11, q27_4, q27_5, q27_6, q27_7, q27_8, q27_11, q45_0, q45_1, q45_11, q45_12, q45_13, q45_14, q45_15, q45_16, q45_17, q45_18, q45_19, q45_20, q45_21, q45_22, q45_23, q45_24, q45_30, q45_31, q45_32, q45_33, q45_34, q45_35, q45_36, q45_37, q45_38, q45_39, q45_43, q45_44, q45_45, q45_46, q45_47, q45_48, q45_52, q45_53, q45_54, q45_59, q45_60, q45_61, q45_62, q45_65, q45_67, q45_68, gi8, gj8, pi8, pz8, pj8, rc8, gi9, gj9, pi9, pz9, pj9, rc9, gi17, gj17, pi17, pz17, pj17, rc17, gi27, gj27, pi27, pz27, pj27, rc27, gi45, gj45, pi45, pz45, pj45, rc45, aln_si, aln_sj, aln_sq, rc_si, rc_sj, rc_sq, n0, n1, n10, n11, n12, n13, n14, n15, n16, n18, n19, n20, n21, n22, n23, n24, n25, n26, n29, n30, n31, n32, n33, n34, n35, n36, n37, n38, n39, n40, n42, n43, n44, n46, n47, n48, n49, n50, n51, n52, n53, n54, n55, n56, n57, n58, n59, n60, n61, n62, n63, n64, n65, n66, n67, n68, n69, n70, n71, n72, n73, n74, n75, n76, n77, n78, n79, n80, n81, n82, n83, n84, n85, n86, n87, r0, r1, r10, r11, r12, r13, r14, r15, r16, r18, r19, r20, r21, r22, r23, r24, r25, r26, r29, r30, r31, r32, r33, r34, r35, r36, r37, r38, r39, r40, r42, r43, r44, r46, r47, r48, r49, r50, r51, r52, r53, r54, r55, r56, r57, r58, r59, r60, r61, r62, r63, r64, r65, r66, r67, r68, r69, r70, r71, r72, r73, r74, r75, r76, r77, r78, r79, r80, r81, r82, r83, r84, r85, r86, r87, w10, w11, w12, w13, w18, w19, w20, w21, w22, w23, w24, w25, w26, w30, w31, w32, w33, w34, w35, w36, w38, w39, w40, w43, w44, w46, w47, w48, w49, w50, w51, w52, w53, w54, w55, w56, w57, w58, w59, w60, w61, w62, w63, w64, w65, w66, w67, w68, w69, w70, w71, w72, w73, w74, w75, w76, w77, w78, w79, w80, w81, w82, w83, w84, w85, w86, w87, hi_hit, hi_row, hi_col, hj_hit, hj_row, hj_col, hi_sj, hj_si, hq_si, hq_sj, hi_sq, hj_sq, hi_srh, hi_srm]
    have so := c1.2.2.2.1
    by_cases c : F 0 f = st
    · left
      rw [c] at so
      refine ⟨f, hf, rfl, c, ?_, fun g Xg e ev => ?_⟩
      · unfold f_X8_factOf
        simp (disch := (first | assumption | (simp only [FX_si, FX_sj, FX_sr, WX_si, WX_sj, WX_sr, FK_si, FK_sj, FK_sr]; assumption) | omega | decide)) only [fa', so, ↓reduceIte, if_true, if_false, i10, i01, eq_self, wq7, wq8, wq9, wq10, wrc, wgi, wpi, wpz, wn1, wn2, wn3, wn4, wr1, wr2, wr3, wr4, ww1, ww2, ww3, ww4, fgi, fgq, fpi, frc, at18, at19, at21, at22, at23, at24, at25, at26, at_neg, wat1, wat2, wat3, wat4, reduceCtorEq, bd_some, b1_some, b2_some, b3_some, b4_some, c1_eq, elim_inl, elim_inr, zok0, zok1, getQ_si, getQ_sj, getQ_sr, q8_0, q8_1, q8_2, q8_4, q8_7, q8_8, q8_9, q8_10, q8_11, q9_0, q9_3, q9_4, q9_8, q17_0, q17_1, q17_2, q17_4, q17_5, q17_6, q17_9, q17_10, q17_11, q27_4, q27_5, q27_6, q27_7, q27_8, q27_11, q45_0, q45_1, q45_11, q45_12, q45_13, q45_14, q45_15, q45_16, q45_17, q45_18, q45_19, q45_20, q45_21, q45_22, q45_23, q45_24, q45_30, q45_31, q45_32, q45_33, q45_34, q45_35, q45_36, q45_37, q45_38, q45_39, q45_43, q45_44, q45_45, q45_46, q45_47, q45_48, q45_52, q45_53, q45_54, q45_59, q45_60, q45_61, q45_62, q45_65, q45_67, q45_68, gi8, gj8, pi8, pz8, pj8, rc8, gi9, gj9, pi9, pz9, pj9, rc9, gi17, gj17, pi17, pz17, pj17, rc17, gi27, gj27, pi27, pz27, pj27, rc27, gi45, gj45, pi45, pz45, pj45, rc45, aln_si, aln_sj, aln_sq, rc_si, rc_sj, rc_sq, n0, n1, n10, n11, n12, n13, n14, n15, n16, n18, n19, n20, n21, n22, n23, n24, n25, n26, n29, n30, n31, n32, n33, n34, n35, n36, n37, n38, n39, n40, n42, n43, n44, n46, n47, n48, n49, n50, n51, n52, n53, n54, n55, n56, n57, n58, n59, n60, n61, n62, n63, n64, n65, n66, n67, n68, n69, n70, n71, n72, n73, n74, n75, n76, n77, n78, n79, n80, n81, n82, n83, n84, n85, n86, n87, r0, r1, r10, r11, r12, r13, r14, r15, r16, r18, r19, r20, r21, r22, r23, r24, r25, r26, r29, r30, r31, r32, r33, r34, r35, r36, r37, r38, r39, r40, r42, r43, r44, r46, r47, r48, r49, r50, r51, r52, r53, r54, r55, r56, r57, r58, r59, r60, r61, r62, r63, r64, r65, r66, r67, r68, r69, r70, r71, r72, r73, r74, r75, r76, r77, r78, r79, r80, r81, r82, r83, r84, r85, r86, r87, w10, w11, w12, w13, w18, w19, w20, w21, w22, w23, w24, w25, w26, w30, w31, w32, w33, w34, w35, w36, w38, w39, w40, w43, w44, w46, w47, w48, w49, w50, w51, w52, w53, w54, w55, w56, w57, w58, w59, w60, w61, w62, w63, w64, w65, w66, w67, w68, w69, w70, w71, w72, w73, w74, w75, w76, w77, w78, w79, w80, w81, w82, w83, w84, w85, w86, w87, hi_hit, hi_row, hi_col, hj_hit, hj_row, hj_col, hi_sj, hj_si, hq_si, hq_sj, hi_sq, hj_sq, hi_srh, hi_srm]
      · have e64 : hi g 64 f = st := by rw [← c, ← ev]; rfl
        unfold f_X9_isOf
        simp (disch := (first | assumption | (simp only [FX_si, FX_sj, FX_sr, WX_si, WX_sj, WX_sr, FK_si, FK_sj, FK_sr]; assumption) | omega | decide)) only [m0, e, m1, e64, ↓reduceIte, if_true, if_false, i10, i01, eq_self, wq7, wq8, wq9, wq10, wrc, wgi, wpi, wpz, wn1, wn2, wn3, wn4, wr1, wr2, wr3, wr4, ww1, ww2, ww3, ww4, fgi, fgq, fpi, frc, at18, at19, at21, at22, at23, at24, at25, at26, at_neg, wat1, wat2, wat3, wat4, reduceCtorEq, bd_some, b1_some, b2_some, b3_some, b4_some, c1_eq, elim_inl, elim_inr, zok0, zok1, getQ_si, getQ_sj, getQ_sr, q8_0, q8_1, q8_2, q8_4, q8_7, q8_8, q8_9, q8_10, q8_11, q9_0, q9_3, q9_4, q9_8, q17_0, q17_1, q17_2, q17_4, q17_5, q17_6, q17_9, q17_10, q17_11, q27_4, q27_5, q27_6, q27_7, q27_8, q27_11, q45_0, q45_1, q45_11, q45_12, q45_13, q45_14, q45_15, q45_16, q45_17, q45_18, q45_19, q45_20, q45_21, q45_22, q45_23, q45_24, q45_30, q45_31, q45_32, q45_33, q45_34, q45_35, q45_36, q45_37, q45_38, q45_39, q45_43, q45_44, q45_45, q45_46, q45_47, q45_48, q45_52, q45_53, q45_54, q45_59, q45_60, q45_61, q45_62, q45_65, q45_67, q45_68, gi8, gj8, pi8, pz8, pj8, rc8, gi9, gj9, pi9, pz9, pj9, rc9, gi17, gj17, pi17, pz17, pj17, rc17, gi27, gj27, pi27, pz27, pj27, rc27, gi45, gj45, pi45, pz45, pj45, rc45, aln_si, aln_sj, aln_sq, rc_si, rc_sj, rc_sq, n0, n1, n10, n11, n12, n13, n14, n15, n16, n18, n19, n20, n21, n22, n23, n24, n25, n26, n29, n30, n31, n32, n33, n34, n35, n36, n37, n38, n39, n40, n42, n43, n44, n46, n47, n48, n49, n50, n51, n52, n53, n54, n55, n56, n57, n58, n59, n60, n61, n62, n63, n64, n65, n66, n67, n68, n69, n70, n71, n72, n73, n74, n75, n76, n77, n78, n79, n80, n81, n82, n83, n84, n85, n86, n87, r0, r1, r10, r11, r12, r13, r14, r15, r16, r18, r19, r20, r21, r22, r23, r24, r25, r26, r29, r30, r31, r32, r33, r34, r35, r36, r37, r38, r39, r40, r42, r43, r44, r46, r47, r48, r49, r50, r51, r52, r53, r54, r55, r56, r57, r58, r59, r60, r61, r62, r63, r64, r65, r66, r67, r68, r69, r70, r71, r72, r73, r74, r75, r76, r77, r78, r79, r80, r81, r82, r83, r84, r85, r86, r87, w10, w11, w12, w13, w18, w19, w20, w21, w22, w23, w24, w25, w26, w30, w31, w32, w33, w34, w35, w36, w38, w39, w40, w43, w44, w46, w47, w48, w49, w50, w51, w52, w53, w54, w55, w56, w57, w58, w59, w60, w61, w62, w63, w64, w65, w66, w67, w68, w69, w70, w71, w72, w73, w74, w75, w76, w77, w78, w79, w80, w81, w82, w83, w84, w85, w86, w87, hi_hit, hi_row, hi_col, hj_hit, hj_row, hj_col, hi_sj, hj_si, hq_si, hq_sj, hi_sq, hj_sq, hi_srh, hi_srm]
    · right
      have so' : ¬ hi h (fa f) 1 = st := by rw [so]; exact c
      refine ⟨?_, fun g Xg e ev => ?_⟩
      · unfold f_X8_factOf
        simp (disch := (first | assumption | (simp only [FX_si, FX_sj, FX_sr, WX_si, WX_sj, WX_sr, FK_si, FK_sj, FK_sr]; assumption) | omega | decide)) only [fa', so', ↓reduceIte, if_true, if_false, i10, i01, eq_self, wq7, wq8, wq9, wq10, wrc, wgi, wpi, wpz, wn1, wn2, wn3, wn4, wr1, wr2, wr3, wr4, ww1, ww2, ww3, ww4, fgi, fgq, fpi, frc, at18, at19, at21, at22, at23, at24, at25, at26, at_neg, wat1, wat2, wat3, wat4, reduceCtorEq, bd_some, b1_some, b2_some, b3_some, b4_some, c1_eq, elim_inl, elim_inr, zok0, zok1, getQ_si, getQ_sj, getQ_sr, q8_0, q8_1, q8_2, q8_4, q8_7, q8_8, q8_9, q8_10, q8_11, q9_0, q9_3, q9_4, q9_8, q17_0, q17_1, q17_2, q17_4, q17_5, q17_6, q17_9, q17_10, q17_11, q27_4, q27_5, q27_6, q27_7, q27_8, q27_11, q45_0, q45_1, q45_11, q45_12, q45_13, q45_14, q45_15, q45_16, q45_17, q45_18, q45_19, q45_20, q45_21, q45_22, q45_23, q45_24, q45_30, q45_31, q45_32, q45_33, q45_34, q45_35, q45_36, q45_37, q45_38, q45_39, q45_43, q45_44, q45_45, q45_46, q45_47, q45_48, q45_52, q45_53, q45_54, q45_59, q45_60, q45_61, q45_62, q45_65, q45_67, q45_68, gi8, gj8, pi8, pz8, pj8, rc8, gi9, gj9, pi9, pz9, pj9, rc9, gi17, gj17, pi17, pz17, pj17, rc17, gi27, gj27, pi27, pz27, pj27, rc27, gi45, gj45, pi45, pz45, pj45, rc45, aln_si, aln_sj, aln_sq, rc_si, rc_sj, rc_sq, n0, n1, n10, n11, n12, n13, n14, n15, n16, n18, n19, n20, n21, n22, n23, n24, n25, n26, n29, n30, n31, n32, n33, n34, n35, n36, n37, n38, n39, n40, n42, n43, n44, n46, n47, n48, n49, n50, n51, n52, n53, n54, n55, n56, n57, n58, n59, n60, n61, n62, n63, n64, n65, n66, n67, n68, n69, n70, n71, n72, n73, n74, n75, n76, n77, n78, n79, n80, n81, n82, n83, n84, n85, n86, n87, r0, r1, r10, r11, r12, r13, r14, r15, r16, r18, r19, r20, r21, r22, r23, r24, r25, r26, r29, r30, r31, r32, r33, r34, r35, r36, r37, r38, r39, r40, r42, r43, r44, r46, r47, r48, r49, r50, r51, r52, r53, r54, r55, r56, r57, r58, r59, r60, r61, r62, r63, r64, r65, r66, r67, r68, r69, r70, r71, r72, r73, r74, r75, r76, r77, r78, r79, r80, r81, r82, r83, r84, r85, r86, r87, w10, w11, w12, w13, w18, w19, w20, w21, w22, w23, w24, w25, w26, w30, w31, w32, w33, w34, w35, w36, w38, w39, w40, w43, w44, w46, w47, w48, w49, w50, w51, w52, w53, w54, w55, w56, w57, w58, w59, w60, w61, w62, w63, w64, w65, w66, w67, w68, w69, w70, w71, w72, w73, w74, w75, w76, w77, w78, w79, w80, w81, w82, w83, w84, w85, w86, w87, hi_hit, hi_row, hi_col, hj_hit, hj_row, hj_col, hi_sj, hj_si, hq_si, hq_sj, hi_sq, hj_sq, hi_srh, hi_srm]
      · have e64 : ¬ hi g 64 f = st := by
          have : hi g 64 f = F 0 f := by rw [← ev]; rfl
          rw [this]; exact c
        unfold f_X9_isOf
        simp (disch := (first | assumption | (simp only [FX_si, FX_sj, FX_sr, WX_si, WX_sj, WX_sr, FK_si, FK_sj, FK_sr]; assumption) | omega | decide)) only [m0, e, m1, e64, ↓reduceIte, if_true, if_false, i10, i01, eq_self, wq7, wq8, wq9, wq10, wrc, wgi, wpi, wpz, wn1, wn2, wn3, wn4, wr1, wr2, wr3, wr4, ww1, ww2, ww3, ww4, fgi, fgq, fpi, frc, at18, at19, at21, at22, at23, at24, at25, at26, at_neg, wat1, wat2, wat3, wat4, reduceCtorEq, bd_some, b1_some, b2_some, b3_some, b4_some, c1_eq, elim_inl, elim_inr, zok0, zok1, getQ_si, getQ_sj, getQ_sr, q8_0, q8_1, q8_2, q8_4, q8_7, q8_8, q8_9, q8_10, q8_11, q9_0, q9_3, q9_4, q9_8, q17_0, q17_1, q17_2, q17_4, q17_5, q17_6, q17_9, q17_10, q17_11, q27_4, q27_5, q27_6, q27_7, q27_8, q27_11, q45_0, q45_1, q45_11, q45_12, q45_13, q45_14, q45_15, q45_16, q45_17, q45_18, q45_19, q45_20, q45_21, q45_22, q45_23, q45_24, q45_30, q45_31, q45_32, q45_33, q45_34, q45_35, q45_36, q45_37, q45_38, q45_39, q45_43, q45_44, q45_45, q45_46, q45_47, q45_48, q45_52, q45_53, q45_54, q45_59, q45_60, q45_61, q45_62, q45_65, q45_67, q45_68, gi8, gj8, pi8, pz8, pj8, rc8, gi9, gj9, pi9, pz9, pj9, rc9, gi17, gj17, pi17, pz17, pj17, rc17, gi27, gj27, pi27, pz27, pj27, rc27, gi45, gj45, pi45, pz45, pj45, rc45, aln_si, aln_sj, aln_sq, rc_si, rc_sj, rc_sq, n0, n1, n10, n11, n12, n13, n14, n15, n16, n18, n19, n20, n21, n22, n23, n24, n25, n26, n29, n30, n31, n32, n33, n34, n35, n36, n37, n38, n39, n40, n42, n43, n44, n46, n47, n48, n49, n50, n51, n52, n53, n54, n55, n56, n57, n58, n59, n60, n61, n62, n63, n64, n65, n66, n67, n68, n69, n70, n71, n72, n73, n74, n75, n76, n77, n78, n79, n80, n81, n82, n83, n84, n85, n86, n87, r0, r1, r10, r11, r12, r13, r14, r15, r16, r18, r19, r20, r21, r22, r23, r24, r25, r26, r29, r30, r31, r32, r33, r34, r35, r36, r37, r38, r39, r40, r42, r43, r44, r46, r47, r48, r49, r50, r51, r52, r53, r54, r55, r56, r57, r58, r59, r60, r61, r62, r63, r64, r65, r66, r67, r68, r69, r70, r71, r72, r73, r74, r75, r76, r77, r78, r79, r80, r81, r82, r83, r84, r85, r86, r87, w10, w11, w12, w13, w18, w19, w20, w21, w22, w23, w24, w25, w26, w30, w31, w32, w33, w34, w35, w36, w38, w39, w40, w43, w44, w46, w47, w48, w49, w50, w51, w52, w53, w54, w55, w56, w57, w58, w59, w60, w61, w62, w63, w64, w65, w66, w67, w68, w69, w70, w71, w72, w73, w74, w75, w76, w77, w78, w79, w80, w81, w82, w83, w84, w85, w86, w87, hi_hit, hi_row, hi_col, hj_hit, hj_row, hj_col, hi_sj, hj_si, hq_si, hq_sj, hi_sq, hj_sq, hi_srh, hi_srm]
theorem week_cases (v : Int32) : (∃ u, u < 104 ∧ v = nI u ∧ (∀ g, f_X8_isWeek v g = some (1, g)) ∧ ∀ g, f_X9_isWeek v g = some (1, g)) ∨ ((∀ g, f_X8_isWeek v g = some (0, g)) ∧ ∀ g, f_X9_isWeek v g = some (0, g)) := by
  rcases pk_ix v (n := 104) (by omega) with q | q | ⟨u, hu, rfl⟩
  · right
    constructor
    · intro g
      unfold f_X8_isWeek
      rw [c_within, if_neg (by simp [q]), b1_some]
      rfl
    · intro g
      unfold f_X9_isWeek
      rw [m_isIn, if_neg (by simp [q]), b1_some]
      rfl
  · right
    have qi := Int32.le_iff_toInt_le.mp q
    rw [nI_toInt (by omega)] at qi
    have n1' : (103 : Int32) < v := by rw [Int32.lt_iff_toInt_lt, show (103 : Int32).toInt = 103 from rfl]; omega
    constructor
    · intro g
      unfold f_X8_isWeek
      rw [c_within, if_neg (by simp [n1']), b1_some]
      rfl
    · intro g
      unfold f_X9_isWeek
      rw [m_isIn, if_neg (by simp [n1']), b1_some]
      rfl
  · left
    have m0 : ¬ nI u < 0 := nI_pos (by omega)
    have m1 : ¬ (103 : Int32) < nI u := by rw [show (103 : Int32) = nI 103 from rfl, nI_ltI (by omega) (by omega)]; omega
    refine ⟨u, hu, rfl, fun g => c_isWeek hu g, fun g => ?_⟩
    unfold f_X9_isWeek
    rw [m_isIn, if_pos (by simp [m0, m1]), b1_some]
    rfl
/-- an act and a worker's weeks on the sheet -/
theorem c_open {g : Hp} (X : FX g) (T : STC g nw nf F A pls tms tme wa fa) {w b : Nat} (hw : w < nw) {a : Ac} (ca : CA (PW nw wa) g b a) {k : Int32} (cw : CW g (wa w) F (nI w) k nf) (hb : Bool) :
    ∃ g', f_X4_open 27 (some b) (some (wa w)) (bI hb) g = some g' ∧ FrP HQ (fun x j => x = 27 ∨ (32 ≤ x ∧ x ≤ 34)) g g' ∧ SHT (PW nw wa) g' b a (PDh F (nI w) k nf hb) (pls w) (tms w) ∧ hq g' 27 1 = (nx F (nI w) nf 0).map fa := by
  obtain ⟨-, W, w3, w4, w5, w6, w7⟩ := T.2.2.2.1 w hw
  have ga := W.1
  obtain ⟨cw1, cw2, cw3, cw4⟩ := cw
  obtain ⟨a', ea⟩ : ∃ a', a' = wa w := ⟨_, rfl⟩
  rw [← ea] at W w3 w4 w5 w6 w7 ga cw1 cw2 cw3 cw4 ⊢
  obtain ⟨g1, eg1⟩ : ∃ g1, g1 = sq (sq g 27 0 (some b)) 27 1 (hq g a' 2) := ⟨_, rfl⟩
  have fr1 : FrP HQ (fun x j => x = 27 ∨ (32 ≤ x ∧ x ≤ 34)) g g1 := by rw [eg1]; exact (FrP.sq (Or.inr ⟨rfl, by decide⟩)).trans (FrP.sq (Or.inr ⟨rfl, by decide⟩))
  have X0 : FX (sq g 27 0 (some b)) := (FrP.sq (R := fun _ _ => False) (Or.inr ⟨rfl, by decide⟩) : FrP HQ _ g (sq g 27 0 (some b))).fx X HQ_fx
  have X1 := fr1.fx X HQ_fx
  have hi1 : ∀ x j, hi g1 x j = hi g x j := fun x j => by rw [eg1]; rfl
  have wxq : ∀ {g2 : Hp}, FrP HQ (fun x j => x = 27 ∨ (32 ≤ x ∧ x ≤ 34)) g g2 → WX g2 a' := fun {g2} fr => by
    have kq : ∀ j, hq g2 a' j = hq g a' j := fun j => fr.2.1 _ _ (fun q => by rcases q with q | q <;> omega)
    unfold WX at W ⊢
    rw [fr.kd, fr.kd, fr.kd, fr.kd, fr.kd, kq, kq, kq, kq]
    exact W
  have W0 : WX (sq g 27 0 (some b)) a' := wxq (FrP.sq (Or.inr ⟨rfl, by decide⟩))
  obtain ⟨g2, eg2⟩ : ∃ g2, g2 = si (si g1 27 2 (pls w)) 27 3 (tms w) := ⟨_, rfl⟩
  have fr2 : FrP HQ (fun x j => x = 27 ∨ (32 ≤ x ∧ x ≤ 34)) g g2 := by rw [eg2]; exact fr1.trans ((FrP.si (Or.inl rfl)).trans (FrP.si (Or.inl rfl)))
  have X2 := fr2.fx X HQ_fx
  have W1 := wxq fr1
  have W2 := wxq fr2
  have k32 : hk g2 32 = some (10, 624) := X2.kd (by decide) (by decide) rfl
  have c1 := cp_of (i0 := 0) (i1 := 0) (len := 624) W2.2.2.1 k32 (by omega) (by decide) (by decide) (by decide) (by omega) (by omega)
  obtain ⟨g3, eg3⟩ : ∃ g3, g3 = sr g2 32 (va_cpy (hi g2 (a' + 1)) (hi g2 32) 0 0 624) := ⟨_, rfl⟩
  rw [← eg3] at c1
  have frr : ∀ {g5 : Hp} {f : Nat → Int32} {x : Nat}, 32 ≤ x → x ≤ 34 → FrP HQ (fun x j => x = 27 ∨ (32 ≤ x ∧ x ≤ 34)) g5 (sr g5 x f) := fun {g5 f x} h1 h2 => FrP.ofFr (Fr.rowR (A := [x]) (B := []) (by simp)) (fun y hy j => by simp at hy; rw [hy]; exact Or.inr ⟨h1, h2⟩) (by simp)
  have fr3 : FrP HQ (fun x j => x = 27 ∨ (32 ≤ x ∧ x ≤ 34)) g g3 := by rw [eg3]; exact fr2.trans (frr (by decide) (by decide))
  have X3 := fr3.fx X HQ_fx
  have W3 := wxq fr3
  have k32' : hk g3 32 = some (10, 624) := X3.kd (by decide) (by decide) rfl
  obtain ⟨rw', erw⟩ : ∃ rw', rw' = (if hb = true then a' + 4 else a' + 3) := ⟨_, rfl⟩
  have hrw : rw' = a' + 3 ∨ rw' = a' + 4 := by rw [erw]; split <;> omega
  have krw : hk g3 rw' = some (10, 104) := by rcases hrw with q | q <;> rw [q]; exact W3.2.2.2.2.1; exact W3.2.2.2.2.2.1
  have c2 := cp_of (i0 := 0) (i1 := 0) (len := 104) krw k32' (by omega) (by decide) (by decide) (by decide) (by omega) (by omega)
  obtain ⟨g4, eg4⟩ : ∃ g4, g4 = sr g3 32 (va_cpy (hi g3 rw') (hi g3 32) 0 0 104) := ⟨_, rfl⟩
  rw [← eg4] at c2
  have fr4 : FrP HQ (fun x j => x = 27 ∨ (32 ≤ x ∧ x ≤ 34)) g g4 := by rw [eg4]; exact fr3.trans (frr (by decide) (by decide))
  have X4 := fr4.fx X HQ_fx
  obtain ⟨g5, d1', d2', d3'⟩ := fill_of (X4.kd (a := 33) (by decide) (by decide) rfl) (by decide) (by decide) (-1 : Int32)
  have fr5 : FrP HQ (fun x j => x = 27 ∨ (32 ≤ x ∧ x ≤ 34)) g g5 := fr4.trans (FrP.ofFr d2' (fun y hy j => by simp at hy; rw [hy]; exact Or.inr (by omega)) (by simp))
  have X5 := fr5.fx X HQ_fx
  obtain ⟨g6, e1', e2', e3'⟩ := fill_of (X5.kd (a := 34) (by decide) (by decide) rfl) (by decide) (by decide) (-1 : Int32)
  have fr6 : FrP HQ (fun x j => x = 27 ∨ (32 ≤ x ∧ x ≤ 34)) g g6 := fr5.trans (FrP.ofFr e2' (fun y hy j => by simp at hy; rw [hy]; exact Or.inr (by omega)) (by simp))
  have X6 := fr6.fx X HQ_fx
  have hi6 : ∀ x j, x ≠ 33 → x ≠ 34 → hi g6 x j = hi g4 x j := fun x j h1 h2 => by rw [e2'.2.2.1 x j (by simp [h2]) (by simp), d2'.2.2.1 x j (by simp [h1]) (by simp)]
  have q6 : ∀ x j, hq g6 x j = hq g1 x j := fun x j => by rw [e2'.2.1, d2'.2.1, eg4, hq_sr, eg3, hq_sr, eg2, hq_si, hq_si]
  have row : ∀ x j, x ≠ 27 → x ≠ 32 → hi g3 x j = hi g x j := fun x j h1 h2 => by rw [eg3, hi_srm _ _ h2, eg2, hi_row _ _ _ h1, hi_row _ _ _ h1, hi1]
  refine ⟨g6, ?_, fr6, ⟨X6, ?_, ?_, ⟨fun i u hi' hu => ?_, ?_, ?_⟩, fun u hu => ⟨Or.inl ?_, Or.inl (e3' u hu)⟩⟩, ?_⟩
  · have gq2 : getQ (sq g 27 0 (some b)) (some a') 6 2 = some (hq g a' 2) := by rw [getQ_of 2 W0.2.1, hq_row _ _ _ (by omega)]
    have p1 : putQ g (some 27) 4 0 (some b) = some (sq g 27 0 (some b)) := pq27 X 0 _
    have p2 : putQ (sq g 27 0 (some b)) (some 27) 4 1 (hq g a' 2) = some g1 := by rw [eg1]; exact pq27 X0 1 _
    have i0 : hi g1 a' 0 = pls w := by rw [hi1]; exact w3
    have i1 : hi g1 a' 1 = tms w := by rw [hi1]; exact w4
    have c1' : cpI (si (si g1 27 2 (pls w)) 27 3 (tms w)) (some (a' + 1)) 0 (some 32) 0 624 = some g3 := by rw [← eg2]; exact c1
    have c2' : cpI g3 (some rw') 0 (some 32) 0 104 = some g4 := c2
    have sel : (if bI hb = (0 : Int32) then some (some (a' + 3), g3) else some (some (a' + 4), g3) : Option (Option Nat × Hp)) = some (some rw', g3) := by
      cases hb with
      | false => rw [if_pos (show bI false = 0 from rfl), erw]; rfl
      | true => rw [if_neg (show ¬ bI true = 0 by decide), erw]; rfl
    unfold f_X4_open
    rw [p1, bd_some, gq2, bd_some, p2, bd_some]
    have hne : a' ≠ 27 := by omega
    simp (disch := (first | assumption | (simp only [FX_si, FX_sj, FX_sr, WX_si, WX_sj, WX_sr, FK_si, FK_sj, FK_sr]; assumption) | omega | decide)) only [i0, i1, c1', ↓reduceIte, if_true, if_false, i10, i01, eq_self, wq7, wq8, wq9, wq10, wrc, wgi, wpi, wpz, wn1, wn2, wn3, wn4, wr1, wr2, wr3, wr4, ww1, ww2, ww3, ww4, fgi, fgq, fpi, frc, at18, at19, at21, at22, at23, at24, at25, at26, at_neg, wat1, wat2, wat3, wat4, reduceCtorEq, bd_some, b1_some, b2_some, b3_some, b4_some, c1_eq, elim_inl, elim_inr, zok0, zok1, getQ_si, getQ_sj, getQ_sr, q8_0, q8_1, q8_2, q8_4, q8_7, q8_8, q8_9, q8_10, q8_11, q9_0, q9_3, q9_4, q9_8, q17_0, q17_1, q17_2, q17_4, q17_5, q17_6, q17_9, q17_10, q17_11, q27_4, q27_5, q27_6, q27_7, q27_8, q27_11, q45_0, q45_1, q45_11, q45_12, q45_13, q45_14, q45_15, q45_16, q45_17, q45_18, q45_19, q45_20, q45_21, q45_22, q45_23, q45_24, q45_30, q45_31, q45_32, q45_33, q45_34, q45_35, q45_36, q45_37, q45_38, q45_39, q45_43, q45_44, q45_45, q45_46, q45_47, q45_48, q45_52, q45_53, q45_54, q45_59, q45_60, q45_61, q45_62, q45_65, q45_67, q45_68, gi8, gj8, pi8, pz8, pj8, rc8, gi9, gj9, pi9, pz9, pj9, rc9, gi17, gj17, pi17, pz17, pj17, rc17, gi27, gj27, pi27, pz27, pj27, rc27, gi45, gj45, pi45, pz45, pj45, rc45, aln_si, aln_sj, aln_sq, rc_si, rc_sj, rc_sq, n0, n1, n10, n11, n12, n13, n14, n15, n16, n18, n19, n20, n21, n22, n23, n24, n25, n26, n29, n30, n31, n32, n33, n34, n35, n36, n37, n38, n39, n40, n42, n43, n44, n46, n47, n48, n49, n50, n51, n52, n53, n54, n55, n56, n57, n58, n59, n60, n61, n62, n63, n64, n65, n66, n67, n68, n69, n70, n71, n72, n73, n74, n75, n76, n77, n78, n79, n80, n81, n82, n83, n84, n85, n86, n87, r0, r1, r10, r11, r12, r13, r14, r15, r16, r18, r19, r20, r21, r22, r23, r24, r25, r26, r29, r30, r31, r32, r33, r34, r35, r36, r37, r38, r39, r40, r42, r43, r44, r46, r47, r48, r49, r50, r51, r52, r53, r54, r55, r56, r57, r58, r59, r60, r61, r62, r63, r64, r65, r66, r67, r68, r69, r70, r71, r72, r73, r74, r75, r76, r77, r78, r79, r80, r81, r82, r83, r84, r85, r86, r87, w10, w11, w12, w13, w18, w19, w20, w21, w22, w23, w24, w25, w26, w30, w31, w32, w33, w34, w35, w36, w38, w39, w40, w43, w44, w46, w47, w48, w49, w50, w51, w52, w53, w54, w55, w56, w57, w58, w59, w60, w61, w62, w63, w64, w65, w66, w67, w68, w69, w70, w71, w72, w73, w74, w75, w76, w77, w78, w79, w80, w81, w82, w83, w84, w85, w86, w87, hi_hit, hi_row, hi_col, hj_hit, hj_row, hj_col, hi_sj, hj_si, hq_si, hq_sj, hi_sq, hj_sq, hi_srh, hi_srm]
    rw [sel, b1_some]
    simp (disch := (first | assumption | (simp only [FX_si, FX_sj, FX_sr, WX_si, WX_sj, WX_sr, FK_si, FK_sj, FK_sr]; assumption) | omega | decide)) only [c2', d1', e1', ↓reduceIte, if_true, if_false, i10, i01, eq_self, wq7, wq8, wq9, wq10, wrc, wgi, wpi, wpz, wn1, wn2, wn3, wn4, wr1, wr2, wr3, wr4, ww1, ww2, ww3, ww4, fgi, fgq, fpi, frc, at18, at19, at21, at22, at23, at24, at25, at26, at_neg, wat1, wat2, wat3, wat4, reduceCtorEq, bd_some, b1_some, b2_some, b3_some, b4_some, c1_eq, elim_inl, elim_inr, zok0, zok1, getQ_si, getQ_sj, getQ_sr, q8_0, q8_1, q8_2, q8_4, q8_7, q8_8, q8_9, q8_10, q8_11, q9_0, q9_3, q9_4, q9_8, q17_0, q17_1, q17_2, q17_4, q17_5, q17_6, q17_9, q17_10, q17_11, q27_4, q27_5, q27_6, q27_7, q27_8, q27_11, q45_0, q45_1, q45_11, q45_12, q45_13, q45_14, q45_15, q45_16, q45_17, q45_18, q45_19, q45_20, q45_21, q45_22, q45_23, q45_24, q45_30, q45_31, q45_32, q45_33, q45_34, q45_35, q45_36, q45_37, q45_38, q45_39, q45_43, q45_44, q45_45, q45_46, q45_47, q45_48, q45_52, q45_53, q45_54, q45_59, q45_60, q45_61, q45_62, q45_65, q45_67, q45_68, gi8, gj8, pi8, pz8, pj8, rc8, gi9, gj9, pi9, pz9, pj9, rc9, gi17, gj17, pi17, pz17, pj17, rc17, gi27, gj27, pi27, pz27, pj27, rc27, gi45, gj45, pi45, pz45, pj45, rc45, aln_si, aln_sj, aln_sq, rc_si, rc_sj, rc_sq, n0, n1, n10, n11, n12, n13, n14, n15, n16, n18, n19, n20, n21, n22, n23, n24, n25, n26, n29, n30, n31, n32, n33, n34, n35, n36, n37, n38, n39, n40, n42, n43, n44, n46, n47, n48, n49, n50, n51, n52, n53, n54, n55, n56, n57, n58, n59, n60, n61, n62, n63, n64, n65, n66, n67, n68, n69, n70, n71, n72, n73, n74, n75, n76, n77, n78, n79, n80, n81, n82, n83, n84, n85, n86, n87, r0, r1, r10, r11, r12, r13, r14, r15, r16, r18, r19, r20, r21, r22, r23, r24, r25, r26, r29, r30, r31, r32, r33, r34, r35, r36, r37, r38, r39, r40, r42, r43, r44, r46, r47, r48, r49, r50, r51, r52, r53, r54, r55, r56, r57, r58, r59, r60, r61, r62, r63, r64, r65, r66, r67, r68, r69, r70, r71, r72, r73, r74, r75, r76, r77, r78, r79, r80, r81, r82, r83, r84, r85, r86, r87, w10, w11, w12, w13, w18, w19, w20, w21, w22, w23, w24, w25, w26, w30, w31, w32, w33, w34, w35, w36, w38, w39, w40, w43, w44, w46, w47, w48, w49, w50, w51, w52, w53, w54, w55, w56, w57, w58, w59, w60, w61, w62, w63, w64, w65, w66, w67, w68, w69, w70, w71, w72, w73, w74, w75, w76, w77, w78, w79, w80, w81, w82, w83, w84, w85, w86, w87, hi_hit, hi_row, hi_col, hj_hit, hj_row, hj_col, hi_sj, hj_si, hq_si, hq_sj, hi_sq, hj_sq, hi_srh, hi_srm]
  · rw [q6, eg1, hq_col _ _ (by decide), hq_hit]
  · refine ca.kp ⟨fun x y e => by rw [fr6.kd]; exact e, fun x hx _ => ⟨fun j => fr6.2.2.1 _ _ (fun q => ?_), fun j => fr6.2.1 _ _ (fun q => ?_)⟩⟩
    · have o := hx.1
      unfold OKA at o
      omega
    · have o := hx.1
      unfold OKA at o
      rcases q with q | q <;> omega
  · rw [hi6 _ _ (by decide) (by decide), eg4, hi_srh]
    have base : ∀ j, j < 624 → hi g3 32 j = hi g2 (a' + 1) j := fun j hj => by rw [eg3, hi_srh, pk_cpy_in (by omega) (by omega), Nat.zero_add, Nat.sub_zero]
    have pdr : hi g2 (a' + 1) (i * 104 + u) = PD F (nI w) k nf i u := by rw [eg2, hi_row _ _ _ (by omega), hi_row _ _ _ (by omega), hi1]; exact cw1 i u hi' hu
    unfold PDh
    by_cases z : i = 0
    · subst z
      rw [if_pos rfl, Nat.zero_mul, Nat.zero_add, pk_cpy_in (by omega) (by omega), Nat.zero_add, Nat.sub_zero, row _ _ (by omega) (by omega), erw]
      cases hb with
      | false => rw [if_neg (by decide), if_neg (by decide)]; exact (cw3 u hu).1
      | true => rw [if_pos rfl, if_pos rfl]; exact (cw3 u hu).2
    · rw [if_neg z, pk_cpy_out (by omega), base _ (by omega)]
      exact pdr
  · rw [hi6 _ _ (by decide) (by decide), eg4, hi_srm _ _ (by decide), eg3, hi_srm _ _ (by decide), eg2]
    simp (disch := (first | assumption | omega | decide)) only [hi_hit, hi_row, hi_col, hj_hit, hj_row, hj_col, hi_sj, hj_si, hq_si, hq_sj, hi_sq, hj_sq, hi_srh, hi_srm, hj_sr, hq_sr, hq_hit, hq_row, hq_col]
  · rw [hi6 _ _ (by decide) (by decide), eg4, hi_srm _ _ (by decide), eg3, hi_srm _ _ (by decide), eg2]
    simp (disch := (first | assumption | omega | decide)) only [hi_hit, hi_row, hi_col, hj_hit, hj_row, hj_col, hi_sj, hj_si, hq_si, hq_sj, hi_sq, hj_sq, hi_srh, hi_srm, hj_sr, hq_sr, hq_hit, hq_row, hq_col]
  · rw [e2'.2.2.1 33 u (by simp) (by simp)]
    exact d3' u hu
  · rw [q6, eg1, hq_hit]
    exact w6
theorem c_sheet (I : INVp h nw nf F A pls tms tme wa fa) {s w b : Nat} (hs : s < 4) (hw : w < nw) (ca : CA (PW nw wa) h b (A s)) (sh : f_X8_shelfAt 8 (nI s) h = some (some b, h)) (wk : f_X8_workerAt 8 (nI w) h = some (some (wa w), h)) (hb : Bool) (k : Int32) :
    ∃ g, f_X8_openSheet 8 (nI s) (nI w) (bI hb) k h = some (1, g) ∧ FrP HQ (RQ nw nf wa fa) h g ∧ CCH g F nw nf wa ∧ SHT (PW nw wa) g b (A s) (PDh F (nI w) k nf hb) (pls w) (tms w) ∧ hq g 27 1 = (nx F (nI w) nf 0).map fa := by
  obtain ⟨X, M, T, c, t⟩ := I
  obtain ⟨g1, a1, a2, a3, a4⟩ := S_lay X T M.2.2.2.2.2.1 M.2.2.2.1 c hw k
  have X1 := a2.fx X HQ_fx
  have T1 := T.frq a2
  have ca1 : CA (PW nw wa) g1 b (A s) := ca.kp ⟨fun x y e => by rw [a2.kd]; exact e, fun x hx hk1 => ⟨fun j => a2.2.2.1 _ _ (fun q => by
    obtain ⟨o, ow⟩ := hx
    unfold OKA at o
    rcases q with q | q | q | ⟨w', hw', q⟩ | ⟨f', hf', q, q2⟩
    · omega
    · omega
    · omega
    · have := ow w' hw'
      rcases q with q | q <;> omega
    · rw [q] at hk1
      exact hk1 (T.2.2.2.2.1 f' hf').2.1), fun j => a2.2.1 _ _ (fun q => by
    have o := hx.1
    unfold OKA at o
    rcases q with q | q <;> omega)⟩⟩
  obtain ⟨g2, b1', b2', b3', b4'⟩ := c_open X1 T1 hw ca1 a4 hb
  have fr2 : FrP HQ (RQ nw nf wa fa) g1 g2 := b2'.mono (fun _ _ q => q) (fun x j q => by
    rcases q with q | q
    · exact Or.inl (by omega)
    · exact Or.inr (Or.inl (by omega)))
  refine ⟨g2, ?_, a2.trans fr2, a3.same (fun x j hx => b2'.2.2.1 _ _ (by omega)) (fun w' hw' => T.ge hw'), b3', b4'⟩
  have rcw : rc h (some (wa w)) 6 = some (wa w) := rc_eq (T.2.2.2.1 w hw).2.1.2.1
  unfold f_X8_openSheet
  simp (disch := (first | assumption | (simp only [FX_si, FX_sj, FX_sr, WX_si, WX_sj, WX_sr, FK_si, FK_sj, FK_sr]; assumption) | omega | decide)) only [sh, wk, rcw, a1, b1', ↓reduceIte, if_true, if_false, i10, i01, eq_self, wq7, wq8, wq9, wq10, wrc, wgi, wpi, wpz, wn1, wn2, wn3, wn4, wr1, wr2, wr3, wr4, ww1, ww2, ww3, ww4, fgi, fgq, fpi, frc, at18, at19, at21, at22, at23, at24, at25, at26, at_neg, wat1, wat2, wat3, wat4, reduceCtorEq, bd_some, b1_some, b2_some, b3_some, b4_some, c1_eq, elim_inl, elim_inr, zok0, zok1, getQ_si, getQ_sj, getQ_sr, q8_0, q8_1, q8_2, q8_4, q8_7, q8_8, q8_9, q8_10, q8_11, q9_0, q9_3, q9_4, q9_8, q17_0, q17_1, q17_2, q17_4, q17_5, q17_6, q17_9, q17_10, q17_11, q27_4, q27_5, q27_6, q27_7, q27_8, q27_11, q45_0, q45_1, q45_11, q45_12, q45_13, q45_14, q45_15, q45_16, q45_17, q45_18, q45_19, q45_20, q45_21, q45_22, q45_23, q45_24, q45_30, q45_31, q45_32, q45_33, q45_34, q45_35, q45_36, q45_37, q45_38, q45_39, q45_43, q45_44, q45_45, q45_46, q45_47, q45_48, q45_52, q45_53, q45_54, q45_59, q45_60, q45_61, q45_62, q45_65, q45_67, q45_68, gi8, gj8, pi8, pz8, pj8, rc8, gi9, gj9, pi9, pz9, pj9, rc9, gi17, gj17, pi17, pz17, pj17, rc17, gi27, gj27, pi27, pz27, pj27, rc27, gi45, gj45, pi45, pz45, pj45, rc45, aln_si, aln_sj, aln_sq, rc_si, rc_sj, rc_sq, n0, n1, n10, n11, n12, n13, n14, n15, n16, n18, n19, n20, n21, n22, n23, n24, n25, n26, n29, n30, n31, n32, n33, n34, n35, n36, n37, n38, n39, n40, n42, n43, n44, n46, n47, n48, n49, n50, n51, n52, n53, n54, n55, n56, n57, n58, n59, n60, n61, n62, n63, n64, n65, n66, n67, n68, n69, n70, n71, n72, n73, n74, n75, n76, n77, n78, n79, n80, n81, n82, n83, n84, n85, n86, n87, r0, r1, r10, r11, r12, r13, r14, r15, r16, r18, r19, r20, r21, r22, r23, r24, r25, r26, r29, r30, r31, r32, r33, r34, r35, r36, r37, r38, r39, r40, r42, r43, r44, r46, r47, r48, r49, r50, r51, r52, r53, r54, r55, r56, r57, r58, r59, r60, r61, r62, r63, r64, r65, r66, r67, r68, r69, r70, r71, r72, r73, r74, r75, r76, r77, r78, r79, r80, r81, r82, r83, r84, r85, r86, r87, w10, w11, w12, w13, w18, w19, w20, w21, w22, w23, w24, w25, w26, w30, w31, w32, w33, w34, w35, w36, w38, w39, w40, w43, w44, w46, w47, w48, w49, w50, w51, w52, w53, w54, w55, w56, w57, w58, w59, w60, w61, w62, w63, w64, w65, w66, w67, w68, w69, w70, w71, w72, w73, w74, w75, w76, w77, w78, w79, w80, w81, w82, w83, w84, w85, w86, w87, hi_hit, hi_row, hi_col, hj_hit, hj_row, hj_col, hi_sj, hj_si, hq_si, hq_sj, hi_sq, hj_sq, hi_srh, hi_srm]
end Lk
