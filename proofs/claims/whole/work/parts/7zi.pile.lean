/-! The model's pile, and the steps that it writes. -/
def stk (h : Hp) : List (Nat × Nat) → Prop
  | [] => True
  | x :: r => hi h 57 r.length = nI x.1 ∧ (x.1 ≤ 6 → hi h 58 r.length = mc (20000 + x.2)) ∧ x.1 ≤ 8 ∧ stk h r
def dp : List (Nat × Nat) → Nat
  | [] => 0
  | x :: r => (if x.1 = 3 ∨ x.1 = 7 then 1 else 0) + dp r
theorem dp_app : ∀ P S : List (Nat × Nat), dp (P ++ S) = dp P + dp S := by
  intro P
  induction P with
  | nil => intro S; show dp S = 0 + dp S; omega
  | cons x P ih => intro S; show _ + dp (P ++ S) = _ + dp P + dp S; rw [ih]; omega
theorem stk_of {h h' : Hp} : ∀ S : List (Nat × Nat), stk h S → (∀ j, j < S.length → hi h' 57 j = hi h 57 j ∧ hi h' 58 j = hi h 58 j) → stk h' S := by
  intro S
  induction S with
  | nil => intro _ _; trivial
  | cons x S ih =>
    intro s e
    obtain ⟨s1, s2, s3, s4⟩ := s
    have e0 := e S.length (by show S.length < S.length + 1; omega)
    exact ⟨e0.1.trans s1, fun q => e0.2.trans (s2 q), s3, ih s4 (fun j hj => e j (by show j < S.length + 1; omega))⟩
theorem stk_app {h : Hp} : ∀ P S : List (Nat × Nat), stk h (P ++ S) → stk h S := by
  intro P
  induction P with
  | nil => intro S s; exact s
  | cons x P ih => intro S s; exact ih S s.2.2.2
def MCd (h : Hp) (base : Nat) (c : List Nat) : Prop := hi h 45 26 = nI (base + c.length) ∧ ∀ j (hj : j < c.length), hi h 55 (3600 + base + j) = mc c[j] ∧ mnOk c[j] (hi h 56 (3600 + base + j))
/-- the model in the midst of an e -/
def MZ (h : Hp) (B : Nat → Nat) (n i u base : Nat) (c : List Nat) (S : List (Nat × Nat)) (D : Nat) : Prop := MR h B n i ∧ hi h 45 27 = nI u ∧ MCd h base c ∧ hi h 45 29 = nI S.length ∧ stk h S ∧ hi h 45 28 = nI D
def BEx : List Nat := [4, 5, 6, 7, 8, 9, 10, 26, 27, 28, 29]
def EF (base : Nat) (h g : Hp) : Prop := FrM [55, 56, 57, 58] BEx h g ∧ ∀ j, j < 3600 + base → hi g 55 j = hi h 55 j ∧ hi g 56 j = hi h 56 j
section Mp
variable {h : Hp} {B : Nat → Nat} {n i u base D : Nat} {c : List Nat} {S : List (Nat × Nat)}
theorem EF.refl : EF base h h := ⟨FrM.rfl, fun _ _ => ⟨rfl, rfl⟩⟩
theorem EF.trans {g k : Hp} (a : EF base h g) (b : EF base g k) : EF base h k := ⟨a.1.trans b.1, fun j hj => ⟨(b.2 j hj).1.trans (a.2 j hj).1, (b.2 j hj).2.trans (a.2 j hj).2⟩⟩
theorem EF.of {g : Hp} {A C : List Nat} (fr : FrM A C h g) (hA : A.all (fun x => [57, 58].contains x) = true) (hC : C.all (fun x => BEx.contains x) = true) : EF base h g := by
  have a : ∀ x, x ∈ A → x = 57 ∨ x = 58 := fun x hx => by have := List.all_eq_true.mp hA x hx; simpa using this
  refine ⟨fr.mono (fun x hx => by rcases a x hx with rfl | rfl <;> decide) (fun x hx => by have := List.all_eq_true.mp hC x hx; simpa using this), fun j _ => ⟨fr.ei _ (fun z => ?_) (by decide), fr.ei _ (fun z => ?_) (by decide)⟩⟩
  · rcases a _ z with q | q <;> cases q
  · rcases a _ z with q | q <;> cases q
/-- writes elsewhere -/
theorem MZ.fr {g : Hp} (z : MZ h B n i u base c S D) {A C : List Nat} (fr : FrM A C h g) (hA : [47, 55, 56, 57, 58].all (fun x => !A.contains x) = true) (hC : [3, 4, 5, 6, 7, 8, 9, 10, 26, 27, 28, 29].all (fun x => !C.contains x) = true) : MZ g B n i u base c S D := by
  simp at hA hC
  obtain ⟨a47, a55, a56, a57, a58⟩ := hA
  obtain ⟨c3, c4, c5, c6, c7, c8, c9, c10, c26, c27, c28, c29⟩ := hC
  obtain ⟨z1, z2, z3, z4, z5, z6⟩ := z
  refine ⟨z1.fr fr a47 (by simp; exact ⟨c3, c4, c5, c6, c7, c8, c9, c10⟩), (fr.ef c27).trans z2, ⟨(fr.ef c26).trans z3.1, fun j hj => ?_⟩, (fr.ef c29).trans z4, stk_of S z5 (fun j _ => ⟨fr.ei _ a57 (by decide), fr.ei _ a58 (by decide)⟩), (fr.ef c28).trans z6⟩
  rw [fr.ei _ a55 (by decide), fr.ei _ a56 (by decide)]
  exact z3.2 j hj
theorem z_next (z : MZ h B n i u base c S D) : ∃ g, f_X9_next 45 h = some g ∧ EF base h g ∧ MZ g B n (i + 1) u base c S D := by
  obtain ⟨z1, z2, z3, z4, z5, z6⟩ := z
  obtain ⟨g, a1, a2, a3⟩ := m_nextT z1
  refine ⟨g, a1, EF.of a2 (by decide) (by decide), a3, (a2.ef (by decide)).trans z2, ⟨(a2.ef (by decide)).trans z3.1, fun j hj => ?_⟩, (a2.ef (by decide)).trans z4, stk_of S z5 (fun j _ => ⟨a2.ei _ (by decide) (by decide), a2.ei _ (by decide) (by decide)⟩), (a2.ef (by decide)).trans z6⟩
  rw [a2.ei _ (by decide) (by decide), a2.ei _ (by decide) (by decide)]
  exact z3.2 j hj
theorem z_wrong (z : MZ h B n i u base c S D) : ∃ g, f_X9_wrong 45 h = some g ∧ EF base h g ∧ MD g B n (i, 2) := by
  obtain ⟨g, a1, a2, a3⟩ := m_wrong z.1
  exact ⟨g, a1, EF.of a2 (by decide) (by decide), a3⟩
theorem rd3a {g : Hp} {a1 a2 a3 k1 k2 k3 j : Nat} {v1 v2 v3 : Int32} (n2 : a1 ≠ a2) (n3 : a1 ≠ a3) : hi (si (si (si g a1 k1 v1) a2 k2 v2) a3 k3 v3) a1 j = if j = k1 then v1 else hi g a1 j := by
  rw [hi_row _ _ _ n3, hi_row _ _ _ n2, hi_put]
  by_cases q : j = k1
  · rw [if_pos ⟨rfl, q⟩, if_pos q]
  · rw [if_neg (fun z => q z.2), if_neg q]
theorem rd3b {g : Hp} {a1 a2 a3 k1 k2 k3 j : Nat} {v1 v2 v3 : Int32} (n1 : a2 ≠ a1) (n3 : a2 ≠ a3) : hi (si (si (si g a1 k1 v1) a2 k2 v2) a3 k3 v3) a2 j = if j = k2 then v2 else hi g a2 j := by
  rw [hi_row _ _ _ n3, hi_put, hi_row _ _ _ n1]
  by_cases q : j = k2
  · rw [if_pos ⟨rfl, q⟩, if_pos q]
  · rw [if_neg (fun z => q z.2), if_neg q]
theorem MCd.fr {g : Hp} (m : MCd h base c) {A C : List Nat} (fr : FrM A C h g) (h1 : 55 ∉ A) (h2 : 56 ∉ A) (h3 : 26 ∉ C) : MCd g base c := ⟨(fr.ef h3).trans m.1, fun j hj => by rw [fr.ei _ h1 (by decide), fr.ei _ h2 (by decide)]; exact m.2 j hj⟩
theorem stk.fr {g : Hp} {S : List (Nat × Nat)} (s : stk h S) {A C : List Nat} (fr : FrM A C h g) (h1 : 57 ∉ A) (h2 : 58 ∉ A) : stk g S := stk_of S s (fun j _ => ⟨fr.ei _ h1 (by decide), fr.ei _ h2 (by decide)⟩)
theorem MCd.put {x : Nat} (m : MCd h base c) {v1 v2 : Int32} (h1 : v1 = mc x) (h2 : mnOk x v2) : MCd (si (si (si h 55 (3600 + base + c.length) v1) 56 (3600 + base + c.length) v2) 45 26 (nI (base + c.length + 1))) base (c ++ [x]) := by
  refine ⟨by rw [hi_hit, List.length_append]; rfl, fun j hj => ?_⟩
  rw [rd3a (by decide) (by decide), rd3b (by decide) (by decide)]
  rw [List.length_append, List.length_singleton] at hj
  by_cases q : j = c.length
  · subst q
    rw [if_pos rfl, if_pos rfl, List.getElem_append_right (Nat.le_refl _)]
    simp only [Nat.sub_self, List.getElem_cons_zero]
    exact ⟨h1, h2⟩
  · rw [if_neg (by omega), if_neg (by omega), List.getElem_append_left (by omega)]
    exact m.2 j (by omega)
theorem z_step (z : MZ h B n i u base c S D) (hl : base + c.length < 900) {x : Nat} {v1 v2 : Int32} (h1 : v1 = mc x) (h2 : mnOk x v2) : ∃ g, f_X9_step 45 v1 v2 h = some g ∧ EF base h g ∧ MZ g B n i u base (c ++ [x]) S D := by
  obtain ⟨z1, z2, z3, z4, z5, z6⟩ := z
  have X := z1.1.1
  have e26 := z3.1
  have ix : (3600 : Int32) + nI (base + c.length) = nI (3600 + base + c.length) := by rw [show (3600 : Int32) = nI 3600 from rfl, nI_add, Nat.add_assoc]
  have lt : 3600 + base + c.length < 4500 := by omega
  have fr : FrM [55, 56] [26] h (si (si (si h 55 (3600 + base + c.length) v1) 56 (3600 + base + c.length) v2) 45 26 (nI (base + c.length + 1))) := ((FrM.row (by decide) (by decide)).trans (FrM.row (by decide) (by decide))).trans (FrM.fld (by decide))
  refine ⟨_, ?_, ⟨fr.wk (by decide) (by decide), fun j hj => ?_⟩, z1.fr fr (by decide) (by decide), (fr.ef (by decide)).trans z2, z3.put h1 h2, (fr.ef (by decide)).trans z4, stk_of S z5 (fun j _ => ⟨fr.ei _ (by decide) (by decide), fr.ei _ (by decide) (by decide)⟩), (fr.ef (by decide)).trans z6⟩
  · unfold f_X9_step
    simp (disch := (first | assumption | (simp only [FX_si, FX_sj, FX_sr, WX_si, WX_sj, WX_sr, FK_si, FK_sj, FK_sr]; assumption) | omega | decide)) only [e26, ix, nI_1, ↓reduceIte, if_true, if_false, i10, i01, eq_self, wq7, wq8, wq9, wq10, wrc, wgi, wpi, wpz, wn1, wn2, wn3, wn4, wr1, wr2, wr3, wr4, ww1, ww2, ww3, ww4, fgi, fgq, fpi, frc, at18, at19, at21, at22, at23, at24, at25, at26, at_neg, wat1, wat2, wat3, wat4, reduceCtorEq, bd_some, b1_some, b2_some, b3_some, b4_some, c1_eq, elim_inl, elim_inr, zok0, zok1, getQ_si, getQ_sj, getQ_sr, q8_0, q8_1, q8_2, q8_4, q8_7, q8_8, q8_9, q8_10, q8_11, q9_0, q9_3, q9_4, q9_8, q17_0, q17_1, q17_2, q17_4, q17_5, q17_6, q17_9, q17_10, q17_11, q27_4, q27_5, q27_6, q27_7, q27_8, q27_11, q45_0, q45_1, q45_11, q45_12, q45_13, q45_14, q45_15, q45_16, q45_17, q45_18, q45_19, q45_20, q45_21, q45_22, q45_23, q45_24, q45_30, q45_31, q45_32, q45_33, q45_34, q45_35, q45_36, q45_37, q45_38, q45_39, q45_43, q45_44, q45_45, q45_46, q45_47, q45_48, q45_52, q45_53, q45_54, q45_59, q45_60, q45_61, q45_62, q45_65, q45_67, q45_68, gi8, gj8, pi8, pz8, pj8, rc8, gi9, gj9, pi9, pz9, pj9, rc9, gi17, gj17, pi17, pz17, pj17, rc17, gi27, gj27, pi27, pz27, pj27, rc27, gi45, gj45, pi45, pz45, pj45, rc45, aln_si, aln_sj, aln_sq, rc_si, rc_sj, rc_sq, n0, n1, n10, n11, n12, n13, n14, n15, n16, n18, n19, n20, n21, n22, n23, n24, n25, n26, n29, n30, n31, n32, n33, n34, n35, n36, n37, n38, n39, n40, n42, n43, n44, n46, n47, n48, n49, n50, n51, n52, n53, n54, n55, n56, n57, n58, n59, n60, n61, n62, n63, n64, n65, n66, n67, n68, n69, n70, n71, n72, n73, n74, n75, n76, n77, n78, n79, n80, n81, n82, n83, n84, n85, n86, n87, r0, r1, r10, r11, r12, r13, r14, r15, r16, r18, r19, r20, r21, r22, r23, r24, r25, r26, r29, r30, r31, r32, r33, r34, r35, r36, r37, r38, r39, r40, r42, r43, r44, r46, r47, r48, r49, r50, r51, r52, r53, r54, r55, r56, r57, r58, r59, r60, r61, r62, r63, r64, r65, r66, r67, r68, r69, r70, r71, r72, r73, r74, r75, r76, r77, r78, r79, r80, r81, r82, r83, r84, r85, r86, r87, w10, w11, w12, w13, w18, w19, w20, w21, w22, w23, w24, w25, w26, w30, w31, w32, w33, w34, w35, w36, w38, w39, w40, w43, w44, w46, w47, w48, w49, w50, w51, w52, w53, w54, w55, w56, w57, w58, w59, w60, w61, w62, w63, w64, w65, w66, w67, w68, w69, w70, w71, w72, w73, w74, w75, w76, w77, w78, w79, w80, w81, w82, w83, w84, w85, w86, w87, hi_hit, hi_row, hi_col, hj_hit, hj_row, hj_col, hi_sj, hj_si, hq_si, hq_sj, hi_sq, hj_sq, hi_srh, hi_srm]
  · rw [rd3a (by decide) (by decide), rd3b (by decide) (by decide), if_neg (by omega), if_neg (by omega)]
    exact ⟨rfl, rfl⟩
theorem z_push (z : MZ h B n i u base c S D) (hl : S.length < 80) {w t : Nat} (hw : w ≤ 8) {v : Int32} (hv : w ≤ 6 → v = mc (20000 + t)) : ∃ g, f_X9_put 45 (nI w) v h = some g ∧ EF base h g ∧ MZ g B n i u base c ((w, t) :: S) D := by
  obtain ⟨z1, z2, z3, z4, z5, z6⟩ := z
  have X := z1.1.1
  have fr : FrM [57, 58] [29] h (si (si (si h 57 S.length (nI w)) 58 S.length v) 45 29 (nI (S.length + 1))) := ((FrM.row (by decide) (by decide)).trans (FrM.row (by decide) (by decide))).trans (FrM.fld (by decide))
  refine ⟨_, ?_, EF.of fr (by decide) (by decide), z1.fr fr (by decide) (by decide), (fr.ef (by decide)).trans z2, ⟨(fr.ef (by decide)).trans z3.1, fun j hj => ?_⟩, hi_hit _ _ _, ⟨?_, fun q => ?_, hw, stk_of S z5 (fun j hj => ?_)⟩, (fr.ef (by decide)).trans z6⟩
  · unfold f_X9_put
    simp (disch := (first | assumption | (simp only [FX_si, FX_sj, FX_sr, WX_si, WX_sj, WX_sr, FK_si, FK_sj, FK_sr]; assumption) | omega | decide)) only [z4, nI_1, ↓reduceIte, if_true, if_false, i10, i01, eq_self, wq7, wq8, wq9, wq10, wrc, wgi, wpi, wpz, wn1, wn2, wn3, wn4, wr1, wr2, wr3, wr4, ww1, ww2, ww3, ww4, fgi, fgq, fpi, frc, at18, at19, at21, at22, at23, at24, at25, at26, at_neg, wat1, wat2, wat3, wat4, reduceCtorEq, bd_some, b1_some, b2_some, b3_some, b4_some, c1_eq, elim_inl, elim_inr, zok0, zok1, getQ_si, getQ_sj, getQ_sr, q8_0, q8_1, q8_2, q8_4, q8_7, q8_8, q8_9, q8_10, q8_11, q9_0, q9_3, q9_4, q9_8, q17_0, q17_1, q17_2, q17_4, q17_5, q17_6, q17_9, q17_10, q17_11, q27_4, q27_5, q27_6, q27_7, q27_8, q27_11, q45_0, q45_1, q45_11, q45_12, q45_13, q45_14, q45_15, q45_16, q45_17, q45_18, q45_19, q45_20, q45_21, q45_22, q45_23, q45_24, q45_30, q45_31, q45_32, q45_33, q45_34, q45_35, q45_36, q45_37, q45_38, q45_39, q45_43, q45_44, q45_45, q45_46, q45_47, q45_48, q45_52, q45_53, q45_54, q45_59, q45_60, q45_61, q45_62, q45_65, q45_67, q45_68, gi8, gj8, pi8, pz8, pj8, rc8, gi9, gj9, pi9, pz9, pj9, rc9, gi17, gj17, pi17, pz17, pj17, rc17, gi27, gj27, pi27, pz27, pj27, rc27, gi45, gj45, pi45, pz45, pj45, rc45, aln_si, aln_sj, aln_sq, rc_si, rc_sj, rc_sq, n0, n1, n10, n11, n12, n13, n14, n15, n16, n18, n19, n20, n21, n22, n23, n24, n25, n26, n29, n30, n31, n32, n33, n34, n35, n36, n37, n38, n39, n40, n42, n43, n44, n46, n47, n48, n49, n50, n51, n52, n53, n54, n55, n56, n57, n58, n59, n60, n61, n62, n63, n64, n65, n66, n67, n68, n69, n70, n71, n72, n73, n74, n75, n76, n77, n78, n79, n80, n81, n82, n83, n84, n85, n86, n87, r0, r1, r10, r11, r12, r13, r14, r15, r16, r18, r19, r20, r21, r22, r23, r24, r25, r26, r29, r30, r31, r32, r33, r34, r35, r36, r37, r38, r39, r40, r42, r43, r44, r46, r47, r48, r49, r50, r51, r52, r53, r54, r55, r56, r57, r58, r59, r60, r61, r62, r63, r64, r65, r66, r67, r68, r69, r70, r71, r72, r73, r74, r75, r76, r77, r78, r79, r80, r81, r82, r83, r84, r85, r86, r87, w10, w11, w12, w13, w18, w19, w20, w21, w22, w23, w24, w25, w26, w30, w31, w32, w33, w34, w35, w36, w38, w39, w40, w43, w44, w46, w47, w48, w49, w50, w51, w52, w53, w54, w55, w56, w57, w58, w59, w60, w61, w62, w63, w64, w65, w66, w67, w68, w69, w70, w71, w72, w73, w74, w75, w76, w77, w78, w79, w80, w81, w82, w83, w84, w85, w86, w87, hi_hit, hi_row, hi_col, hj_hit, hj_row, hj_col, hi_sj, hj_si, hq_si, hq_sj, hi_sq, hj_sq, hi_srh, hi_srm]
  · rw [fr.ei _ (by decide) (by decide), fr.ei _ (by decide) (by decide)]
    exact z3.2 j hj
  · rw [rd3a (by decide) (by decide), if_pos rfl]
  · rw [rd3b (by decide) (by decide), if_pos rfl]
    exact hv q
  · rw [rd3a (by decide) (by decide), rd3b (by decide) (by decide), if_neg (by omega), if_neg (by omega)]
    exact ⟨rfl, rfl⟩
theorem z_deep (z : MZ h B n i u base c S D) (D' : Nat) : EF base h (si h 45 28 (nI D')) ∧ MZ (si h 45 28 (nI D')) B n i u base c S D' := by
  have fr : FrM [] [28] h (si h 45 28 (nI D')) := FrM.fld (by decide)
  obtain ⟨z1, z2, z3, z4, z5, z6⟩ := z
  exact ⟨EF.of fr (by decide) (by decide), z1.fr fr (by decide) (by decide), (fr.ef (by decide)).trans z2, z3.fr fr (by decide) (by decide) (by decide), (fr.ef (by decide)).trans z4, z5.fr fr (by decide) (by decide), hi_hit _ _ _⟩
theorem z_units (z : MZ h B n i u base c S D) (u' : Nat) : EF base h (si h 45 27 (nI u')) ∧ MZ (si h 45 27 (nI u')) B n i u' base c S D := by
  have fr : FrM [] [27] h (si h 45 27 (nI u')) := FrM.fld (by decide)
  obtain ⟨z1, z2, z3, z4, z5, z6⟩ := z
  exact ⟨EF.of fr (by decide) (by decide), z1.fr fr (by decide) (by decide), hi_hit _ _ _, z3.fr fr (by decide) (by decide) (by decide), (fr.ef (by decide)).trans z4, z5.fr fr (by decide) (by decide), (fr.ef (by decide)).trans z6⟩
/-- the top goes away -/
theorem z_pop {x : Nat × Nat} (z : MZ h B n i u base c (x :: S) D) : EF base h (si h 45 29 (nI S.length)) ∧ MZ (si h 45 29 (nI S.length)) B n i u base c S D := by
  have fr : FrM [] [29] h (si h 45 29 (nI S.length)) := FrM.fld (by decide)
  obtain ⟨z1, z2, z3, z4, z5, z6⟩ := z
  exact ⟨EF.of fr (by decide) (by decide), z1.fr fr (by decide) (by decide), (fr.ef (by decide)).trans z2, z3.fr fr (by decide) (by decide) (by decide), hi_hit _ _ _, stk.fr z5.2.2.2 fr (by decide) (by decide), (fr.ef (by decide)).trans z6⟩
def stp (P : List (Nat × Nat)) : List Nat := P.map (fun x => 20000 + x.2)
/-- what binds closer is written -/
theorem z_pops {r : Nat} (hr : r ≤ 6) {y : Nat × Nat} {S0 : List (Nat × Nat)} (hS : S = y :: S0) (hy : 6 < y.1 ∨ y.1 < r) : ∀ (P : List (Nat × Nat)) (m : Nat) (h : Hp) (c : List Nat), P.length < m → MZ h B n i u base c (P ++ S) (dp (P ++ S)) → (∀ x ∈ P, x.1 ≤ 6 ∧ r ≤ x.1) → base + c.length + P.length ≤ 900 → (P ++ S).length ≤ 80 → ∃ g, f_X9_behind_L23 m 45 (nI r) h = some g ∧ EF base h g ∧ MZ g B n i u base (c ++ stp P) S (dp S) := by
  intro P
  induction P with
  | nil =>
    intro m h c hm z _ _ hl
    obtain ⟨m, rfl⟩ : ∃ m', m = m' + 1 := ⟨m - 1, by omega⟩
    subst hS
    have X := z.1.1.1
    obtain ⟨s1, s2, s3, s4⟩ := z.2.2.2.2.1
    have e29 := z.2.2.2.1
    have ix : nI (S0.length + 1) - (1 : Int32) = nI S0.length := nI_pred _
    have lt : S0.length < 80 := by have : S0.length + 1 ≤ 80 := hl; omega
    have e29' : hi h 45 29 = nI (S0.length + 1) := e29
    refine ⟨h, ?_, EF.refl, ?_⟩
    · rw [f_X9_behind_L23.eq_2]
      by_cases q : 6 < y.1
      · have q1 : (6 : Int32) < nI y.1 := (nI_ltI (a := 6) (by decide) (by omega)).mpr q
        simp (disch := (first | assumption | (simp only [FX_si, FX_sj, FX_sr, WX_si, WX_sj, WX_sr, FK_si, FK_sj, FK_sr]; assumption) | omega | decide)) only [e29', ix, s1, q1, ↓reduceIte, if_true, if_false, i10, i01, eq_self, wq7, wq8, wq9, wq10, wrc, wgi, wpi, wpz, wn1, wn2, wn3, wn4, wr1, wr2, wr3, wr4, ww1, ww2, ww3, ww4, fgi, fgq, fpi, frc, at18, at19, at21, at22, at23, at24, at25, at26, at_neg, wat1, wat2, wat3, wat4, reduceCtorEq, bd_some, b1_some, b2_some, b3_some, b4_some, c1_eq, elim_inl, elim_inr, zok0, zok1, getQ_si, getQ_sj, getQ_sr, q8_0, q8_1, q8_2, q8_4, q8_7, q8_8, q8_9, q8_10, q8_11, q9_0, q9_3, q9_4, q9_8, q17_0, q17_1, q17_2, q17_4, q17_5, q17_6, q17_9, q17_10, q17_11, q27_4, q27_5, q27_6, q27_7, q27_8, q27_11, q45_0, q45_1, q45_11, q45_12, q45_13, q45_14, q45_15, q45_16, q45_17, q45_18, q45_19, q45_20, q45_21, q45_22, q45_23, q45_24, q45_30, q45_31, q45_32, q45_33, q45_34, q45_35, q45_36, q45_37, q45_38, q45_39, q45_43, q45_44, q45_45, q45_46, q45_47, q45_48, q45_52, q45_53, q45_54, q45_59, q45_60, q45_61, q45_62, q45_65, q45_67, q45_68, gi8, gj8, pi8, pz8, pj8, rc8, gi9, gj9, pi9, pz9, pj9, rc9, gi17, gj17, pi17, pz17, pj17, rc17, gi27, gj27, pi27, pz27, pj27, rc27, gi45, gj45, pi45, pz45, pj45, rc45, aln_si, aln_sj, aln_sq, rc_si, rc_sj, rc_sq, n0, n1, n10, n11, n12, n13, n14, n15, n16, n18, n19, n20, n21, n22, n23, n24, n25, n26, n29, n30, n31, n32, n33, n34, n35, n36, n37, n38, n39, n40, n42, n43, n44, n46, n47, n48, n49, n50, n51, n52, n53, n54, n55, n56, n57, n58, n59, n60, n61, n62, n63, n64, n65, n66, n67, n68, n69, n70, n71, n72, n73, n74, n75, n76, n77, n78, n79, n80, n81, n82, n83, n84, n85, n86, n87, r0, r1, r10, r11, r12, r13, r14, r15, r16, r18, r19, r20, r21, r22, r23, r24, r25, r26, r29, r30, r31, r32, r33, r34, r35, r36, r37, r38, r39, r40, r42, r43, r44, r46, r47, r48, r49, r50, r51, r52, r53, r54, r55, r56, r57, r58, r59, r60, r61, r62, r63, r64, r65, r66, r67, r68, r69, r70, r71, r72, r73, r74, r75, r76, r77, r78, r79, r80, r81, r82, r83, r84, r85, r86, r87, w10, w11, w12, w13, w18, w19, w20, w21, w22, w23, w24, w25, w26, w30, w31, w32, w33, w34, w35, w36, w38, w39, w40, w43, w44, w46, w47, w48, w49, w50, w51, w52, w53, w54, w55, w56, w57, w58, w59, w60, w61, w62, w63, w64, w65, w66, w67, w68, w69, w70, w71, w72, w73, w74, w75, w76, w77, w78, w79, w80, w81, w82, w83, w84, w85, w86, w87, hi_hit, hi_row, hi_col, hj_hit, hj_row, hj_col, hi_sj, hj_si, hq_si, hq_sj, hi_sq, hj_sq, hi_srh, hi_srm]
      · have q1 : ¬ (6 : Int32) < nI y.1 := fun z => q ((nI_ltI (a := 6) (by decide) (by omega)).mp z)
        have q2 : nI y.1 < nI r := by rw [nI_ltI (by omega) (by omega)]; omega
        simp (disch := (first | assumption | (simp only [FX_si, FX_sj, FX_sr, WX_si, WX_sj, WX_sr, FK_si, FK_sj, FK_sr]; assumption) | omega | decide)) only [e29', ix, s1, q1, q2, ↓reduceIte, if_true, if_false, i10, i01, eq_self, wq7, wq8, wq9, wq10, wrc, wgi, wpi, wpz, wn1, wn2, wn3, wn4, wr1, wr2, wr3, wr4, ww1, ww2, ww3, ww4, fgi, fgq, fpi, frc, at18, at19, at21, at22, at23, at24, at25, at26, at_neg, wat1, wat2, wat3, wat4, reduceCtorEq, bd_some, b1_some, b2_some, b3_some, b4_some, c1_eq, elim_inl, elim_inr, zok0, zok1, getQ_si, getQ_sj, getQ_sr, q8_0, q8_1, q8_2, q8_4, q8_7, q8_8, q8_9, q8_10, q8_11, q9_0, q9_3, q9_4, q9_8, q17_0, q17_1, q17_2, q17_4, q17_5, q17_6, q17_9, q17_10, q17_11, q27_4, q27_5, q27_6, q27_7, q27_8, q27_11, q45_0, q45_1, q45_11, q45_12, q45_13, q45_14, q45_15, q45_16, q45_17, q45_18, q45_19, q45_20, q45_21, q45_22, q45_23, q45_24, q45_30, q45_31, q45_32, q45_33, q45_34, q45_35, q45_36, q45_37, q45_38, q45_39, q45_43, q45_44, q45_45, q45_46, q45_47, q45_48, q45_52, q45_53, q45_54, q45_59, q45_60, q45_61, q45_62, q45_65, q45_67, q45_68, gi8, gj8, pi8, pz8, pj8, rc8, gi9, gj9, pi9, pz9, pj9, rc9, gi17, gj17, pi17, pz17, pj17, rc17, gi27, gj27, pi27, pz27, pj27, rc27, gi45, gj45, pi45, pz45, pj45, rc45, aln_si, aln_sj, aln_sq, rc_si, rc_sj, rc_sq, n0, n1, n10, n11, n12, n13, n14, n15, n16, n18, n19, n20, n21, n22, n23, n24, n25, n26, n29, n30, n31, n32, n33, n34, n35, n36, n37, n38, n39, n40, n42, n43, n44, n46, n47, n48, n49, n50, n51, n52, n53, n54, n55, n56, n57, n58, n59, n60, n61, n62, n63, n64, n65, n66, n67, n68, n69, n70, n71, n72, n73, n74, n75, n76, n77, n78, n79, n80, n81, n82, n83, n84, n85, n86, n87, r0, r1, r10, r11, r12, r13, r14, r15, r16, r18, r19, r20, r21, r22, r23, r24, r25, r26, r29, r30, r31, r32, r33, r34, r35, r36, r37, r38, r39, r40, r42, r43, r44, r46, r47, r48, r49, r50, r51, r52, r53, r54, r55, r56, r57, r58, r59, r60, r61, r62, r63, r64, r65, r66, r67, r68, r69, r70, r71, r72, r73, r74, r75, r76, r77, r78, r79, r80, r81, r82, r83, r84, r85, r86, r87, w10, w11, w12, w13, w18, w19, w20, w21, w22, w23, w24, w25, w26, w30, w31, w32, w33, w34, w35, w36, w38, w39, w40, w43, w44, w46, w47, w48, w49, w50, w51, w52, w53, w54, w55, w56, w57, w58, w59, w60, w61, w62, w63, w64, w65, w66, w67, w68, w69, w70, w71, w72, w73, w74, w75, w76, w77, w78, w79, w80, w81, w82, w83, w84, w85, w86, w87, hi_hit, hi_row, hi_col, hj_hit, hj_row, hj_col, hi_sj, hj_si, hq_si, hq_sj, hi_sq, hj_sq, hi_srh, hi_srm]
    · have : c ++ stp [] = c := List.append_nil c
      rw [this]
      exact z
  | cons x P ih =>
    intro m h c hm z hP hc hl
    obtain ⟨m, rfl⟩ : ∃ m', m = m' + 1 := ⟨m - 1, by omega⟩
    have hx := hP x (List.mem_cons_self ..)
    have z : MZ h B n i u base c (x :: (P ++ S)) (dp (x :: (P ++ S))) := z
    have X := z.1.1.1
    obtain ⟨s1, s2, s3, s4⟩ := z.2.2.2.2.1
    have e29 : hi h 45 29 = nI ((P ++ S).length + 1) := z.2.2.2.1
    have e28 := z.2.2.2.2.2
    have ix : nI ((P ++ S).length + 1) - (1 : Int32) = nI (P ++ S).length := nI_pred _
    have lt : (P ++ S).length < 80 := by have : (P ++ S).length + 1 ≤ 80 := hl; omega
    have q1 : ¬ (6 : Int32) < nI x.1 := fun z => by have := (nI_ltI (a := 6) (by decide) (by omega)).mp z; omega
    have q2 : ¬ nI x.1 < nI r := by rw [nI_ltI (by omega) (by omega)]; omega
    have s2' := s2 hx.1
    obtain ⟨f1, z1⟩ := z_pop z
    have key : ∃ h2, EF base h h2 ∧ MZ h2 B n i u base c (P ++ S) (dp (P ++ S)) ∧ ∀ g3, f_X9_step 45 (mc (20000 + x.2)) 0 h2 = some g3 → f_X9_behind_L23 (m + 1) 45 (nI r) h = f_X9_behind_L23 m 45 (nI r) g3 := by
      by_cases c3 : x.1 = 3
      · have e28' : hi h 45 28 = nI (dp (P ++ S) + 1) := by
          rw [e28]
          show nI ((if x.1 = 3 ∨ x.1 = 7 then 1 else 0) + dp (P ++ S)) = _
          rw [if_pos (Or.inl c3), Nat.add_comm]
        have pr : nI (dp (P ++ S) + 1) - (1 : Int32) = nI (dp (P ++ S)) := nI_pred _
        obtain ⟨f2, z2⟩ := z_deep z1 (dp (P ++ S))
        have q3 : nI x.1 = (3 : Int32) := by rw [c3]; rfl
        have n6 : ¬ (6 : Int32) < 3 := by decide
        have q4 : ¬ (3 : Int32) < nI r := by rw [← q3]; exact q2
        rw [q3] at s1
        refine ⟨_, f1.trans f2, z2, fun g3 hst => ?_⟩
        rw [f_X9_behind_L23.eq_2]
        simp (disch := (first | assumption | (simp only [FX_si, FX_sj, FX_sr, WX_si, WX_sj, WX_sr, FK_si, FK_sj, FK_sr]; assumption) | omega | decide)) only [e29, ix, s1, s2', n6, q4, e28', pr, hst, ↓reduceIte, if_true, if_false, i10, i01, eq_self, wq7, wq8, wq9, wq10, wrc, wgi, wpi, wpz, wn1, wn2, wn3, wn4, wr1, wr2, wr3, wr4, ww1, ww2, ww3, ww4, fgi, fgq, fpi, frc, at18, at19, at21, at22, at23, at24, at25, at26, at_neg, wat1, wat2, wat3, wat4, reduceCtorEq, bd_some, b1_some, b2_some, b3_some, b4_some, c1_eq, elim_inl, elim_inr, zok0, zok1, getQ_si, getQ_sj, getQ_sr, q8_0, q8_1, q8_2, q8_4, q8_7, q8_8, q8_9, q8_10, q8_11, q9_0, q9_3, q9_4, q9_8, q17_0, q17_1, q17_2, q17_4, q17_5, q17_6, q17_9, q17_10, q17_11, q27_4, q27_5, q27_6, q27_7, q27_8, q27_11, q45_0, q45_1, q45_11, q45_12, q45_13, q45_14, q45_15, q45_16, q45_17, q45_18, q45_19, q45_20, q45_21, q45_22, q45_23, q45_24, q45_30, q45_31, q45_32, q45_33, q45_34, q45_35, q45_36, q45_37, q45_38, q45_39, q45_43, q45_44, q45_45, q45_46, q45_47, q45_48, q45_52, q45_53, q45_54, q45_59, q45_60, q45_61, q45_62, q45_65, q45_67, q45_68, gi8, gj8, pi8, pz8, pj8, rc8, gi9, gj9, pi9, pz9, pj9, rc9, gi17, gj17, pi17, pz17, pj17, rc17, gi27, gj27, pi27, pz27, pj27, rc27, gi45, gj45, pi45, pz45, pj45, rc45, aln_si, aln_sj, aln_sq, rc_si, rc_sj, rc_sq, n0, n1, n10, n11, n12, n13, n14, n15, n16, n18, n19, n20, n21, n22, n23, n24, n25, n26, n29, n30, n31, n32, n33, n34, n35, n36, n37, n38, n39, n40, n42, n43, n44, n46, n47, n48, n49, n50, n51, n52, n53, n54, n55, n56, n57, n58, n59, n60, n61, n62, n63, n64, n65, n66, n67, n68, n69, n70, n71, n72, n73, n74, n75, n76, n77, n78, n79, n80, n81, n82, n83, n84, n85, n86, n87, r0, r1, r10, r11, r12, r13, r14, r15, r16, r18, r19, r20, r21, r22, r23, r24, r25, r26, r29, r30, r31, r32, r33, r34, r35, r36, r37, r38, r39, r40, r42, r43, r44, r46, r47, r48, r49, r50, r51, r52, r53, r54, r55, r56, r57, r58, r59, r60, r61, r62, r63, r64, r65, r66, r67, r68, r69, r70, r71, r72, r73, r74, r75, r76, r77, r78, r79, r80, r81, r82, r83, r84, r85, r86, r87, w10, w11, w12, w13, w18, w19, w20, w21, w22, w23, w24, w25, w26, w30, w31, w32, w33, w34, w35, w36, w38, w39, w40, w43, w44, w46, w47, w48, w49, w50, w51, w52, w53, w54, w55, w56, w57, w58, w59, w60, w61, w62, w63, w64, w65, w66, w67, w68, w69, w70, w71, w72, w73, w74, w75, w76, w77, w78, w79, w80, w81, w82, w83, w84, w85, w86, w87, hi_hit, hi_row, hi_col, hj_hit, hj_row, hj_col, hi_sj, hj_si, hq_si, hq_sj, hi_sq, hj_sq, hi_srh, hi_srm]
      · have e28' : dp (x :: (P ++ S)) = dp (P ++ S) := by
          show (if x.1 = 3 ∨ x.1 = 7 then 1 else 0) + dp (P ++ S) = _
          rw [if_neg (by omega), Nat.zero_add]
        rw [e28'] at z1
        have q3 : ¬ nI x.1 = (3 : Int32) := fun q => c3 ((nI_eq (b := 3) (by omega) (by decide)).mp q)
        refine ⟨_, f1, z1, fun g3 hst => ?_⟩
        rw [f_X9_behind_L23.eq_2]
        simp (disch := (first | assumption | (simp only [FX_si, FX_sj, FX_sr, WX_si, WX_sj, WX_sr, FK_si, FK_sj, FK_sr]; assumption) | omega | decide)) only [e29, ix, s1, s2', q1, q2, q3, hst, ↓reduceIte, if_true, if_false, i10, i01, eq_self, wq7, wq8, wq9, wq10, wrc, wgi, wpi, wpz, wn1, wn2, wn3, wn4, wr1, wr2, wr3, wr4, ww1, ww2, ww3, ww4, fgi, fgq, fpi, frc, at18, at19, at21, at22, at23, at24, at25, at26, at_neg, wat1, wat2, wat3, wat4, reduceCtorEq, bd_some, b1_some, b2_some, b3_some, b4_some, c1_eq, elim_inl, elim_inr, zok0, zok1, getQ_si, getQ_sj, getQ_sr, q8_0, q8_1, q8_2, q8_4, q8_7, q8_8, q8_9, q8_10, q8_11, q9_0, q9_3, q9_4, q9_8, q17_0, q17_1, q17_2, q17_4, q17_5, q17_6, q17_9, q17_10, q17_11, q27_4, q27_5, q27_6, q27_7, q27_8, q27_11, q45_0, q45_1, q45_11, q45_12, q45_13, q45_14, q45_15, q45_16, q45_17, q45_18, q45_19, q45_20, q45_21, q45_22, q45_23, q45_24, q45_30, q45_31, q45_32, q45_33, q45_34, q45_35, q45_36, q45_37, q45_38, q45_39, q45_43, q45_44, q45_45, q45_46, q45_47, q45_48, q45_52, q45_53, q45_54, q45_59, q45_60, q45_61, q45_62, q45_65, q45_67, q45_68, gi8, gj8, pi8, pz8, pj8, rc8, gi9, gj9, pi9, pz9, pj9, rc9, gi17, gj17, pi17, pz17, pj17, rc17, gi27, gj27, pi27, pz27, pj27, rc27, gi45, gj45, pi45, pz45, pj45, rc45, aln_si, aln_sj, aln_sq, rc_si, rc_sj, rc_sq, n0, n1, n10, n11, n12, n13, n14, n15, n16, n18, n19, n20, n21, n22, n23, n24, n25, n26, n29, n30, n31, n32, n33, n34, n35, n36, n37, n38, n39, n40, n42, n43, n44, n46, n47, n48, n49, n50, n51, n52, n53, n54, n55, n56, n57, n58, n59, n60, n61, n62, n63, n64, n65, n66, n67, n68, n69, n70, n71, n72, n73, n74, n75, n76, n77, n78, n79, n80, n81, n82, n83, n84, n85, n86, n87, r0, r1, r10, r11, r12, r13, r14, r15, r16, r18, r19, r20, r21, r22, r23, r24, r25, r26, r29, r30, r31, r32, r33, r34, r35, r36, r37, r38, r39, r40, r42, r43, r44, r46, r47, r48, r49, r50, r51, r52, r53, r54, r55, r56, r57, r58, r59, r60, r61, r62, r63, r64, r65, r66, r67, r68, r69, r70, r71, r72, r73, r74, r75, r76, r77, r78, r79, r80, r81, r82, r83, r84, r85, r86, r87, w10, w11, w12, w13, w18, w19, w20, w21, w22, w23, w24, w25, w26, w30, w31, w32, w33, w34, w35, w36, w38, w39, w40, w43, w44, w46, w47, w48, w49, w50, w51, w52, w53, w54, w55, w56, w57, w58, w59, w60, w61, w62, w63, w64, w65, w66, w67, w68, w69, w70, w71, w72, w73, w74, w75, w76, w77, w78, w79, w80, w81, w82, w83, w84, w85, w86, w87, hi_hit, hi_row, hi_col, hj_hit, hj_row, hj_col, hi_sj, hj_si, hq_si, hq_sj, hi_sq, hj_sq, hi_srh, hi_srm]
    obtain ⟨h2, f2, z2, k2⟩ := key
    have pl : (x :: P).length = P.length + 1 := rfl
    obtain ⟨g3, a1, a2, a3⟩ := z_step z2 (by omega) (x := 20000 + x.2) (v1 := mc (20000 + x.2)) (v2 := 0) rfl ⟨fun q => by omega, fun m hm q => by omega, fun m hm q => by omega⟩
    obtain ⟨g4, b1', b2', b3'⟩ := ih m g3 (c ++ [20000 + x.2]) (by omega) a3 (fun y hy' => hP y (List.mem_cons_of_mem _ hy')) (by rw [List.length_append, List.length_singleton]; omega) (by omega)
    refine ⟨g4, by rw [k2 g3 a1]; exact b1', (f2.trans a2).trans b2', ?_⟩
    have e : c ++ [20000 + x.2] ++ stp P = c ++ stp (x :: P) := by rw [List.append_assoc]; rfl
    rw [← e]
    exact b3'
/-- whether something was compared already -/
def cmpd : List (Nat × Nat) → Bool
  | [] => false
  | x :: r => if x.1 = 5 ∨ x.1 = 6 then cmpd r else decide (x.1 = 4)
theorem cmpd_app : ∀ P S : List (Nat × Nat), cmpd P = true → cmpd (P ++ S) = true := by
  intro P
  induction P with
  | nil => intro S e; cases e
  | cons x P ih =>
    intro S e
    unfold cmpd at e
    show (if x.1 = 5 ∨ x.1 = 6 then cmpd (P ++ S) else decide (x.1 = 4)) = true
    by_cases q : x.1 = 5 ∨ x.1 = 6
    · rw [if_pos q] at e ⊢; exact ih S e
    · rw [if_neg q] at e ⊢; exact e
theorem cmpd_skip : ∀ P S : List (Nat × Nat), (∀ x ∈ P, 5 ≤ x.1 ∧ x.1 ≤ 6) → cmpd (P ++ S) = cmpd S := by
  intro P
  induction P with
  | nil => intro S _; rfl
  | cons x P ih =>
    intro S e
    show (if x.1 = 5 ∨ x.1 = 6 then cmpd (P ++ S) else decide (x.1 = 4)) = _
    rw [if_pos (by have := e x (List.mem_cons_self ..); omega)]
    exact ih S (fun y hy => e y (List.mem_cons_of_mem _ hy))
theorem z_cmpL (X : FX h) : ∀ (S : List (Nat × Nat)) (m : Nat), S.length < m → stk h S → S.length ≤ 80 → (∃ x ∈ S, x.1 = 8) → ∃ k, f_X9_isCompared_L7 m 45 (nI (S.length - 1)) h = some (nI k, h) ∧ k < 80 ∧ (hi h 57 k = 4 ↔ cmpd S = true) := by
  intro S
  induction S with
  | nil => rintro m - - - ⟨x, hx, -⟩; cases hx
  | cons x S ih =>
    rintro m hm ⟨s1, s2, s3, s4⟩ hl ⟨y, hy, y8⟩
    obtain ⟨m, rfl⟩ : ∃ m', m = m' + 1 := ⟨m - 1, by omega⟩
    have l1 : (x :: S).length - 1 = S.length := rfl
    have l2 : S.length + 1 ≤ 80 := hl
    have lt : S.length < 80 := by omega
    rw [l1, f_X9_isCompared_L7.eq_2]
    have e5 : nI x.1 = (5 : Int32) ↔ x.1 = 5 := nI_eq (b := 5) (by omega) (by decide)
    have e6 : nI x.1 = (6 : Int32) ↔ x.1 = 6 := nI_eq (b := 6) (by omega) (by decide)
    have e4 : nI x.1 = (4 : Int32) ↔ x.1 = 4 := nI_eq (b := 4) (by omega) (by decide)
    by_cases q : x.1 = 5 ∨ x.1 = 6
    · have hy' : y ∈ S := by
        rcases List.mem_cons.mp hy with e | e
        · rw [e] at y8; omega
        · exact e
      have sl : S.length ≠ 0 := fun e => by rw [List.length_eq_zero_iff.mp e] at hy'; cases hy'
      have dec : nI S.length + (-1) = nI (S.length - 1) := by
        obtain ⟨k, ek⟩ : ∃ k, S.length = k + 1 := ⟨S.length - 1, by omega⟩
        rw [ek, pk_m1]
        rfl
      obtain ⟨k, k1, k2, k3⟩ := ih m (by show S.length < m; have : (x :: S).length = S.length + 1 := rfl; omega) s4 (by omega) ⟨y, hy', y8⟩
      refine ⟨k, ?_, k2, ?_⟩
      · by_cases q5 : x.1 = 5
        · have q5' := e5.mpr q5
          rw [q5'] at s1
          simp (disch := (first | assumption | (simp only [FX_si, FX_sj, FX_sr, WX_si, WX_sj, WX_sr, FK_si, FK_sj, FK_sr]; assumption) | omega | decide)) only [s1, dec, k1, ↓reduceIte, if_true, if_false, i10, i01, eq_self, wq7, wq8, wq9, wq10, wrc, wgi, wpi, wpz, wn1, wn2, wn3, wn4, wr1, wr2, wr3, wr4, ww1, ww2, ww3, ww4, fgi, fgq, fpi, frc, at18, at19, at21, at22, at23, at24, at25, at26, at_neg, wat1, wat2, wat3, wat4, reduceCtorEq, bd_some, b1_some, b2_some, b3_some, b4_some, c1_eq, elim_inl, elim_inr, zok0, zok1, getQ_si, getQ_sj, getQ_sr, q8_0, q8_1, q8_2, q8_4, q8_7, q8_8, q8_9, q8_10, q8_11, q9_0, q9_3, q9_4, q9_8, q17_0, q17_1, q17_2, q17_4, q17_5, q17_6, q17_9, q17_10, q17_11, q27_4, q27_5, q27_6, q27_7, q27_8, q27_11, q45_0, q45_1, q45_11, q45_12, q45_13, q45_14, q45_15, q45_16, q45_17, q45_18, q45_19, q45_20, q45_21, q45_22, q45_23, q45_24, q45_30, q45_31, q45_32, q45_33, q45_34, q45_35, q45_36, q45_37, q45_38, q45_39, q45_43, q45_44, q45_45, q45_46, q45_47, q45_48, q45_52, q45_53, q45_54, q45_59, q45_60, q45_61, q45_62, q45_65, q45_67, q45_68, gi8, gj8, pi8, pz8, pj8, rc8, gi9, gj9, pi9, pz9, pj9, rc9, gi17, gj17, pi17, pz17, pj17, rc17, gi27, gj27, pi27, pz27, pj27, rc27, gi45, gj45, pi45, pz45, pj45, rc45, aln_si, aln_sj, aln_sq, rc_si, rc_sj, rc_sq, n0, n1, n10, n11, n12, n13, n14, n15, n16, n18, n19, n20, n21, n22, n23, n24, n25, n26, n29, n30, n31, n32, n33, n34, n35, n36, n37, n38, n39, n40, n42, n43, n44, n46, n47, n48, n49, n50, n51, n52, n53, n54, n55, n56, n57, n58, n59, n60, n61, n62, n63, n64, n65, n66, n67, n68, n69, n70, n71, n72, n73, n74, n75, n76, n77, n78, n79, n80, n81, n82, n83, n84, n85, n86, n87, r0, r1, r10, r11, r12, r13, r14, r15, r16, r18, r19, r20, r21, r22, r23, r24, r25, r26, r29, r30, r31, r32, r33, r34, r35, r36, r37, r38, r39, r40, r42, r43, r44, r46, r47, r48, r49, r50, r51, r52, r53, r54, r55, r56, r57, r58, r59, r60, r61, r62, r63, r64, r65, r66, r67, r68, r69, r70, r71, r72, r73, r74, r75, r76, r77, r78, r79, r80, r81, r82, r83, r84, r85, r86, r87, w10, w11, w12, w13, w18, w19, w20, w21, w22, w23, w24, w25, w26, w30, w31, w32, w33, w34, w35, w36, w38, w39, w40, w43, w44, w46, w47, w48, w49, w50, w51, w52, w53, w54, w55, w56, w57, w58, w59, w60, w61, w62, w63, w64, w65, w66, w67, w68, w69, w70, w71, w72, w73, w74, w75, w76, w77, w78, w79, w80, w81, w82, w83, w84, w85, w86, w87, hi_hit, hi_row, hi_col, hj_hit, hj_row, hj_col, hi_sj, hj_si, hq_si, hq_sj, hi_sq, hj_sq, hi_srh, hi_srm]
        · have q5' : ¬ (6 : Int32) = 5 := by decide
          have q6' := e6.mpr (q.resolve_left q5)
          rw [q6'] at s1
          simp (disch := (first | assumption | (simp only [FX_si, FX_sj, FX_sr, WX_si, WX_sj, WX_sr, FK_si, FK_sj, FK_sr]; assumption) | omega | decide)) only [s1, q5', dec, k1, ↓reduceIte, if_true, if_false, i10, i01, eq_self, wq7, wq8, wq9, wq10, wrc, wgi, wpi, wpz, wn1, wn2, wn3, wn4, wr1, wr2, wr3, wr4, ww1, ww2, ww3, ww4, fgi, fgq, fpi, frc, at18, at19, at21, at22, at23, at24, at25, at26, at_neg, wat1, wat2, wat3, wat4, reduceCtorEq, bd_some, b1_some, b2_some, b3_some, b4_some, c1_eq, elim_inl, elim_inr, zok0, zok1, getQ_si, getQ_sj, getQ_sr, q8_0, q8_1, q8_2, q8_4, q8_7, q8_8, q8_9, q8_10, q8_11, q9_0, q9_3, q9_4, q9_8, q17_0, q17_1, q17_2, q17_4, q17_5, q17_6, q17_9, q17_10, q17_11, q27_4, q27_5, q27_6, q27_7, q27_8, q27_11, q45_0, q45_1, q45_11, q45_12, q45_13, q45_14, q45_15, q45_16, q45_17, q45_18, q45_19, q45_20, q45_21, q45_22, q45_23, q45_24, q45_30, q45_31, q45_32, q45_33, q45_34, q45_35, q45_36, q45_37, q45_38, q45_39, q45_43, q45_44, q45_45, q45_46, q45_47, q45_48, q45_52, q45_53, q45_54, q45_59, q45_60, q45_61, q45_62, q45_65, q45_67, q45_68, gi8, gj8, pi8, pz8, pj8, rc8, gi9, gj9, pi9, pz9, pj9, rc9, gi17, gj17, pi17, pz17, pj17, rc17, gi27, gj27, pi27, pz27, pj27, rc27, gi45, gj45, pi45, pz45, pj45, rc45, aln_si, aln_sj, aln_sq, rc_si, rc_sj, rc_sq, n0, n1, n10, n11, n12, n13, n14, n15, n16, n18, n19, n20, n21, n22, n23, n24, n25, n26, n29, n30, n31, n32, n33, n34, n35, n36, n37, n38, n39, n40, n42, n43, n44, n46, n47, n48, n49, n50, n51, n52, n53, n54, n55, n56, n57, n58, n59, n60, n61, n62, n63, n64, n65, n66, n67, n68, n69, n70, n71, n72, n73, n74, n75, n76, n77, n78, n79, n80, n81, n82, n83, n84, n85, n86, n87, r0, r1, r10, r11, r12, r13, r14, r15, r16, r18, r19, r20, r21, r22, r23, r24, r25, r26, r29, r30, r31, r32, r33, r34, r35, r36, r37, r38, r39, r40, r42, r43, r44, r46, r47, r48, r49, r50, r51, r52, r53, r54, r55, r56, r57, r58, r59, r60, r61, r62, r63, r64, r65, r66, r67, r68, r69, r70, r71, r72, r73, r74, r75, r76, r77, r78, r79, r80, r81, r82, r83, r84, r85, r86, r87, w10, w11, w12, w13, w18, w19, w20, w21, w22, w23, w24, w25, w26, w30, w31, w32, w33, w34, w35, w36, w38, w39, w40, w43, w44, w46, w47, w48, w49, w50, w51, w52, w53, w54, w55, w56, w57, w58, w59, w60, w61, w62, w63, w64, w65, w66, w67, w68, w69, w70, w71, w72, w73, w74, w75, w76, w77, w78, w79, w80, w81, w82, w83, w84, w85, w86, w87, hi_hit, hi_row, hi_col, hj_hit, hj_row, hj_col, hi_sj, hj_si, hq_si, hq_sj, hi_sq, hj_sq, hi_srh, hi_srm]
      · show _ ↔ (if x.1 = 5 ∨ x.1 = 6 then cmpd S else decide (x.1 = 4)) = true
        rw [if_pos q]
        exact k3
    · have q5' : ¬ nI x.1 = (5 : Int32) := fun z => q (Or.inl (e5.mp z))
      have q6' : ¬ nI x.1 = (6 : Int32) := fun z => q (Or.inr (e6.mp z))
      refine ⟨S.length, ?_, lt, ?_⟩
      · simp (disch := (first | assumption | (simp only [FX_si, FX_sj, FX_sr, WX_si, WX_sj, WX_sr, FK_si, FK_sj, FK_sr]; assumption) | omega | decide)) only [s1, q5', q6', ↓reduceIte, if_true, if_false, i10, i01, eq_self, wq7, wq8, wq9, wq10, wrc, wgi, wpi, wpz, wn1, wn2, wn3, wn4, wr1, wr2, wr3, wr4, ww1, ww2, ww3, ww4, fgi, fgq, fpi, frc, at18, at19, at21, at22, at23, at24, at25, at26, at_neg, wat1, wat2, wat3, wat4, reduceCtorEq, bd_some, b1_some, b2_some, b3_some, b4_some, c1_eq, elim_inl, elim_inr, zok0, zok1, getQ_si, getQ_sj, getQ_sr, q8_0, q8_1, q8_2, q8_4, q8_7, q8_8, q8_9, q8_10, q8_11, q9_0, q9_3, q9_4, q9_8, q17_0, q17_1, q17_2, q17_4, q17_5, q17_6, q17_9, q17_10, q17_11, q27_4, q27_5, q27_6, q27_7, q27_8, q27_11, q45_0, q45_1, q45_11, q45_12, q45_13, q45_14, q45_15, q45_16, q45_17, q45_18, q45_19, q45_20, q45_21, q45_22, q45_23, q45_24, q45_30, q45_31, q45_32, q45_33, q45_34, q45_35, q45_36, q45_37, q45_38, q45_39, q45_43, q45_44, q45_45, q45_46, q45_47, q45_48, q45_52, q45_53, q45_54, q45_59, q45_60, q45_61, q45_62, q45_65, q45_67, q45_68, gi8, gj8, pi8, pz8, pj8, rc8, gi9, gj9, pi9, pz9, pj9, rc9, gi17, gj17, pi17, pz17, pj17, rc17, gi27, gj27, pi27, pz27, pj27, rc27, gi45, gj45, pi45, pz45, pj45, rc45, aln_si, aln_sj, aln_sq, rc_si, rc_sj, rc_sq, n0, n1, n10, n11, n12, n13, n14, n15, n16, n18, n19, n20, n21, n22, n23, n24, n25, n26, n29, n30, n31, n32, n33, n34, n35, n36, n37, n38, n39, n40, n42, n43, n44, n46, n47, n48, n49, n50, n51, n52, n53, n54, n55, n56, n57, n58, n59, n60, n61, n62, n63, n64, n65, n66, n67, n68, n69, n70, n71, n72, n73, n74, n75, n76, n77, n78, n79, n80, n81, n82, n83, n84, n85, n86, n87, r0, r1, r10, r11, r12, r13, r14, r15, r16, r18, r19, r20, r21, r22, r23, r24, r25, r26, r29, r30, r31, r32, r33, r34, r35, r36, r37, r38, r39, r40, r42, r43, r44, r46, r47, r48, r49, r50, r51, r52, r53, r54, r55, r56, r57, r58, r59, r60, r61, r62, r63, r64, r65, r66, r67, r68, r69, r70, r71, r72, r73, r74, r75, r76, r77, r78, r79, r80, r81, r82, r83, r84, r85, r86, r87, w10, w11, w12, w13, w18, w19, w20, w21, w22, w23, w24, w25, w26, w30, w31, w32, w33, w34, w35, w36, w38, w39, w40, w43, w44, w46, w47, w48, w49, w50, w51, w52, w53, w54, w55, w56, w57, w58, w59, w60, w61, w62, w63, w64, w65, w66, w67, w68, w69, w70, w71, w72, w73, w74, w75, w76, w77, w78, w79, w80, w81, w82, w83, w84, w85, w86, w87, hi_hit, hi_row, hi_col, hj_hit, hj_row, hj_col, hi_sj, hj_si, hq_si, hq_sj, hi_sq, hj_sq, hi_srh, hi_srm]
      · show _ ↔ (if x.1 = 5 ∨ x.1 = 6 then cmpd S else decide (x.1 = 4)) = true
        rw [if_neg q, s1, e4, decide_eq_true_eq]
theorem z_cmp (z : MZ h B n i u base c S D) (hl : S.length ≤ 80) (h8 : ∃ x ∈ S, x.1 = 8) : f_X9_isCompared 45 h = some (if cmpd S = true then 1 else 0, h) := by
  have X := z.1.1.1
  have e29 := z.2.2.2.1
  obtain ⟨k, k1, k2, k3⟩ := z_cmpL X S fu (fu_gt (by omega)) z.2.2.2.2.1 hl h8
  have sl : 1 ≤ S.length := by
    obtain ⟨x, hx, -⟩ := h8
    cases S with
    | nil => cases hx
    | cons y S => exact Nat.le_add_left _ _
  have dec : nI S.length - (1 : Int32) = nI (S.length - 1) := by rw [show (1 : Int32) = nI 1 from rfl, pk_sub sl]
  unfold f_X9_isCompared
  by_cases q : cmpd S = true
  · have q' := k3.mpr q
    rw [if_pos q]
    simp (disch := (first | assumption | (simp only [FX_si, FX_sj, FX_sr, WX_si, WX_sj, WX_sr, FK_si, FK_sj, FK_sr]; assumption) | omega | decide)) only [e29, dec, k1, q', ↓reduceIte, if_true, if_false, i10, i01, eq_self, wq7, wq8, wq9, wq10, wrc, wgi, wpi, wpz, wn1, wn2, wn3, wn4, wr1, wr2, wr3, wr4, ww1, ww2, ww3, ww4, fgi, fgq, fpi, frc, at18, at19, at21, at22, at23, at24, at25, at26, at_neg, wat1, wat2, wat3, wat4, reduceCtorEq, bd_some, b1_some, b2_some, b3_some, b4_some, c1_eq, elim_inl, elim_inr, zok0, zok1, getQ_si, getQ_sj, getQ_sr, q8_0, q8_1, q8_2, q8_4, q8_7, q8_8, q8_9, q8_10, q8_11, q9_0, q9_3, q9_4, q9_8, q17_0, q17_1, q17_2, q17_4, q17_5, q17_6, q17_9, q17_10, q17_11, q27_4, q27_5, q27_6, q27_7, q27_8, q27_11, q45_0, q45_1, q45_11, q45_12, q45_13, q45_14, q45_15, q45_16, q45_17, q45_18, q45_19, q45_20, q45_21, q45_22, q45_23, q45_24, q45_30, q45_31, q45_32, q45_33, q45_34, q45_35, q45_36, q45_37, q45_38, q45_39, q45_43, q45_44, q45_45, q45_46, q45_47, q45_48, q45_52, q45_53, q45_54, q45_59, q45_60, q45_61, q45_62, q45_65, q45_67, q45_68, gi8, gj8, pi8, pz8, pj8, rc8, gi9, gj9, pi9, pz9, pj9, rc9, gi17, gj17, pi17, pz17, pj17, rc17, gi27, gj27, pi27, pz27, pj27, rc27, gi45, gj45, pi45, pz45, pj45, rc45, aln_si, aln_sj, aln_sq, rc_si, rc_sj, rc_sq, n0, n1, n10, n11, n12, n13, n14, n15, n16, n18, n19, n20, n21, n22, n23, n24, n25, n26, n29, n30, n31, n32, n33, n34, n35, n36, n37, n38, n39, n40, n42, n43, n44, n46, n47, n48, n49, n50, n51, n52, n53, n54, n55, n56, n57, n58, n59, n60, n61, n62, n63, n64, n65, n66, n67, n68, n69, n70, n71, n72, n73, n74, n75, n76, n77, n78, n79, n80, n81, n82, n83, n84, n85, n86, n87, r0, r1, r10, r11, r12, r13, r14, r15, r16, r18, r19, r20, r21, r22, r23, r24, r25, r26, r29, r30, r31, r32, r33, r34, r35, r36, r37, r38, r39, r40, r42, r43, r44, r46, r47, r48, r49, r50, r51, r52, r53, r54, r55, r56, r57, r58, r59, r60, r61, r62, r63, r64, r65, r66, r67, r68, r69, r70, r71, r72, r73, r74, r75, r76, r77, r78, r79, r80, r81, r82, r83, r84, r85, r86, r87, w10, w11, w12, w13, w18, w19, w20, w21, w22, w23, w24, w25, w26, w30, w31, w32, w33, w34, w35, w36, w38, w39, w40, w43, w44, w46, w47, w48, w49, w50, w51, w52, w53, w54, w55, w56, w57, w58, w59, w60, w61, w62, w63, w64, w65, w66, w67, w68, w69, w70, w71, w72, w73, w74, w75, w76, w77, w78, w79, w80, w81, w82, w83, w84, w85, w86, w87, hi_hit, hi_row, hi_col, hj_hit, hj_row, hj_col, hi_sj, hj_si, hq_si, hq_sj, hi_sq, hj_sq, hi_srh, hi_srm]
  · have q' : ¬ hi h 57 k = 4 := fun z => q (k3.mp z)
    rw [if_neg q]
    simp (disch := (first | assumption | (simp only [FX_si, FX_sj, FX_sr, WX_si, WX_sj, WX_sr, FK_si, FK_sj, FK_sr]; assumption) | omega | decide)) only [e29, dec, k1, q', ↓reduceIte, if_true, if_false, i10, i01, eq_self, wq7, wq8, wq9, wq10, wrc, wgi, wpi, wpz, wn1, wn2, wn3, wn4, wr1, wr2, wr3, wr4, ww1, ww2, ww3, ww4, fgi, fgq, fpi, frc, at18, at19, at21, at22, at23, at24, at25, at26, at_neg, wat1, wat2, wat3, wat4, reduceCtorEq, bd_some, b1_some, b2_some, b3_some, b4_some, c1_eq, elim_inl, elim_inr, zok0, zok1, getQ_si, getQ_sj, getQ_sr, q8_0, q8_1, q8_2, q8_4, q8_7, q8_8, q8_9, q8_10, q8_11, q9_0, q9_3, q9_4, q9_8, q17_0, q17_1, q17_2, q17_4, q17_5, q17_6, q17_9, q17_10, q17_11, q27_4, q27_5, q27_6, q27_7, q27_8, q27_11, q45_0, q45_1, q45_11, q45_12, q45_13, q45_14, q45_15, q45_16, q45_17, q45_18, q45_19, q45_20, q45_21, q45_22, q45_23, q45_24, q45_30, q45_31, q45_32, q45_33, q45_34, q45_35, q45_36, q45_37, q45_38, q45_39, q45_43, q45_44, q45_45, q45_46, q45_47, q45_48, q45_52, q45_53, q45_54, q45_59, q45_60, q45_61, q45_62, q45_65, q45_67, q45_68, gi8, gj8, pi8, pz8, pj8, rc8, gi9, gj9, pi9, pz9, pj9, rc9, gi17, gj17, pi17, pz17, pj17, rc17, gi27, gj27, pi27, pz27, pj27, rc27, gi45, gj45, pi45, pz45, pj45, rc45, aln_si, aln_sj, aln_sq, rc_si, rc_sj, rc_sq, n0, n1, n10, n11, n12, n13, n14, n15, n16, n18, n19, n20, n21, n22, n23, n24, n25, n26, n29, n30, n31, n32, n33, n34, n35, n36, n37, n38, n39, n40, n42, n43, n44, n46, n47, n48, n49, n50, n51, n52, n53, n54, n55, n56, n57, n58, n59, n60, n61, n62, n63, n64, n65, n66, n67, n68, n69, n70, n71, n72, n73, n74, n75, n76, n77, n78, n79, n80, n81, n82, n83, n84, n85, n86, n87, r0, r1, r10, r11, r12, r13, r14, r15, r16, r18, r19, r20, r21, r22, r23, r24, r25, r26, r29, r30, r31, r32, r33, r34, r35, r36, r37, r38, r39, r40, r42, r43, r44, r46, r47, r48, r49, r50, r51, r52, r53, r54, r55, r56, r57, r58, r59, r60, r61, r62, r63, r64, r65, r66, r67, r68, r69, r70, r71, r72, r73, r74, r75, r76, r77, r78, r79, r80, r81, r82, r83, r84, r85, r86, r87, w10, w11, w12, w13, w18, w19, w20, w21, w22, w23, w24, w25, w26, w30, w31, w32, w33, w34, w35, w36, w38, w39, w40, w43, w44, w46, w47, w48, w49, w50, w51, w52, w53, w54, w55, w56, w57, w58, w59, w60, w61, w62, w63, w64, w65, w66, w67, w68, w69, w70, w71, w72, w73, w74, w75, w76, w77, w78, w79, w80, w81, w82, w83, w84, w85, w86, w87, hi_hit, hi_row, hi_col, hj_hit, hj_row, hj_col, hi_sj, hj_si, hq_si, hq_sj, hi_sq, hj_sq, hi_srh, hi_srm]
end Mp
