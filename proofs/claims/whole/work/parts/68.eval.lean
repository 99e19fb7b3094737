/-! Acts' conditions as rows of steps: what they say of a week, and how the class finds it. -/
section Ev
variable (pd : Nat → Nat → Int32) (pl tm : Int32) (u : Nat)
def hb (i lo : Nat) : Nat → Int32
  | 0 => 0
  | n + 1 => hb i lo n + (if pd i (lo + n) ≤ 0 then 0 else 1)
def hab (i : Nat) : Int32 := hb pd i (u - 12) (u - (u - 12))
def tot : Int32 := pd 0 u + pd 1 u + pd 2 u + pd 3 u + pd 4 u
def lvF (s : Nat) : Int32 := if s < 10000 then nI s else if s < 10006 then pd (s - 10000) u else if s = 10006 then tot pd u else if s = 10007 then nI u else if s = 10008 then pl else if s = 10009 then tm else hab pd u (s - 10010)
def jn (t : Nat) (a b : Int32) : Int32 :=
  if t = 10 then (if a = 0 then (if b = 0 then 0 else 1) else 1) else if t = 11 then (if a = 0 then 0 else if b = 0 then 0 else 1) else if t = 42 then a * b else if t = 43 then a + b else if t = 45 then a - b else
  if t = 60 then (if b ≤ a then 0 else 1) else if t = 61 then (if a = b then 1 else 0) else if t = 62 then (if a ≤ b then 0 else 1) else if b = 0 then 0 else a / b
def evS : List Nat → (Nat → Int32) → Nat → Nat → Int32
  | [], S, _ => S
  | s :: l, S, d => if s < 20000 then evS l (upd S d (lvF pd pl tm u s)) (d + 1) else if s = 20012 then evS l (upd S (d - 1) (if S (d - 1) = 0 then 1 else 0)) d else evS l (upd S (d - 2) (jn (s - 20000) (S (d - 2)) (S (d - 1)))) (d - 1)
def evV (C : List Nat) : Int32 := evS pd pl tm u C (fun _ => 0) 0 0
end Ev
/-- enough on the stack, never above 80, one at the end -/
def okc : List Nat → Nat → Prop
  | [], d => d = 1
  | s :: l, d => if s < 20000 then d < 80 ∧ okc l (d + 1) else if s = 20012 then 0 < d ∧ okc l d else 1 < d ∧ okc l (d - 1)
def jtok (t : Nat) : Prop := t = 10 ∨ t = 11 ∨ t = 42 ∨ t = 43 ∨ t = 45 ∨ t = 47 ∨ t = 60 ∨ t = 61 ∨ t = 62
def okS (s : Nat) : Prop := s < 10015 ∨ s = 20012 ∨ (20000 ≤ s ∧ jtok (s - 20000))
def OKC (C : List Nat) : Prop := okc C 0 ∧ (∀ s ∈ C, okS s) ∧ C.length < 900
theorem c_join {t : Nat} (ht : jtok t) (a b : Int32) (h : Hp) : f_X4_join (nI t) a b h = some (jn t a b, h) := by
  rcases ht with rfl | rfl | rfl | rfl | rfl | rfl | rfl | rfl | rfl
  · show f_X4_join 10 a b h = _
    unfold f_X4_join jn
    rw [if_pos (show (10 : Int32) = 10 from rfl), if_pos (show 10 = 10 from rfl)]
    by_cases h1 : a = 0 <;> by_cases h2 : b = 0 <;> simp [h1, h2, b1]
  · show f_X4_join 11 a b h = _
    unfold f_X4_join jn
    rw [if_neg (show ¬ (11 : Int32) = 10 by decide), if_neg (show ¬ 11 = 10 by decide)]
    rw [if_pos (show (11 : Int32) = 11 from rfl), if_pos (show 11 = 11 from rfl)]
    by_cases h1 : a = 0 <;> by_cases h2 : b = 0 <;> simp [h1, h2, b1]
  · show f_X4_join 42 a b h = _
    unfold f_X4_join jn
    rw [if_neg (show ¬ (42 : Int32) = 10 by decide), if_neg (show ¬ 42 = 10 by decide)]
    rw [if_neg (show ¬ (42 : Int32) = 11 by decide), if_neg (show ¬ 42 = 11 by decide)]
    rw [if_pos (show (42 : Int32) = 42 from rfl), if_pos (show 42 = 42 from rfl)]
  · show f_X4_join 43 a b h = _
    unfold f_X4_join jn
    rw [if_neg (show ¬ (43 : Int32) = 10 by decide), if_neg (show ¬ 43 = 10 by decide)]
    rw [if_neg (show ¬ (43 : Int32) = 11 by decide), if_neg (show ¬ 43 = 11 by decide)]
    rw [if_neg (show ¬ (43 : Int32) = 42 by decide), if_neg (show ¬ 43 = 42 by decide)]
    rw [if_pos (show (43 : Int32) = 43 from rfl), if_pos (show 43 = 43 from rfl)]
  · show f_X4_join 45 a b h = _
    unfold f_X4_join jn
    rw [if_neg (show ¬ (45 : Int32) = 10 by decide), if_neg (show ¬ 45 = 10 by decide)]
    rw [if_neg (show ¬ (45 : Int32) = 11 by decide), if_neg (show ¬ 45 = 11 by decide)]
    rw [if_neg (show ¬ (45 : Int32) = 42 by decide), if_neg (show ¬ 45 = 42 by decide)]
    rw [if_neg (show ¬ (45 : Int32) = 43 by decide), if_neg (show ¬ 45 = 43 by decide)]
    rw [if_pos (show (45 : Int32) = 45 from rfl), if_pos (show 45 = 45 from rfl)]
  · show f_X4_join 47 a b h = _
    unfold f_X4_join jn
    rw [if_neg (show ¬ (47 : Int32) = 10 by decide), if_neg (show ¬ 47 = 10 by decide)]
    rw [if_neg (show ¬ (47 : Int32) = 11 by decide), if_neg (show ¬ 47 = 11 by decide)]
    rw [if_neg (show ¬ (47 : Int32) = 42 by decide), if_neg (show ¬ 47 = 42 by decide)]
    rw [if_neg (show ¬ (47 : Int32) = 43 by decide), if_neg (show ¬ 47 = 43 by decide)]
    rw [if_neg (show ¬ (47 : Int32) = 45 by decide), if_neg (show ¬ 47 = 45 by decide)]
    rw [if_neg (show ¬ (47 : Int32) = 60 by decide), if_neg (show ¬ 47 = 60 by decide)]
    rw [if_neg (show ¬ (47 : Int32) = 61 by decide), if_neg (show ¬ 47 = 61 by decide)]
    rw [if_neg (show ¬ (47 : Int32) = 62 by decide), if_neg (show ¬ 47 = 62 by decide)]
    by_cases h1 : b = 0 <;> simp [h1, b1, dvI]
  · show f_X4_join 60 a b h = _
    unfold f_X4_join jn
    rw [if_neg (show ¬ (60 : Int32) = 10 by decide), if_neg (show ¬ 60 = 10 by decide)]
    rw [if_neg (show ¬ (60 : Int32) = 11 by decide), if_neg (show ¬ 60 = 11 by decide)]
    rw [if_neg (show ¬ (60 : Int32) = 42 by decide), if_neg (show ¬ 60 = 42 by decide)]
    rw [if_neg (show ¬ (60 : Int32) = 43 by decide), if_neg (show ¬ 60 = 43 by decide)]
    rw [if_neg (show ¬ (60 : Int32) = 45 by decide), if_neg (show ¬ 60 = 45 by decide)]
    rw [if_pos (show (60 : Int32) = 60 from rfl), if_pos (show 60 = 60 from rfl)]
    by_cases h1 : b ≤ a <;> simp [h1, b1]
  · show f_X4_join 61 a b h = _
    unfold f_X4_join jn
    rw [if_neg (show ¬ (61 : Int32) = 10 by decide), if_neg (show ¬ 61 = 10 by decide)]
    rw [if_neg (show ¬ (61 : Int32) = 11 by decide), if_neg (show ¬ 61 = 11 by decide)]
    rw [if_neg (show ¬ (61 : Int32) = 42 by decide), if_neg (show ¬ 61 = 42 by decide)]
    rw [if_neg (show ¬ (61 : Int32) = 43 by decide), if_neg (show ¬ 61 = 43 by decide)]
    rw [if_neg (show ¬ (61 : Int32) = 45 by decide), if_neg (show ¬ 61 = 45 by decide)]
    rw [if_neg (show ¬ (61 : Int32) = 60 by decide), if_neg (show ¬ 61 = 60 by decide)]
    rw [if_pos (show (61 : Int32) = 61 from rfl), if_pos (show 61 = 61 from rfl)]
    by_cases h1 : a = b <;> simp [h1, b1]
  · show f_X4_join 62 a b h = _
    unfold f_X4_join jn
    rw [if_neg (show ¬ (62 : Int32) = 10 by decide), if_neg (show ¬ 62 = 10 by decide)]
    rw [if_neg (show ¬ (62 : Int32) = 11 by decide), if_neg (show ¬ 62 = 11 by decide)]
    rw [if_neg (show ¬ (62 : Int32) = 42 by decide), if_neg (show ¬ 62 = 42 by decide)]
    rw [if_neg (show ¬ (62 : Int32) = 43 by decide), if_neg (show ¬ 62 = 43 by decide)]
    rw [if_neg (show ¬ (62 : Int32) = 45 by decide), if_neg (show ¬ 62 = 45 by decide)]
    rw [if_neg (show ¬ (62 : Int32) = 60 by decide), if_neg (show ¬ 62 = 60 by decide)]
    rw [if_neg (show ¬ (62 : Int32) = 61 by decide), if_neg (show ¬ 62 = 61 by decide)]
    rw [if_pos (show (62 : Int32) = 62 from rfl), if_pos (show 62 = 62 from rfl)]
    by_cases h1 : a ≤ b <;> simp [h1, b1]
/-- the sheet's rows of a worker's weeks -/
def SHE (g : Hp) (pd : Nat → Nat → Int32) (pl tm : Int32) : Prop := (∀ i u, i < 6 → u < 104 → hi g 32 (i * 104 + u) = pd i u) ∧ hi g 27 2 = pl ∧ hi g 27 3 = tm
theorem SHE.fr {g g' : Hp} {pd : Nat → Nat → Int32} {pl tm : Int32} (E : SHE g pd pl tm) {A : List Nat} {B : List (Nat × Nat)} (fr : Fr A B g g') (h1 : 32 ∉ A) (h2 : 27 ∉ A) (h3 : ∀ k, (32, k) ∉ B) (h4 : (27, 2) ∉ B) (h5 : (27, 3) ∉ B) : SHE g' pd pl tm :=
  ⟨fun i u hi' hu => (fr.ef h1 (h3 _)).trans (E.1 i u hi' hu), (fr.ef h2 h4).trans E.2.1, (fr.ef h2 h5).trans E.2.2⟩
section Ce
variable {g : Hp} {pd : Nat → Nat → Int32} {pl tm : Int32} {u : Nat}
theorem i104 (i u : Nat) : nI i * 104 + nI u = nI (i * 104 + u) := by rw [show (104 : Int32) = nI 104 from rfl, pk_mul, nI_add]
theorem c_leafA (E : SHE g pd pl tm) (X : FX g) (hu : u < 104) : f_X4_leaf_L45 fu 27 0 (nI u) g = some (tot pd u, g) := by
  obtain ⟨r, h1, h2⟩ := whl (fun n (p : Nat × Int32) => f_X4_leaf_L45 n 27 p.2 (nI (p.1 * 104 + u)) g) (fun p => 5 - p.1) (fun p => p.1 ≤ 5 ∧ (p.1 = 0 → p.2 = 0) ∧ (p.1 = 1 → p.2 = pd 0 u) ∧ (p.1 = 2 → p.2 = pd 0 u + pd 1 u) ∧ (p.1 = 3 → p.2 = pd 0 u + pd 1 u + pd 2 u) ∧ (p.1 = 4 → p.2 = pd 0 u + pd 1 u + pd 2 u + pd 3 u) ∧ (p.1 = 5 → p.2 = tot pd u)) (fun r => r = (tot pd u, g)) (by
    rintro n ⟨i, x⟩ ⟨I0, I1, I2, I3, I4, I5, I6⟩
    simp only at I0 I1 I2 I3 I4 I5 I6
    have n0 : ¬ nI (i * 104 + u) < 0 := nI_pos (by omega)
    by_cases q : i = 5
    · left
      refine ⟨(x, g), ?_, by rw [I6 q]⟩
      simp only [f_X4_leaf_L45.eq_2]
      rw [if_neg n0, if_pos (by rw [show (520 : Int32) = nI 520 from rfl, nI_leI (by omega) (by omega)]; omega)]
    · right
      have n1 : ¬ (520 : Int32) ≤ nI (i * 104 + u) := by rw [show (520 : Int32) = nI 520 from rfl, nI_leI (by omega) (by omega)]; omega
      have n2 : ¬ nI 624 ≤ nI (i * 104 + u) := by rw [nI_leI (by omega) (by omega)]; omega
      have hx : i * 104 + u < 624 := by omega
      have e104 : nI (i * 104 + u) + 104 = nI ((i + 1) * 104 + u) := by rw [show (104 : Int32) = nI 104 from rfl, nI_add, show i * 104 + u + 104 = (i + 1) * 104 + u by omega]
      refine ⟨(i + 1, x + pd i u), ?_, ?_, by simp only; omega⟩
      · simp only [f_X4_leaf_L45.eq_2]
        simp (disch := (first | assumption | (simp only [FX_si, FX_sj, FX_sr, WX_si, WX_sj, WX_sr, FK_si, FK_sj, FK_sr]; assumption) | omega | decide)) only [n0, n1, n2, E.1 i u (by omega) hu, e104, ↓reduceIte, if_true, if_false, i10, i01, eq_self, wq7, wq8, wq9, wq10, wrc, wgi, wpi, wpz, wn1, wn2, wn3, wn4, wr1, wr2, wr3, wr4, ww1, ww2, ww3, ww4, fgi, fgq, fpi, frc, at18, at19, at21, at22, at23, at24, at25, at26, at_neg, wat1, wat2, wat3, wat4, reduceCtorEq, bd_some, b1_some, b2_some, b3_some, b4_some, c1_eq, elim_inl, elim_inr, zok0, zok1, getQ_si, getQ_sj, getQ_sr, q8_0, q8_1, q8_2, q8_4, q8_7, q8_8, q8_9, q8_10, q8_11, q9_0, q9_3, q9_4, q9_8, q17_0, q17_1, q17_2, q17_4, q17_5, q17_6, q17_9, q17_10, q17_11, q27_4, q27_5, q27_6, q27_7, q27_8, q27_11, q45_0, q45_1, q45_11, q45_12, q45_13, q45_14, q45_15, q45_16, q45_17, q45_18, q45_19, q45_20, q45_21, q45_22, q45_23, q45_24, q45_30, q45_31, q45_32, q45_33, q45_34, q45_35, q45_36, q45_37, q45_38, q45_39, q45_43, q45_44, q45_45, q45_46, q45_47, q45_48, q45_52, q45_53, q45_54, q45_59, q45_60, q45_61, q45_62, q45_65, q45_67, q45_68, gi8, gj8, pi8, pz8, pj8, rc8, gi9, gj9, pi9, pz9, pj9, rc9, gi17, gj17, pi17, pz17, pj17, rc17, gi27, gj27, pi27, pz27, pj27, rc27, gi45, gj45, pi45, pz45, pj45, rc45, aln_si, aln_sj, aln_sq, rc_si, rc_sj, rc_sq, n0, n1, n10, n11, n12, n13, n14, n15, n16, n18, n19, n20, n21, n22, n23, n24, n25, n26, n29, n30, n31, n32, n33, n34, n35, n36, n37, n38, n39, n40, n42, n43, n44, n46, n47, n48, n49, n50, n51, n52, n53, n54, n55, n56, n57, n58, n59, n60, n61, n62, n63, n64, n65, n66, n67, n68, n69, n70, n71, n72, n73, n74, n75, n76, n77, n78, n79, n80, n81, n82, n83, n84, n85, n86, n87, r0, r1, r10, r11, r12, r13, r14, r15, r16, r18, r19, r20, r21, r22, r23, r24, r25, r26, r29, r30, r31, r32, r33, r34, r35, r36, r37, r38, r39, r40, r42, r43, r44, r46, r47, r48, r49, r50, r51, r52, r53, r54, r55, r56, r57, r58, r59, r60, r61, r62, r63, r64, r65, r66, r67, r68, r69, r70, r71, r72, r73, r74, r75, r76, r77, r78, r79, r80, r81, r82, r83, r84, r85, r86, r87, w10, w11, w12, w13, w18, w19, w20, w21, w22, w23, w24, w25, w26, w30, w31, w32, w33, w34, w35, w36, w38, w39, w40, w43, w44, w46, w47, w48, w49, w50, w51, w52, w53, w54, w55, w56, w57, w58, w59, w60, w61, w62, w63, w64, w65, w66, w67, w68, w69, w70, w71, w72, w73, w74, w75, w76, w77, w78, w79, w80, w81, w82, w83, w84, w85, w86, w87, hi_hit, hi_row, hi_col, hj_hit, hj_row, hj_col, hi_sj, hj_si, hq_si, hq_sj, hi_sq, hj_sq, hi_srh, hi_srm]
      · simp only
        refine ⟨by omega, fun z => by omega, fun z => ?_, fun z => ?_, fun z => ?_, fun z => ?_, fun z => ?_⟩
        · obtain rfl : i = 0 := by omega
          rw [I1 rfl, Int32.zero_add]
        · obtain rfl : i = 1 := by omega
          rw [I2 rfl]
        · obtain rfl : i = 2 := by omega
          rw [I3 rfl]
        · obtain rfl : i = 3 := by omega
          rw [I4 rfl]
        · obtain rfl : i = 4 := by omega
          rw [I5 rfl]
          rfl) fu (0, 0) ⟨by omega, fun _ => rfl, by omega, by omega, by omega, by omega, by omega⟩ (fu_gt (by show 5 - 0 ≤ _; omega))
  subst h2
  simp only [Nat.zero_mul, Nat.zero_add] at h1
  exact h1
theorem c_leafB (X : FX g) (E : SHE g pd pl tm) (hu : u < 104) {s : Nat} (c : ¬ s < 10000) (c1 : s < 10006) : f_X4_leaf 27 (nI s) (nI u) g = some (pd (s - 10000) u, g) := by
  obtain ⟨m, em⟩ : ∃ m, m = s - 10000 := ⟨_, rfl⟩
  have hm : m < 6 := by omega
  have es : nI s - 10000 = nI m := by rw [show (10000 : Int32) = nI 10000 from rfl, pk_sub (by omega), em]
  have p1 : (10000 : Int32) ≤ nI s := by rw [show (10000 : Int32) = nI 10000 from rfl, nI_leI (by omega) (by omega)]; omega
  have p2 : (nI s).toInt < 10006 := by rw [nI_toInt (by omega)]; omega
  rw [← em]
  clear em c c1
  have n1 : ¬ nI (m * 104 + u) < 0 := nI_pos (by omega)
  have n2 : ¬ nI 624 ≤ nI (m * 104 + u) := by rw [nI_leI (by omega) (by omega)]; omega
  have hx : m * 104 + u < 624 := by omega
  have e1 := E.1 m u hm hu
  unfold f_X4_leaf
  rw [if_pos p1, if_pos (Or.inl p2), es, i104]
  simp (disch := (first | assumption | (simp only [FX_si, FX_sj, FX_sr, WX_si, WX_sj, WX_sr, FK_si, FK_sj, FK_sr]; assumption) | omega | decide)) only [n1, n2, e1, ↓reduceIte, if_true, if_false, i10, i01, eq_self, wq7, wq8, wq9, wq10, wrc, wgi, wpi, wpz, wn1, wn2, wn3, wn4, wr1, wr2, wr3, wr4, ww1, ww2, ww3, ww4, fgi, fgq, fpi, frc, at18, at19, at21, at22, at23, at24, at25, at26, at_neg, wat1, wat2, wat3, wat4, reduceCtorEq, bd_some, b1_some, b2_some, b3_some, b4_some, c1_eq, elim_inl, elim_inr, zok0, zok1, getQ_si, getQ_sj, getQ_sr, q8_0, q8_1, q8_2, q8_4, q8_7, q8_8, q8_9, q8_10, q8_11, q9_0, q9_3, q9_4, q9_8, q17_0, q17_1, q17_2, q17_4, q17_5, q17_6, q17_9, q17_10, q17_11, q27_4, q27_5, q27_6, q27_7, q27_8, q27_11, q45_0, q45_1, q45_11, q45_12, q45_13, q45_14, q45_15, q45_16, q45_17, q45_18, q45_19, q45_20, q45_21, q45_22, q45_23, q45_24, q45_30, q45_31, q45_32, q45_33, q45_34, q45_35, q45_36, q45_37, q45_38, q45_39, q45_43, q45_44, q45_45, q45_46, q45_47, q45_48, q45_52, q45_53, q45_54, q45_59, q45_60, q45_61, q45_62, q45_65, q45_67, q45_68, gi8, gj8, pi8, pz8, pj8, rc8, gi9, gj9, pi9, pz9, pj9, rc9, gi17, gj17, pi17, pz17, pj17, rc17, gi27, gj27, pi27, pz27, pj27, rc27, gi45, gj45, pi45, pz45, pj45, rc45, aln_si, aln_sj, aln_sq, rc_si, rc_sj, rc_sq, n0, n1, n10, n11, n12, n13, n14, n15, n16, n18, n19, n20, n21, n22, n23, n24, n25, n26, n29, n30, n31, n32, n33, n34, n35, n36, n37, n38, n39, n40, n42, n43, n44, n46, n47, n48, n49, n50, n51, n52, n53, n54, n55, n56, n57, n58, n59, n60, n61, n62, n63, n64, n65, n66, n67, n68, n69, n70, n71, n72, n73, n74, n75, n76, n77, n78, n79, n80, n81, n82, n83, n84, n85, n86, n87, r0, r1, r10, r11, r12, r13, r14, r15, r16, r18, r19, r20, r21, r22, r23, r24, r25, r26, r29, r30, r31, r32, r33, r34, r35, r36, r37, r38, r39, r40, r42, r43, r44, r46, r47, r48, r49, r50, r51, r52, r53, r54, r55, r56, r57, r58, r59, r60, r61, r62, r63, r64, r65, r66, r67, r68, r69, r70, r71, r72, r73, r74, r75, r76, r77, r78, r79, r80, r81, r82, r83, r84, r85, r86, r87, w10, w11, w12, w13, w18, w19, w20, w21, w22, w23, w24, w25, w26, w30, w31, w32, w33, w34, w35, w36, w38, w39, w40, w43, w44, w46, w47, w48, w49, w50, w51, w52, w53, w54, w55, w56, w57, w58, w59, w60, w61, w62, w63, w64, w65, w66, w67, w68, w69, w70, w71, w72, w73, w74, w75, w76, w77, w78, w79, w80, w81, w82, w83, w84, w85, w86, w87, hi_hit, hi_row, hi_col, hj_hit, hj_row, hj_col, hi_sj, hj_si, hq_si, hq_sj, hi_sq, hj_sq, hi_srh, hi_srm]
theorem c_leafC (X : FX g) (E : SHE g pd pl tm) (hu : u < 104) : f_X4_leaf 27 10006 (nI u) g = some (tot pd u, g) := by
  have ea := c_leafA E X hu
  unfold f_X4_leaf
  rw [if_pos (show (10000 : Int32) ≤ 10006 by decide), if_neg (show ¬ ((10006 : Int32).toInt < 10006 ∨ 10009 < (10006 : Int32).toInt) by decide), if_pos (show (10006 : Int32) = 10006 from rfl), ea, b1_some]
theorem c_leafD (v : Int32) : f_X4_leaf 27 10007 v g = some (v, g) := by
  unfold f_X4_leaf
  rw [if_pos (show (10000 : Int32) ≤ 10007 by decide), if_neg (show ¬ ((10007 : Int32).toInt < 10006 ∨ 10009 < (10007 : Int32).toInt) by decide), if_neg (show ¬ (10007 : Int32) = 10006 by decide), if_pos (show (10007 : Int32) = 10007 from rfl)]
theorem c_leafE (X : FX g) (v : Int32) : f_X4_leaf 27 10008 v g = some (hi g 27 2, g) := by
  unfold f_X4_leaf
  rw [if_pos (show (10000 : Int32) ≤ 10008 by decide), if_neg (show ¬ ((10008 : Int32).toInt < 10006 ∨ 10009 < (10008 : Int32).toInt) by decide), if_neg (show ¬ (10008 : Int32) = 10006 by decide), if_neg (show ¬ (10008 : Int32) = 10007 by decide), if_pos (show (10008 : Int32) = 10008 from rfl), gi27 X, bd_some]
theorem c_leafF (X : FX g) (v : Int32) : f_X4_leaf 27 10009 v g = some (hi g 27 3, g) := by
  unfold f_X4_leaf
  rw [if_pos (show (10000 : Int32) ≤ 10009 by decide), if_neg (show ¬ ((10009 : Int32).toInt < 10006 ∨ 10009 < (10009 : Int32).toInt) by decide), if_neg (show ¬ (10009 : Int32) = 10006 by decide), if_neg (show ¬ (10009 : Int32) = 10007 by decide), if_neg (show ¬ (10009 : Int32) = 10008 by decide), if_pos (show (10009 : Int32) = 10009 from rfl), gi27 X, bd_some]
theorem c_leaf (X : FX g) (E : SHE g pd pl tm) (hu : u < 104) {s : Nat} (hs : s < 10010) : f_X4_leaf 27 (nI s) (nI u) g = some (lvF pd pl tm u s, g) := by
  unfold lvF
  by_cases c : s < 10000
  · unfold f_X4_leaf
    rw [if_neg (by rw [show (10000 : Int32) = nI 10000 from rfl, nI_leI (by omega) (by omega)]; omega), if_pos c]
  · rw [if_neg c]
    by_cases c1 : s < 10006
    · rw [if_pos c1]
      exact c_leafB X E hu c c1
    · rw [if_neg c1]
      by_cases q : s = 10006
      · rw [if_pos q, q]
        exact c_leafC X E hu
      · rw [if_neg q]
        by_cases q : s = 10007
        · rw [if_pos q, q]
          exact c_leafD _
        · rw [if_neg q]
          by_cases q : s = 10008
          · rw [if_pos q, q, ← E.2.1]
            exact c_leafE X _
          · rw [if_neg q]
            by_cases q : s = 10009
            · rw [if_pos q, q, ← E.2.2]
              exact c_leafF X _
            · omega
theorem c_habit (X : FX g) (E : SHE g pd pl tm) (hu : u < 104) {i : Nat} (hi' : i < 6) : f_X4_habit 27 (nI i) (nI u) g = some (hab pd u i, g) := by
  have e0 : (if (12 : Int32) ≤ nI u then some (nI u - 12, g) else some (0, g) : Option (Int32 × Hp)) = some (nI (u - 12), g) := by
    by_cases c : 12 ≤ u
    · rw [if_pos (by rw [L12, nI_leI (by omega) (by omega)]; omega), L12, pk_sub c]
    · rw [if_neg (by rw [L12, nI_leI (by omega) (by omega)]; omega), show u - 12 = 0 by omega]
      rfl
  obtain ⟨r, h1, h2⟩ := forN (fun n v (p : Int32 × Hp) => f_X4_habit_L18 n 27 (nI i) (nI u) p.1 v p.2) u (by omega) (fun v p => u - 12 ≤ v ∧ p = (hb pd i (u - 12) (v - (u - 12)), g)) (fun p => p = (hab pd u i, g)) (by
    rintro n p ⟨-, I⟩
    subst I
    exact ⟨(hb pd i (u - 12) (u - (u - 12)), g), by simp only [f_X4_habit_L18.eq_2]; rw [if_pos (Int32.le_refl _)], rfl⟩) (by
    rintro n v p hv ⟨I0, I⟩
    subst I
    have n0 : ¬ nI u ≤ nI v := by rw [nI_leI (by omega) (by omega)]; omega
    have n1 : ¬ nI (i * 104 + v) < 0 := nI_pos (by omega)
    have n2 : ¬ nI 624 ≤ nI (i * 104 + v) := by rw [nI_leI (by omega) (by omega)]; omega
    have hx : i * 104 + v < 624 := by omega
    have e2 := E.1 i v hi' (by omega)
    have es : hb pd i (u - 12) (v + 1 - (u - 12)) = hb pd i (u - 12) (v - (u - 12)) + (if pd i v ≤ 0 then 0 else 1) := by
      rw [show v + 1 - (u - 12) = v - (u - 12) + 1 by omega]
      show hb pd i (u - 12) (v - (u - 12)) + (if pd i (u - 12 + (v - (u - 12))) ≤ 0 then 0 else 1) = _
      rw [show u - 12 + (v - (u - 12)) = v by omega]
    refine Or.inr ⟨(hb pd i (u - 12) (v + 1 - (u - 12)), g), ?_, by omega, rfl⟩
    simp only [f_X4_habit_L18.eq_2, i104, es]
    by_cases c : pd i v ≤ 0
    · simp (disch := (first | assumption | (simp only [FX_si, FX_sj, FX_sr, WX_si, WX_sj, WX_sr, FK_si, FK_sj, FK_sr]; assumption) | omega | decide)) only [n0, n1, n2, e2, c, nI_1, Int32.add_zero, ↓reduceIte, if_true, if_false, i10, i01, eq_self, wq7, wq8, wq9, wq10, wrc, wgi, wpi, wpz, wn1, wn2, wn3, wn4, wr1, wr2, wr3, wr4, ww1, ww2, ww3, ww4, fgi, fgq, fpi, frc, at18, at19, at21, at22, at23, at24, at25, at26, at_neg, wat1, wat2, wat3, wat4, reduceCtorEq, bd_some, b1_some, b2_some, b3_some, b4_some, c1_eq, elim_inl, elim_inr, zok0, zok1, getQ_si, getQ_sj, getQ_sr, q8_0, q8_1, q8_2, q8_4, q8_7, q8_8, q8_9, q8_10, q8_11, q9_0, q9_3, q9_4, q9_8, q17_0, q17_1, q17_2, q17_4, q17_5, q17_6, q17_9, q17_10, q17_11, q27_4, q27_5, q27_6, q27_7, q27_8, q27_11, q45_0, q45_1, q45_11, q45_12, q45_13, q45_14, q45_15, q45_16, q45_17, q45_18, q45_19, q45_20, q45_21, q45_22, q45_23, q45_24, q45_30, q45_31, q45_32, q45_33, q45_34, q45_35, q45_36, q45_37, q45_38, q45_39, q45_43, q45_44, q45_45, q45_46, q45_47, q45_48, q45_52, q45_53, q45_54, q45_59, q45_60, q45_61, q45_62, q45_65, q45_67, q45_68, gi8, gj8, pi8, pz8, pj8, rc8, gi9, gj9, pi9, pz9, pj9, rc9, gi17, gj17, pi17, pz17, pj17, rc17, gi27, gj27, pi27, pz27, pj27, rc27, gi45, gj45, pi45, pz45, pj45, rc45, aln_si, aln_sj, aln_sq, rc_si, rc_sj, rc_sq, n0, n1, n10, n11, n12, n13, n14, n15, n16, n18, n19, n20, n21, n22, n23, n24, n25, n26, n29, n30, n31, n32, n33, n34, n35, n36, n37, n38, n39, n40, n42, n43, n44, n46, n47, n48, n49, n50, n51, n52, n53, n54, n55, n56, n57, n58, n59, n60, n61, n62, n63, n64, n65, n66, n67, n68, n69, n70, n71, n72, n73, n74, n75, n76, n77, n78, n79, n80, n81, n82, n83, n84, n85, n86, n87, r0, r1, r10, r11, r12, r13, r14, r15, r16, r18, r19, r20, r21, r22, r23, r24, r25, r26, r29, r30, r31, r32, r33, r34, r35, r36, r37, r38, r39, r40, r42, r43, r44, r46, r47, r48, r49, r50, r51, r52, r53, r54, r55, r56, r57, r58, r59, r60, r61, r62, r63, r64, r65, r66, r67, r68, r69, r70, r71, r72, r73, r74, r75, r76, r77, r78, r79, r80, r81, r82, r83, r84, r85, r86, r87, w10, w11, w12, w13, w18, w19, w20, w21, w22, w23, w24, w25, w26, w30, w31, w32, w33, w34, w35, w36, w38, w39, w40, w43, w44, w46, w47, w48, w49, w50, w51, w52, w53, w54, w55, w56, w57, w58, w59, w60, w61, w62, w63, w64, w65, w66, w67, w68, w69, w70, w71, w72, w73, w74, w75, w76, w77, w78, w79, w80, w81, w82, w83, w84, w85, w86, w87, hi_hit, hi_row, hi_col, hj_hit, hj_row, hj_col, hi_sj, hj_si, hq_si, hq_sj, hi_sq, hj_sq, hi_srh, hi_srm]
    · simp (disch := (first | assumption | (simp only [FX_si, FX_sj, FX_sr, WX_si, WX_sj, WX_sr, FK_si, FK_sj, FK_sr]; assumption) | omega | decide)) only [n0, n1, n2, e2, c, nI_1, ↓reduceIte, if_true, if_false, i10, i01, eq_self, wq7, wq8, wq9, wq10, wrc, wgi, wpi, wpz, wn1, wn2, wn3, wn4, wr1, wr2, wr3, wr4, ww1, ww2, ww3, ww4, fgi, fgq, fpi, frc, at18, at19, at21, at22, at23, at24, at25, at26, at_neg, wat1, wat2, wat3, wat4, reduceCtorEq, bd_some, b1_some, b2_some, b3_some, b4_some, c1_eq, elim_inl, elim_inr, zok0, zok1, getQ_si, getQ_sj, getQ_sr, q8_0, q8_1, q8_2, q8_4, q8_7, q8_8, q8_9, q8_10, q8_11, q9_0, q9_3, q9_4, q9_8, q17_0, q17_1, q17_2, q17_4, q17_5, q17_6, q17_9, q17_10, q17_11, q27_4, q27_5, q27_6, q27_7, q27_8, q27_11, q45_0, q45_1, q45_11, q45_12, q45_13, q45_14, q45_15, q45_16, q45_17, q45_18, q45_19, q45_20, q45_21, q45_22, q45_23, q45_24, q45_30, q45_31, q45_32, q45_33, q45_34, q45_35, q45_36, q45_37, q45_38, q45_39, q45_43, q45_44, q45_45, q45_46, q45_47, q45_48, q45_52, q45_53, q45_54, q45_59, q45_60, q45_61, q45_62, q45_65, q45_67, q45_68, gi8, gj8, pi8, pz8, pj8, rc8, gi9, gj9, pi9, pz9, pj9, rc9, gi17, gj17, pi17, pz17, pj17, rc17, gi27, gj27, pi27, pz27, pj27, rc27, gi45, gj45, pi45, pz45, pj45, rc45, aln_si, aln_sj, aln_sq, rc_si, rc_sj, rc_sq, n0, n1, n10, n11, n12, n13, n14, n15, n16, n18, n19, n20, n21, n22, n23, n24, n25, n26, n29, n30, n31, n32, n33, n34, n35, n36, n37, n38, n39, n40, n42, n43, n44, n46, n47, n48, n49, n50, n51, n52, n53, n54, n55, n56, n57, n58, n59, n60, n61, n62, n63, n64, n65, n66, n67, n68, n69, n70, n71, n72, n73, n74, n75, n76, n77, n78, n79, n80, n81, n82, n83, n84, n85, n86, n87, r0, r1, r10, r11, r12, r13, r14, r15, r16, r18, r19, r20, r21, r22, r23, r24, r25, r26, r29, r30, r31, r32, r33, r34, r35, r36, r37, r38, r39, r40, r42, r43, r44, r46, r47, r48, r49, r50, r51, r52, r53, r54, r55, r56, r57, r58, r59, r60, r61, r62, r63, r64, r65, r66, r67, r68, r69, r70, r71, r72, r73, r74, r75, r76, r77, r78, r79, r80, r81, r82, r83, r84, r85, r86, r87, w10, w11, w12, w13, w18, w19, w20, w21, w22, w23, w24, w25, w26, w30, w31, w32, w33, w34, w35, w36, w38, w39, w40, w43, w44, w46, w47, w48, w49, w50, w51, w52, w53, w54, w55, w56, w57, w58, w59, w60, w61, w62, w63, w64, w65, w66, w67, w68, w69, w70, w71, w72, w73, w74, w75, w76, w77, w78, w79, w80, w81, w82, w83, w84, w85, w86, w87, hi_hit, hi_row, hi_col, hj_hit, hj_row, hj_col, hi_sj, hj_si, hq_si, hq_sj, hi_sq, hj_sq, hi_srh, hi_srm]) (i0 := u - 12) (s := (0, g)) (by omega) ⟨Nat.le_refl _, by rw [Nat.sub_self]; rfl⟩
  subst h2
  have h1' : f_X4_habit_L18 fu 27 (nI i) (nI u) 0 (nI (u - 12)) g = some (hab pd u i, g) := h1
  unfold f_X4_habit
  rw [e0, b1_some, h1', b1_some]
theorem upd_hit (f : Nat → Int32) (k : Nat) (x : Int32) : upd f k x k = x := pk_us
theorem c_value (X : FX g) (E : SHE g pd pl tm) (hu : u < 104) {C : List Nat} {cb : Nat} (kb : hk g cb = some (10, C.length)) (hcb : cb ≠ 36) (hC : ∀ j (hj : j < C.length), hi g cb j = nI C[j]) (ok : OKC C) :
    ∃ g', f_X4_valueOf 27 (some cb) (nI u) g = some (evV pd pl tm u C, g') ∧ Fr [36] [] g g' := by
  obtain ⟨ok1, ok2, ok3⟩ := ok
  have key : ∃ r, f_X4_valueOf_L5 fu 27 (some cb) (nI u) 0 0 g = some r ∧ (r.1 = 1 ∧ Fr [36] [] g r.2 ∧ hi r.2 36 0 = evV pd pl tm u C) := by
    refine forN (fun n i (p : Int32 × Hp) => f_X4_valueOf_L5 n 27 (some cb) (nI u) p.1 i p.2) C.length (by omega) (fun i p => ∃ (d : Nat) (S : Nat → Int32), p.1 = nI d ∧ d ≤ 80 ∧ Fr [36] [] g p.2 ∧ okc (C.drop i) d ∧ (∀ j, j < d → hi p.2 36 j = S j) ∧ evS pd pl tm u (C.drop i) S d 0 = evV pd pl tm u C) (fun r => r.1 = 1 ∧ Fr [36] [] g r.2 ∧ hi r.2 36 0 = evV pd pl tm u C) ?_ ?_ (i0 := 0) (s := (0, g)) (Nat.zero_le _) ⟨0, fun _ => 0, rfl, by omega, Fr.rfl, ok1, fun j hj => absurd hj (Nat.not_lt_zero _), rfl⟩
    · rintro n ⟨x, g1⟩ ⟨d, S, I1, I2, I3, I4, I5, I6⟩
      simp only at I1 I3 I5
      rw [List.drop_length] at I4 I6
      have hd : d = 1 := I4
      subst hd
      refine ⟨(x, g1), ?_, I1, I3, (I5 0 (by omega)).trans I6⟩
      have k1 : hk g1 cb = some (10, C.length) := by rw [hk_fr I3]; exact kb
      simp only [f_X4_valueOf_L5.eq_2]
      rw [aln_eq k1, bd_some, if_pos (Int32.le_refl _)]
    · rintro n i ⟨x, g1⟩ hi' ⟨d, S, I1, I2, I3, I4, I5, I6⟩
      simp only at I1 I3 I5
      subst I1
      have X1 := I3.fx X
      have E1 := E.fr I3 (by decide) (by decide) (by simp) (by decide) (by decide)
      have k1 : hk g1 cb = some (10, C.length) := by rw [hk_fr I3]; exact kb
      have al := aln_eq k1
      have n0 : ¬ nI C.length ≤ nI i := by rw [nI_leI (by omega) (by omega)]; omega
      have rd : rdI g1 (some cb) 10 (nI i) = some (nI C[i]) := by
        rw [rdI_eq k1 hi' (by omega), I3.2.2.1 cb i (by simp [hcb]) (by simp), hC i hi']
      rw [List.drop_eq_getElem_cons hi'] at I4 I6
      have os := ok2 C[i] (List.getElem_mem hi')
      obtain ⟨s, es⟩ : ∃ s, s = C[i] := ⟨_, rfl⟩
      rw [← es] at I4 I6 os rd
      unfold okc at I4
      unfold evS at I6
      right
      by_cases c : s < 20000
      · rw [if_pos c] at I4 I6
        have hs : s < 10015 := by
          rcases os with q | q | q
          · exact q
          · omega
          · omega
        have hd := I4.1
        have nd : ¬ nI 80 ≤ nI d := by rw [nI_leI (by omega) (by omega)]; omega
        have n1 : ¬ (20000 : Int32) ≤ nI s := by rw [show (20000 : Int32) = nI 20000 from rfl, nI_leI (by omega) (by omega)]; omega
        refine ⟨(nI (d + 1), si g1 36 d (lvF pd pl tm u s)), ?_, d + 1, upd S d (lvF pd pl tm u s), rfl, by omega, I3.trans (Fr.row (by decide)), I4.2, fun j hj => ?_, I6⟩
        · simp only [f_X4_valueOf_L5.eq_2]
          by_cases c2 : s < 10010
          · have n2 : ¬ (10010 : Int32) ≤ nI s := by rw [show (10010 : Int32) = nI 10010 from rfl, nI_leI (by omega) (by omega)]; omega
            have el := c_leaf X1 E1 hu c2
            simp (disch := (first | assumption | (simp only [FX_si, FX_sj, FX_sr, WX_si, WX_sj, WX_sr, FK_si, FK_sj, FK_sr]; assumption) | omega | decide)) only [al, n0, rd, n1, nd, n2, el, nI_1, ↓reduceIte, if_true, if_false, i10, i01, eq_self, wq7, wq8, wq9, wq10, wrc, wgi, wpi, wpz, wn1, wn2, wn3, wn4, wr1, wr2, wr3, wr4, ww1, ww2, ww3, ww4, fgi, fgq, fpi, frc, at18, at19, at21, at22, at23, at24, at25, at26, at_neg, wat1, wat2, wat3, wat4, reduceCtorEq, bd_some, b1_some, b2_some, b3_some, b4_some, c1_eq, elim_inl, elim_inr, zok0, zok1, getQ_si, getQ_sj, getQ_sr, q8_0, q8_1, q8_2, q8_4, q8_7, q8_8, q8_9, q8_10, q8_11, q9_0, q9_3, q9_4, q9_8, q17_0, q17_1, q17_2, q17_4, q17_5, q17_6, q17_9, q17_10, q17_11, q27_4, q27_5, q27_6, q27_7, q27_8, q27_11, q45_0, q45_1, q45_11, q45_12, q45_13, q45_14, q45_15, q45_16, q45_17, q45_18, q45_19, q45_20, q45_21, q45_22, q45_23, q45_24, q45_30, q45_31, q45_32, q45_33, q45_34, q45_35, q45_36, q45_37, q45_38, q45_39, q45_43, q45_44, q45_45, q45_46, q45_47, q45_48, q45_52, q45_53, q45_54, q45_59, q45_60, q45_61, q45_62, q45_65, q45_67, q45_68, gi8, gj8, pi8, pz8, pj8, rc8, gi9, gj9, pi9, pz9, pj9, rc9, gi17, gj17, pi17, pz17, pj17, rc17, gi27, gj27, pi27, pz27, pj27, rc27, gi45, gj45, pi45, pz45, pj45, rc45, aln_si, aln_sj, aln_sq, rc_si, rc_sj, rc_sq, n0, n1, n10, n11, n12, n13, n14, n15, n16, n18, n19, n20, n21, n22, n23, n24, n25, n26, n29, n30, n31, n32, n33, n34, n35, n36, n37, n38, n39, n40, n42, n43, n44, n46, n47, n48, n49, n50, n51, n52, n53, n54, n55, n56, n57, n58, n59, n60, n61, n62, n63, n64, n65, n66, n67, n68, n69, n70, n71, n72, n73, n74, n75, n76, n77, n78, n79, n80, n81, n82, n83, n84, n85, n86, n87, r0, r1, r10, r11, r12, r13, r14, r15, r16, r18, r19, r20, r21, r22, r23, r24, r25, r26, r29, r30, r31, r32, r33, r34, r35, r36, r37, r38, r39, r40, r42, r43, r44, r46, r47, r48, r49, r50, r51, r52, r53, r54, r55, r56, r57, r58, r59, r60, r61, r62, r63, r64, r65, r66, r67, r68, r69, r70, r71, r72, r73, r74, r75, r76, r77, r78, r79, r80, r81, r82, r83, r84, r85, r86, r87, w10, w11, w12, w13, w18, w19, w20, w21, w22, w23, w24, w25, w26, w30, w31, w32, w33, w34, w35, w36, w38, w39, w40, w43, w44, w46, w47, w48, w49, w50, w51, w52, w53, w54, w55, w56, w57, w58, w59, w60, w61, w62, w63, w64, w65, w66, w67, w68, w69, w70, w71, w72, w73, w74, w75, w76, w77, w78, w79, w80, w81, w82, w83, w84, w85, w86, w87, hi_hit, hi_row, hi_col, hj_hit, hj_row, hj_col, hi_sj, hj_si, hq_si, hq_sj, hi_sq, hj_sq, hi_srh, hi_srm]
          · have n2 : (10010 : Int32) ≤ nI s := by rw [show (10010 : Int32) = nI 10010 from rfl, nI_leI (by omega) (by omega)]; omega
            have eh := c_habit X1 E1 hu (i := s - 10010) (by omega)
            have e3 : nI s - 10010 = nI (s - 10010) := by rw [show (10010 : Int32) = nI 10010 from rfl, pk_sub (by omega)]
            have el : lvF pd pl tm u s = hab pd u (s - 10010) := by
              unfold lvF
              rw [if_neg (by omega), if_neg (by omega), if_neg (by omega), if_neg (by omega), if_neg (by omega), if_neg (by omega)]
            rw [el]
            simp (disch := (first | assumption | (simp only [FX_si, FX_sj, FX_sr, WX_si, WX_sj, WX_sr, FK_si, FK_sj, FK_sr]; assumption) | omega | decide)) only [al, n0, rd, n1, nd, n2, e3, eh, nI_1, ↓reduceIte, if_true, if_false, i10, i01, eq_self, wq7, wq8, wq9, wq10, wrc, wgi, wpi, wpz, wn1, wn2, wn3, wn4, wr1, wr2, wr3, wr4, ww1, ww2, ww3, ww4, fgi, fgq, fpi, frc, at18, at19, at21, at22, at23, at24, at25, at26, at_neg, wat1, wat2, wat3, wat4, reduceCtorEq, bd_some, b1_some, b2_some, b3_some, b4_some, c1_eq, elim_inl, elim_inr, zok0, zok1, getQ_si, getQ_sj, getQ_sr, q8_0, q8_1, q8_2, q8_4, q8_7, q8_8, q8_9, q8_10, q8_11, q9_0, q9_3, q9_4, q9_8, q17_0, q17_1, q17_2, q17_4, q17_5, q17_6, q17_9, q17_10, q17_11, q27_4, q27_5, q27_6, q27_7, q27_8, q27_11, q45_0, q45_1, q45_11, q45_12, q45_13, q45_14, q45_15, q45_16, q45_17, q45_18, q45_19, q45_20, q45_21, q45_22, q45_23, q45_24, q45_30, q45_31, q45_32, q45_33, q45_34, q45_35, q45_36, q45_37, q45_38, q45_39, q45_43, q45_44, q45_45, q45_46, q45_47, q45_48, q45_52, q45_53, q45_54, q45_59, q45_60, q45_61, q45_62, q45_65, q45_67, q45_68, gi8, gj8, pi8, pz8, pj8, rc8, gi9, gj9, pi9, pz9, pj9, rc9, gi17, gj17, pi17, pz17, pj17, rc17, gi27, gj27, pi27, pz27, pj27, rc27, gi45, gj45, pi45, pz45, pj45, rc45, aln_si, aln_sj, aln_sq, rc_si, rc_sj, rc_sq, n0, n1, n10, n11, n12, n13, n14, n15, n16, n18, n19, n20, n21, n22, n23, n24, n25, n26, n29, n30, n31, n32, n33, n34, n35, n36, n37, n38, n39, n40, n42, n43, n44, n46, n47, n48, n49, n50, n51, n52, n53, n54, n55, n56, n57, n58, n59, n60, n61, n62, n63, n64, n65, n66, n67, n68, n69, n70, n71, n72, n73, n74, n75, n76, n77, n78, n79, n80, n81, n82, n83, n84, n85, n86, n87, r0, r1, r10, r11, r12, r13, r14, r15, r16, r18, r19, r20, r21, r22, r23, r24, r25, r26, r29, r30, r31, r32, r33, r34, r35, r36, r37, r38, r39, r40, r42, r43, r44, r46, r47, r48, r49, r50, r51, r52, r53, r54, r55, r56, r57, r58, r59, r60, r61, r62, r63, r64, r65, r66, r67, r68, r69, r70, r71, r72, r73, r74, r75, r76, r77, r78, r79, r80, r81, r82, r83, r84, r85, r86, r87, w10, w11, w12, w13, w18, w19, w20, w21, w22, w23, w24, w25, w26, w30, w31, w32, w33, w34, w35, w36, w38, w39, w40, w43, w44, w46, w47, w48, w49, w50, w51, w52, w53, w54, w55, w56, w57, w58, w59, w60, w61, w62, w63, w64, w65, w66, w67, w68, w69, w70, w71, w72, w73, w74, w75, w76, w77, w78, w79, w80, w81, w82, w83, w84, w85, w86, w87, hi_hit, hi_row, hi_col, hj_hit, hj_row, hj_col, hi_sj, hj_si, hq_si, hq_sj, hi_sq, hj_sq, hi_srh, hi_srm]
        · simp only
          by_cases z : j = d
          · subst z; rw [hi_hit, upd_hit]
          · rw [hi_col 36 _ z, pk_un z]; exact I5 j (by omega)
      · rw [if_neg c] at I4 I6
        have n1 : (20000 : Int32) ≤ nI s := by
          rw [show (20000 : Int32) = nI 20000 from rfl, nI_leI (by omega) (by rcases os with q | q | q; omega; omega; rcases q.2 with q | q | q | q | q | q | q | q | q <;> omega)]
          omega
        by_cases c2 : s = 20012
        · rw [if_pos c2] at I4 I6
          subst c2
          obtain ⟨e, rfl⟩ : ∃ e, d = e + 1 := ⟨d - 1, by have := I4.1; omega⟩
          rw [Nat.add_sub_cancel] at I6
          have n2 : nI 20012 = 20012 := rfl
          have n1' : (20000 : Int32) ≤ 20012 := by decide
          have n3 : ¬ nI (e + 1) ≤ 0 := nI_nle (by omega) (by omega)
          have he : e < 80 := by omega
          have e5 := I5 e (by omega)
          refine ⟨(nI (e + 1), si g1 36 e (if S e = 0 then 1 else 0)), ?_, e + 1, upd S e (if S e = 0 then 1 else 0), rfl, by omega, I3.trans (Fr.row (by decide)), I4.2, fun j hj => ?_, I6⟩
          · simp only [f_X4_valueOf_L5.eq_2]
            by_cases z : S e = 0
            · simp (disch := (first | assumption | (simp only [FX_si, FX_sj, FX_sr, WX_si, WX_sj, WX_sr, FK_si, FK_sj, FK_sr]; assumption) | omega | decide)) only [al, n0, rd, n2, n1', n3, nI_pred, e5, z, nI_1, ↓reduceIte, if_true, if_false, i10, i01, eq_self, wq7, wq8, wq9, wq10, wrc, wgi, wpi, wpz, wn1, wn2, wn3, wn4, wr1, wr2, wr3, wr4, ww1, ww2, ww3, ww4, fgi, fgq, fpi, frc, at18, at19, at21, at22, at23, at24, at25, at26, at_neg, wat1, wat2, wat3, wat4, reduceCtorEq, bd_some, b1_some, b2_some, b3_some, b4_some, c1_eq, elim_inl, elim_inr, zok0, zok1, getQ_si, getQ_sj, getQ_sr, q8_0, q8_1, q8_2, q8_4, q8_7, q8_8, q8_9, q8_10, q8_11, q9_0, q9_3, q9_4, q9_8, q17_0, q17_1, q17_2, q17_4, q17_5, q17_6, q17_9, q17_10, q17_11, q27_4, q27_5, q27_6, q27_7, q27_8, q27_11, q45_0, q45_1, q45_11, q45_12, q45_13, q45_14, q45_15, q45_16, q45_17, q45_18, q45_19, q45_20, q45_21, q45_22, q45_23, q45_24, q45_30, q45_31, q45_32, q45_33, q45_34, q45_35, q45_36, q45_37, q45_38, q45_39, q45_43, q45_44, q45_45, q45_46, q45_47, q45_48, q45_52, q45_53, q45_54, q45_59, q45_60, q45_61, q45_62, q45_65, q45_67, q45_68, gi8, gj8, pi8, pz8, pj8, rc8, gi9, gj9, pi9, pz9, pj9, rc9, gi17, gj17, pi17, pz17, pj17, rc17, gi27, gj27, pi27, pz27, pj27, rc27, gi45, gj45, pi45, pz45, pj45, rc45, aln_si, aln_sj, aln_sq, rc_si, rc_sj, rc_sq, n0, n1, n10, n11, n12, n13, n14, n15, n16, n18, n19, n20, n21, n22, n23, n24, n25, n26, n29, n30, n31, n32, n33, n34, n35, n36, n37, n38, n39, n40, n42, n43, n44, n46, n47, n48, n49, n50, n51, n52, n53, n54, n55, n56, n57, n58, n59, n60, n61, n62, n63, n64, n65, n66, n67, n68, n69, n70, n71, n72, n73, n74, n75, n76, n77, n78, n79, n80, n81, n82, n83, n84, n85, n86, n87, r0, r1, r10, r11, r12, r13, r14, r15, r16, r18, r19, r20, r21, r22, r23, r24, r25, r26, r29, r30, r31, r32, r33, r34, r35, r36, r37, r38, r39, r40, r42, r43, r44, r46, r47, r48, r49, r50, r51, r52, r53, r54, r55, r56, r57, r58, r59, r60, r61, r62, r63, r64, r65, r66, r67, r68, r69, r70, r71, r72, r73, r74, r75, r76, r77, r78, r79, r80, r81, r82, r83, r84, r85, r86, r87, w10, w11, w12, w13, w18, w19, w20, w21, w22, w23, w24, w25, w26, w30, w31, w32, w33, w34, w35, w36, w38, w39, w40, w43, w44, w46, w47, w48, w49, w50, w51, w52, w53, w54, w55, w56, w57, w58, w59, w60, w61, w62, w63, w64, w65, w66, w67, w68, w69, w70, w71, w72, w73, w74, w75, w76, w77, w78, w79, w80, w81, w82, w83, w84, w85, w86, w87, hi_hit, hi_row, hi_col, hj_hit, hj_row, hj_col, hi_sj, hj_si, hq_si, hq_sj, hi_sq, hj_sq, hi_srh, hi_srm]
            · simp (disch := (first | assumption | (simp only [FX_si, FX_sj, FX_sr, WX_si, WX_sj, WX_sr, FK_si, FK_sj, FK_sr]; assumption) | omega | decide)) only [al, n0, rd, n2, n1', n3, nI_pred, e5, z, nI_1, ↓reduceIte, if_true, if_false, i10, i01, eq_self, wq7, wq8, wq9, wq10, wrc, wgi, wpi, wpz, wn1, wn2, wn3, wn4, wr1, wr2, wr3, wr4, ww1, ww2, ww3, ww4, fgi, fgq, fpi, frc, at18, at19, at21, at22, at23, at24, at25, at26, at_neg, wat1, wat2, wat3, wat4, reduceCtorEq, bd_some, b1_some, b2_some, b3_some, b4_some, c1_eq, elim_inl, elim_inr, zok0, zok1, getQ_si, getQ_sj, getQ_sr, q8_0, q8_1, q8_2, q8_4, q8_7, q8_8, q8_9, q8_10, q8_11, q9_0, q9_3, q9_4, q9_8, q17_0, q17_1, q17_2, q17_4, q17_5, q17_6, q17_9, q17_10, q17_11, q27_4, q27_5, q27_6, q27_7, q27_8, q27_11, q45_0, q45_1, q45_11, q45_12, q45_13, q45_14, q45_15, q45_16, q45_17, q45_18, q45_19, q45_20, q45_21, q45_22, q45_23, q45_24, q45_30, q45_31, q45_32, q45_33, q45_34, q45_35, q45_36, q45_37, q45_38, q45_39, q45_43, q45_44, q45_45, q45_46, q45_47, q45_48, q45_52, q45_53, q45_54, q45_59, q45_60, q45_61, q45_62, q45_65, q45_67, q45_68, gi8, gj8, pi8, pz8, pj8, rc8, gi9, gj9, pi9, pz9, pj9, rc9, gi17, gj17, pi17, pz17, pj17, rc17, gi27, gj27, pi27, pz27, pj27, rc27, gi45, gj45, pi45, pz45, pj45, rc45, aln_si, aln_sj, aln_sq, rc_si, rc_sj, rc_sq, n0, n1, n10, n11, n12, n13, n14, n15, n16, n18, n19, n20, n21, n22, n23, n24, n25, n26, n29, n30, n31, n32, n33, n34, n35, n36, n37, n38, n39, n40, n42, n43, n44, n46, n47, n48, n49, n50, n51, n52, n53, n54, n55, n56, n57, n58, n59, n60, n61, n62, n63, n64, n65, n66, n67, n68, n69, n70, n71, n72, n73, n74, n75, n76, n77, n78, n79, n80, n81, n82, n83, n84, n85, n86, n87, r0, r1, r10, r11, r12, r13, r14, r15, r16, r18, r19, r20, r21, r22, r23, r24, r25, r26, r29, r30, r31, r32, r33, r34, r35, r36, r37, r38, r39, r40, r42, r43, r44, r46, r47, r48, r49, r50, r51, r52, r53, r54, r55, r56, r57, r58, r59, r60, r61, r62, r63, r64, r65, r66, r67, r68, r69, r70, r71, r72, r73, r74, r75, r76, r77, r78, r79, r80, r81, r82, r83, r84, r85, r86, r87, w10, w11, w12, w13, w18, w19, w20, w21, w22, w23, w24, w25, w26, w30, w31, w32, w33, w34, w35, w36, w38, w39, w40, w43, w44, w46, w47, w48, w49, w50, w51, w52, w53, w54, w55, w56, w57, w58, w59, w60, w61, w62, w63, w64, w65, w66, w67, w68, w69, w70, w71, w72, w73, w74, w75, w76, w77, w78, w79, w80, w81, w82, w83, w84, w85, w86, w87, hi_hit, hi_row, hi_col, hj_hit, hj_row, hj_col, hi_sj, hj_si, hq_si, hq_sj, hi_sq, hj_sq, hi_srh, hi_srm]
          · simp only
            by_cases z : j = e
            · subst z; rw [hi_hit, upd_hit]
            · rw [hi_col 36 _ z, pk_un z]; exact I5 j hj
        · rw [if_neg c2] at I4 I6
          have jt : jtok (s - 20000) := by
            rcases os with q | q | q
            · omega
            · exact absurd q c2
            · exact q.2
          have s62 : s < 20063 := by rcases jt with q | q | q | q | q | q | q | q | q <;> omega
          obtain ⟨e, rfl⟩ : ∃ e, d = e + 2 := ⟨d - 2, by have := I4.1; omega⟩
          rw [show e + 2 - 2 = e by omega, show e + 2 - 1 = e + 1 by omega] at I6
          rw [show e + 2 - 1 = e + 1 by omega] at I4
          have n2 : ¬ nI s = 20012 := by rw [show (20012 : Int32) = nI 20012 from rfl, nI_eq (by omega) (by omega)]; exact c2
          have n3 : ¬ nI (e + 2) ≤ 1 := by rw [show (1 : Int32) = nI 1 from rfl, nI_leI (by omega) (by omega)]; omega
          have m1 : nI (e + 2) + (-1) = nI (e + 1) := pk_m1 (e + 1)
          have he : e < 80 := by omega
          have he1 : e + 1 < 80 := by omega
          have e5 := I5 e (by omega)
          have e6 := I5 (e + 1) (by omega)
          have e7 : nI s - 20000 = nI (s - 20000) := by rw [show (20000 : Int32) = nI 20000 from rfl, pk_sub (by omega)]
          have ej := c_join jt (S e) (S (e + 1)) g1
          refine ⟨(nI (e + 1), si g1 36 e (jn (s - 20000) (S e) (S (e + 1)))), ?_, e + 1, upd S e (jn (s - 20000) (S e) (S (e + 1))), rfl, by omega, I3.trans (Fr.row (by decide)), I4.2, fun j hj => ?_, I6⟩
          · simp only [f_X4_valueOf_L5.eq_2]
            simp (disch := (first | assumption | (simp only [FX_si, FX_sj, FX_sr, WX_si, WX_sj, WX_sr, FK_si, FK_sj, FK_sr]; assumption) | omega | decide)) only [al, n0, rd, n1, n2, n3, m1, nI_pred, e5, e6, e7, ej, nI_1, ↓reduceIte, if_true, if_false, i10, i01, eq_self, wq7, wq8, wq9, wq10, wrc, wgi, wpi, wpz, wn1, wn2, wn3, wn4, wr1, wr2, wr3, wr4, ww1, ww2, ww3, ww4, fgi, fgq, fpi, frc, at18, at19, at21, at22, at23, at24, at25, at26, at_neg, wat1, wat2, wat3, wat4, reduceCtorEq, bd_some, b1_some, b2_some, b3_some, b4_some, c1_eq, elim_inl, elim_inr, zok0, zok1, getQ_si, getQ_sj, getQ_sr, q8_0, q8_1, q8_2, q8_4, q8_7, q8_8, q8_9, q8_10, q8_11, q9_0, q9_3, q9_4, q9_8, q17_0, q17_1, q17_2, q17_4, q17_5, q17_6, q17_9, q17_10, q17_11, q27_4, q27_5, q27_6, q27_7, q27_8, q27_11, q45_0, q45_1, q45_11, q45_12, q45_13, q45_14, q45_15, q45_16, q45_17, q45_18, q45_19, q45_20, q45_21, q45_22, q45_23, q45_24, q45_30, q45_31, q45_32, q45_33, q45_34, q45_35, q45_36, q45_37, q45_38, q45_39, q45_43, q45_44, q45_45, q45_46, q45_47, q45_48, q45_52, q45_53, q45_54, q45_59, q45_60, q45_61, q45_62, q45_65, q45_67, q45_68, gi8, gj8, pi8, pz8, pj8, rc8, gi9, gj9, pi9, pz9, pj9, rc9, gi17, gj17, pi17, pz17, pj17, rc17, gi27, gj27, pi27, pz27, pj27, rc27, gi45, gj45, pi45, pz45, pj45, rc45, aln_si, aln_sj, aln_sq, rc_si, rc_sj, rc_sq, n0, n1, n10, n11, n12, n13, n14, n15, n16, n18, n19, n20, n21, n22, n23, n24, n25, n26, n29, n30, n31, n32, n33, n34, n35, n36, n37, n38, n39, n40, n42, n43, n44, n46, n47, n48, n49, n50, n51, n52, n53, n54, n55, n56, n57, n58, n59, n60, n61, n62, n63, n64, n65, n66, n67, n68, n69, n70, n71, n72, n73, n74, n75, n76, n77, n78, n79, n80, n81, n82, n83, n84, n85, n86, n87, r0, r1, r10, r11, r12, r13, r14, r15, r16, r18, r19, r20, r21, r22, r23, r24, r25, r26, r29, r30, r31, r32, r33, r34, r35, r36, r37, r38, r39, r40, r42, r43, r44, r46, r47, r48, r49, r50, r51, r52, r53, r54, r55, r56, r57, r58, r59, r60, r61, r62, r63, r64, r65, r66, r67, r68, r69, r70, r71, r72, r73, r74, r75, r76, r77, r78, r79, r80, r81, r82, r83, r84, r85, r86, r87, w10, w11, w12, w13, w18, w19, w20, w21, w22, w23, w24, w25, w26, w30, w31, w32, w33, w34, w35, w36, w38, w39, w40, w43, w44, w46, w47, w48, w49, w50, w51, w52, w53, w54, w55, w56, w57, w58, w59, w60, w61, w62, w63, w64, w65, w66, w67, w68, w69, w70, w71, w72, w73, w74, w75, w76, w77, w78, w79, w80, w81, w82, w83, w84, w85, w86, w87, hi_hit, hi_row, hi_col, hj_hit, hj_row, hj_col, hi_sj, hj_si, hq_si, hq_sj, hi_sq, hj_sq, hi_srh, hi_srm]
          · simp only
            by_cases z : j = e
            · subst z; rw [hi_hit, upd_hit]
            · rw [hi_col 36 _ z, pk_un z]; exact I5 j (by omega)
  obtain ⟨⟨x, g'⟩, b1', b2', b3', b4'⟩ := key
  simp only at b2' b3' b4'
  subst b2'
  have X' := b3'.fx X
  refine ⟨g', ?_, b3'⟩
  have n1 : ¬ (1 : Int32) ≤ 0 := by decide
  have r0 : rdI g' (some 36) 10 0 = some (hi g' 36 0) := r36 (i := 0) X' (by omega)
  unfold f_X4_valueOf
  simp (disch := (first | assumption | (simp only [FX_si, FX_sj, FX_sr, WX_si, WX_sj, WX_sr, FK_si, FK_sj, FK_sr]; assumption) | omega | decide)) only [b1', n1, r0, b4', ↓reduceIte, if_true, if_false, i10, i01, eq_self, wq7, wq8, wq9, wq10, wrc, wgi, wpi, wpz, wn1, wn2, wn3, wn4, wr1, wr2, wr3, wr4, ww1, ww2, ww3, ww4, fgi, fgq, fpi, frc, at18, at19, at21, at22, at23, at24, at25, at26, at_neg, wat1, wat2, wat3, wat4, reduceCtorEq, bd_some, b1_some, b2_some, b3_some, b4_some, c1_eq, elim_inl, elim_inr, zok0, zok1, getQ_si, getQ_sj, getQ_sr, q8_0, q8_1, q8_2, q8_4, q8_7, q8_8, q8_9, q8_10, q8_11, q9_0, q9_3, q9_4, q9_8, q17_0, q17_1, q17_2, q17_4, q17_5, q17_6, q17_9, q17_10, q17_11, q27_4, q27_5, q27_6, q27_7, q27_8, q27_11, q45_0, q45_1, q45_11, q45_12, q45_13, q45_14, q45_15, q45_16, q45_17, q45_18, q45_19, q45_20, q45_21, q45_22, q45_23, q45_24, q45_30, q45_31, q45_32, q45_33, q45_34, q45_35, q45_36, q45_37, q45_38, q45_39, q45_43, q45_44, q45_45, q45_46, q45_47, q45_48, q45_52, q45_53, q45_54, q45_59, q45_60, q45_61, q45_62, q45_65, q45_67, q45_68, gi8, gj8, pi8, pz8, pj8, rc8, gi9, gj9, pi9, pz9, pj9, rc9, gi17, gj17, pi17, pz17, pj17, rc17, gi27, gj27, pi27, pz27, pj27, rc27, gi45, gj45, pi45, pz45, pj45, rc45, aln_si, aln_sj, aln_sq, rc_si, rc_sj, rc_sq, n0, n1, n10, n11, n12, n13, n14, n15, n16, n18, n19, n20, n21, n22, n23, n24, n25, n26, n29, n30, n31, n32, n33, n34, n35, n36, n37, n38, n39, n40, n42, n43, n44, n46, n47, n48, n49, n50, n51, n52, n53, n54, n55, n56, n57, n58, n59, n60, n61, n62, n63, n64, n65, n66, n67, n68, n69, n70, n71, n72, n73, n74, n75, n76, n77, n78, n79, n80, n81, n82, n83, n84, n85, n86, n87, r0, r1, r10, r11, r12, r13, r14, r15, r16, r18, r19, r20, r21, r22, r23, r24, r25, r26, r29, r30, r31, r32, r33, r34, r35, r36, r37, r38, r39, r40, r42, r43, r44, r46, r47, r48, r49, r50, r51, r52, r53, r54, r55, r56, r57, r58, r59, r60, r61, r62, r63, r64, r65, r66, r67, r68, r69, r70, r71, r72, r73, r74, r75, r76, r77, r78, r79, r80, r81, r82, r83, r84, r85, r86, r87, w10, w11, w12, w13, w18, w19, w20, w21, w22, w23, w24, w25, w26, w30, w31, w32, w33, w34, w35, w36, w38, w39, w40, w43, w44, w46, w47, w48, w49, w50, w51, w52, w53, w54, w55, w56, w57, w58, w59, w60, w61, w62, w63, w64, w65, w66, w67, w68, w69, w70, w71, w72, w73, w74, w75, w76, w77, w78, w79, w80, w81, w82, w83, w84, w85, w86, w87, hi_hit, hi_row, hi_col, hj_hit, hj_row, hj_col, hi_sj, hj_si, hq_si, hq_sj, hi_sq, hj_sq, hi_srh, hi_srm]
end Ce
