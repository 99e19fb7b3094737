/-! The model at a unit, and behind one. -/
/-- the model's unit, once it is known whether a not stands there -/
def unitB (w38 : Int32) (h39 : Hp) : Option (Int32 × Hp) :=
  (rc h39 (some 45) 8).bind fun g43 =>
  b1 (f_X9_is g43 (40 : Int32) h39) fun x45 h41 =>
  (rc h41 (some 45) 8).bind fun g48 =>
  b1 (f_X9_wordHere g48 h41) fun x50 h46 =>
  Option.bind ((if w38 = (0 : Int32) then
      if x50 = (0 : Int32) then
        (getI h46 (some 45) 8 8).bind fun x186 =>
        if x186 = (3 : Int32) then
          (getI h46 (some 45) 8 27).bind fun x189 =>
          if x189 = (80 : Int32) then
            (rc h46 (some 45) 8).bind fun g194 =>
            (f_X9_wrong g194 h46).bind fun h192 =>
            some h192
          else
            if w38 = (0 : Int32) then
              if x45 = (0 : Int32) then
                some h46
              else
                (getI h46 (some 45) 8 28).bind fun x205 =>
                if x205 = (7 : Int32) then
                  (rc h46 (some 45) 8).bind fun g210 =>
                  (f_X9_wrong g210 h46).bind fun h208 =>
                  some h208
                else
                  some h46
            else
              (getI h46 (some 45) 8 28).bind fun x197 =>
              if x197 = (7 : Int32) then
                (rc h46 (some 45) 8).bind fun g202 =>
                (f_X9_wrong g202 h46).bind fun h200 =>
                some h200
              else
                some h46
        else
          if x45 = (0 : Int32) then
            (rc h46 (some 45) 8).bind fun g215 =>
            (f_X9_wrong g215 h46).bind fun h213 =>
            some h213
          else
            (getI h46 (some 45) 8 27).bind fun x217 =>
            if x217 = (80 : Int32) then
              (rc h46 (some 45) 8).bind fun g222 =>
              (f_X9_wrong g222 h46).bind fun h220 =>
              some h220
            else
              if w38 = (0 : Int32) then
                if x45 = (0 : Int32) then
                  some h46
                else
                  (getI h46 (some 45) 8 28).bind fun x233 =>
                  if x233 = (7 : Int32) then
                    (rc h46 (some 45) 8).bind fun g238 =>
                    (f_X9_wrong g238 h46).bind fun h236 =>
                    some h236
                  else
                    some h46
              else
                (getI h46 (some 45) 8 28).bind fun x225 =>
                if x225 = (7 : Int32) then
                  (rc h46 (some 45) 8).bind fun g230 =>
                  (f_X9_wrong g230 h46).bind fun h228 =>
                  some h228
                else
                  some h46
      else
        (getI h46 (some 45) 8 27).bind fun x163 =>
        if x163 = (80 : Int32) then
          (rc h46 (some 45) 8).bind fun g168 =>
          (f_X9_wrong g168 h46).bind fun h166 =>
          some h166
        else
          if w38 = (0 : Int32) then
            if x45 = (0 : Int32) then
              some h46
            else
              (getI h46 (some 45) 8 28).bind fun x179 =>
              if x179 = (7 : Int32) then
                (rc h46 (some 45) 8).bind fun g184 =>
                (f_X9_wrong g184 h46).bind fun h182 =>
                some h182
              else
                some h46
          else
            (getI h46 (some 45) 8 28).bind fun x171 =>
            if x171 = (7 : Int32) then
              (rc h46 (some 45) 8).bind fun g176 =>
              (f_X9_wrong g176 h46).bind fun h174 =>
              some h174
            else
              some h46
    else
      if w38 = (0 : Int32) then
        if x45 = (0 : Int32) then
          some h46
        else
          (getI h46 (some 45) 8 28).bind fun x155 =>
          if x155 = (7 : Int32) then
            (rc h46 (some 45) 8).bind fun g160 =>
            (f_X9_wrong g160 h46).bind fun h158 =>
            some h158
          else
            some h46
      else
        (getI h46 (some 45) 8 28).bind fun x147 =>
        if x147 = (7 : Int32) then
          (rc h46 (some 45) 8).bind fun g152 =>
          (f_X9_wrong g152 h46).bind fun h150 =>
          some h150
        else
          some h46 : Option (Hp))) fun h240 =>
  (rc h240 (some 45) 8).bind fun g244 =>
  b1 (f_X9_isGood g244 h240) fun x246 h242 =>
  if x246 = (0 : Int32) then
    some (1, h242)
  else
    (getI h242 (some 45) 8 27).bind fun x248 =>
    b1 ((if w38 = (0 : Int32) then
        some (1, h242)
      else
        some (0, h242) : Option (Int32 × Hp))) fun w251 h252 =>
    (putI h252 (some 45) 8 27 (x248 + w251)).bind fun h254 =>
    if w38 = (0 : Int32) then
      if x45 = (0 : Int32) then
        b1 ((if x50 = (0 : Int32) then
            (getI h254 (some 45) 8 9).bind fun x287 =>
            some (x287, h254)
          else
            (rc h254 (some 45) 8).bind fun g284 =>
            b1 (f_X9_kindHere g284 h254) fun x286 h282 =>
            some (x286, h282) : Option (Int32 × Hp))) fun w289 h290 =>
        (rc h290 (some 45) 8).bind fun g294 =>
        (f_X9_next g294 h290).bind fun h292 =>
        b1 ((if x50 = (98 : Int32) then
            (rc h292 (some 45) 8).bind fun g312 =>
            b1 (f_X9_kindHere g312 h292) fun x314 h310 =>
            b1 ((if x314 < (0 : Int32) then
                some (0, h310)
              else
                some (1, h310) : Option (Int32 × Hp))) fun w316 h317 =>
            (rc h317 (some 45) 8).bind fun g321 =>
            (f_X9_must g321 w316 h317).bind fun h319 =>
            some (x314, h319)
          else
            some (w289, h292) : Option (Int32 × Hp))) fun w323 h324 =>
        (rc h324 (some 45) 8).bind fun g328 =>
        b1 (f_X9_isGood g328 h324) fun x330 h326 =>
        if x330 = (0 : Int32) then
          some (1, h326)
        else
          b1 ((if x50 = (0 : Int32) then
              some (110, h326)
            else
              some (x50, h326) : Option (Int32 × Hp))) fun w333 h334 =>
          (rc h334 (some 45) 8).bind fun g338 =>
          (f_X9_step g338 w333 w323 h334).bind fun h336 =>
          some (0, h336)
      else
        b1 ((if w38 = (0 : Int32) then
            some (7, h254)
          else
            some (3, h254) : Option (Int32 × Hp))) fun w341 h342 =>
        (rc h342 (some 45) 8).bind fun g346 =>
        (f_X9_put g346 w341 (126 : Int32) h342).bind fun h344 =>
        (getI h344 (some 45) 8 28).bind fun x348 =>
        (putI h344 (some 45) 8 28 (x348 + (1 : Int32))).bind fun h350 =>
        (rc h350 (some 45) 8).bind fun g354 =>
        (f_X9_next g354 h350).bind fun h352 =>
        some (1, h352)
    else
      b1 ((if w38 = (0 : Int32) then
          some (7, h254)
        else
          some (3, h254) : Option (Int32 × Hp))) fun w258 h259 =>
      (rc h259 (some 45) 8).bind fun g263 =>
      (f_X9_put g263 w258 (126 : Int32) h259).bind fun h261 =>
      (getI h261 (some 45) 8 28).bind fun x265 =>
      (putI h261 (some 45) 8 28 (x265 + (1 : Int32))).bind fun h267 =>
      (rc h267 (some 45) 8).bind fun g271 =>
      (f_X9_next g271 h267).bind fun h269 =>
      some (1, h269)
/-- what stands behind, once nothing forbids it -/
def behB (x5 : Int32) (h1 : Hp) : Option (Int32 × Hp) :=
    (f_X9_behind_L23 fu 45 x5 h1).bind fun h52 =>
    if x5 ≤ (0 : Int32) then
      (getI h52 (some 45) 8 29).bind fun x54 =>
      (putI h52 (some 45) 8 29 (x54 - (1 : Int32))).bind fun h56 =>
      (getQ h56 (some 45) 8 20).bind fun x58 =>
      (getI h56 (some 45) 8 29).bind fun x60 =>
      (rdI h56 x58 10 x60).bind fun x62 =>
      Option.bind ((if x62 = (7 : Int32) then
          (getI h56 (some 45) 8 28).bind fun x78 =>
          (putI h56 (some 45) 8 28 (x78 - (1 : Int32))).bind fun h80 =>
          (rc h80 (some 45) 8).bind fun g84 =>
          b1 (f_X9_is g84 (41 : Int32) h80) fun x86 h82 =>
          (rc h82 (some 45) 8).bind fun g89 =>
          (f_X9_must g89 x86 h82).bind fun h87 =>
          some h87
        else
          some h56 : Option (Hp))) fun h91 =>
      some (0, h91)
    else
      b1 ((if x5 = (2 : Int32) then
          some (38, h52)
        else
          if x5 = (1 : Int32) then
            some (124, h52)
          else
            (getI h52 (some 45) 8 6).bind fun x103 =>
            (rc h52 (some 45) 8).bind fun g107 =>
            b1 (f_X9_sign g107 x103 h52) fun x109 h105 =>
            some (x109, h105) : Option (Int32 × Hp))) fun w110 h111 =>
      (rc h111 (some 45) 8).bind fun g115 =>
      (f_X9_put g115 x5 w110 h111).bind fun h113 =>
      (rc h113 (some 45) 8).bind fun g119 =>
      (f_X9_next g119 h113).bind fun h117 =>
      some (1, h117)
section Mu
variable {h : Hp} {B : Nat → Nat} {n i u base D : Nat} {c : List Nat} {S S0 : List (Nat × Nat)} {y : Nat × Nat}
theorem u_head (z : MZ h B n i u base c (y :: S0) D) (hl : S0.length < 80) : f_X9_unit 45 h = unitB (if (y.1 ≤ 3 ∨ 7 ≤ y.1) ∧ tT B n i = 12 then 1 else 0) h := by
  have X := z.1.1.1
  obtain ⟨s1, s2, s3, s4⟩ := z.2.2.2.2.1
  have e29 : hi h 45 29 = nI (S0.length + 1) := z.2.2.2.1
  have ix : nI (S0.length + 1) - (1 : Int32) = nI S0.length := nI_pred _
  obtain ⟨-, -, -, -, -, -, -, -, -, -, -, -, t12⟩ := wd_tab
  have w12 := m_isWord z.1 (w := 12) (by decide) t12.symm
  have q3 : nI y.1 ≤ (3 : Int32) ↔ y.1 ≤ 3 := nI_leI (b := 3) (by omega) (by decide)
  have q7 : nI y.1 < (7 : Int32) ↔ y.1 < 7 := nI_ltI (b := 7) (by omega) (by decide)
  have rd := r57 X (i := S0.length) hl
  unfold f_X9_unit
  rw [q45_20 X, bd_some, gi45 X, bd_some, e29, ix, rd, bd_some, s1]
  have mid : b1 ((if nI y.1 ≤ (3 : Int32) then some (1, h) else (some (some 57)).bind fun x15 => (some (nI (S0.length + 1))).bind fun x17 => (rdI h x15 10 (x17 - (1 : Int32))).bind fun x19 => if x19 < (7 : Int32) then some (0, h) else some (1, h) : Option (Int32 × Hp))) (fun w22 h23 => b1 ((if w22 = (0 : Int32) then some (0, h23) else (rc h23 (some 45) 8).bind fun g34 => b1 (f_X9_isWord g34 7237492 h23) fun x36 h32 => if x36 = (0 : Int32) then some (0, h32) else some (1, h32) : Option (Int32 × Hp))) unitB) = unitB (if (y.1 ≤ 3 ∨ 7 ≤ y.1) ∧ tT B n i = 12 then 1 else 0) h := by
    have wh : ((rc h (some 45) 8).bind fun g34 => b1 (f_X9_isWord g34 7237492 h) fun x36 h32 => if x36 = (0 : Int32) then some (0, h32) else some (1, h32) : Option (Int32 × Hp)) = some (if tT B n i = 12 then 1 else 0, h) := by
      rw [rc45 X, bd_some, w12, b1_some]
      by_cases c1 : tT B n i = 12
      · rw [if_pos c1, if_neg (by decide)]
      · rw [if_neg c1, if_pos rfl]
    by_cases c1 : y.1 ≤ 3
    · rw [if_pos (q3.mpr c1), b1_some, if_neg (by decide), wh, b1_some]
      by_cases c2 : tT B n i = 12
      · rw [if_pos c2, if_pos ⟨Or.inl c1, c2⟩]
      · rw [if_neg c2, if_neg (fun z => c2 z.2)]
    · rw [if_neg (fun z => c1 (q3.mp z)), bd_some, bd_some, ix, rd, bd_some, s1]
      by_cases c3 : y.1 < 7
      · rw [if_pos (q7.mpr c3), b1_some, if_pos rfl, b1_some, if_neg (by omega)]
      · rw [if_neg (fun z => c3 (q7.mp z)), b1_some, if_neg (by decide), wh, b1_some]
        by_cases c2 : tT B n i = 12
        · rw [if_pos c2, if_pos ⟨Or.inr (by omega), c2⟩]
        · rw [if_neg c2, if_neg (fun z => c2 z.2)]
  exact mid
theorem wdc_no {t : Nat} (h : t < 13 ∨ 23 < t) : wdc t = 0 := by
  unfold wdc
  rw [if_neg (by omega), if_neg (by omega), if_neg (by omega), if_neg (by omega), if_neg (by omega), if_neg (by omega), if_neg (by omega)]
theorem wdc_yes {t : Nat} (h : 13 ≤ t ∧ t ≤ 23) : ¬ wdc t = 0 ∧ (wdc t = 98 ↔ t = 23) := by
  have : ∀ t, t ≤ 23 → 13 ≤ t → ¬ wdc t = 0 ∧ (wdc t = 98 ↔ t = 23) := by decide
  exact this t h.2 h.1
theorem u_wrong (z : MZ h B n i u base c S D) (F : Option Hp → Option (Int32 × Hp)) : ∃ g, ((rc h (some 45) 8).bind fun g194 => (f_X9_wrong g194 h).bind fun h192 => some h192) = some g ∧ EF base h g ∧ MD g B n (i, 2) := by
  obtain ⟨g, a1, a2, a3⟩ := z_wrong z
  exact ⟨g, by rw [rc45 z.1.1.1, bd_some, a1, bd_some], a2, a3⟩
/-- a not -/
theorem u_not (z : MZ h B n i u base c S D) (t12 : tT B n i = 12) (hD : D ≤ 7) (hl : S.length < 80) : (D < 7 → ∃ g, unitB 1 h = some (1, g) ∧ EF base h g ∧ MZ g B n (i + 1) u base c ((3, 12) :: S) (D + 1)) ∧ (7 ≤ D → ∃ g, unitB 1 h = some (1, g) ∧ EF base h g ∧ MD g B n (i, 2)) := by
  have X := z.1.1.1
  have is40 := m_is z.1 (c := 40) (by decide) (v := 40) rfl
  rw [if_neg (by omega)] at is40
  have wd := m_word z.1
  rw [wdc_no (by omega)] at wd
  have e28 := z.2.2.2.2.2
  have e27 := z.2.1
  have n10 : ¬ (1 : Int32) = 0 := by decide
  have q7 : nI D = (7 : Int32) ↔ D = 7 := nI_eq (b := 7) (by omega) (by decide)
  constructor
  · intro hd
    have q : ¬ nI D = (7 : Int32) := fun e => by have := q7.mp e; omega
    have gd := m_good z.1
    have uz : nI u + (0 : Int32) = nI u := nI_add u 0
    obtain ⟨f1, z1⟩ := z_units z u
    obtain ⟨g2, a1, a2, a3⟩ := z_push z1 hl (w := 3) (t := 12) (by decide) (v := 126) (fun _ => rfl)
    have a1' : f_X9_put 45 3 126 (si h 45 27 (nI u)) = some g2 := a1
    have X2 := a3.1.1.1
    have y28 := a3.2.2.2.2.2
    obtain ⟨f3, z3⟩ := z_deep a3 (D + 1)
    obtain ⟨g4, b1', b2', b3'⟩ := z_next z3
    refine ⟨g4, ?_, ((f1.trans a2).trans f3).trans b2', b3'⟩
    unfold unitB
    simp (disch := (first | assumption | (simp only [FX_si, FX_sj, FX_sr, WX_si, WX_sj, WX_sr, FK_si, FK_sj, FK_sr]; assumption) | omega | decide)) only [is40, wd, n10, e28, q, gd, e27, uz, a1', y28, nI_1, b1', ↓reduceIte, if_true, if_false, i10, i01, eq_self, wq7, wq8, wq9, wq10, wrc, wgi, wpi, wpz, wn1, wn2, wn3, wn4, wr1, wr2, wr3, wr4, ww1, ww2, ww3, ww4, fgi, fgq, fpi, frc, at18, at19, at21, at22, at23, at24, at25, at26, at_neg, wat1, wat2, wat3, wat4, reduceCtorEq, bd_some, b1_some, b2_some, b3_some, b4_some, c1_eq, elim_inl, elim_inr, zok0, zok1, getQ_si, getQ_sj, getQ_sr, q8_0, q8_1, q8_2, q8_4, q8_7, q8_8, q8_9, q8_10, q8_11, q9_0, q9_3, q9_4, q9_8, q17_0, q17_1, q17_2, q17_4, q17_5, q17_6, q17_9, q17_10, q17_11, q27_4, q27_5, q27_6, q27_7, q27_8, q27_11, q45_0, q45_1, q45_11, q45_12, q45_13, q45_14, q45_15, q45_16, q45_17, q45_18, q45_19, q45_20, q45_21, q45_22, q45_23, q45_24, q45_30, q45_31, q45_32, q45_33, q45_34, q45_35, q45_36, q45_37, q45_38, q45_39, q45_43, q45_44, q45_45, q45_46, q45_47, q45_48, q45_52, q45_53, q45_54, q45_59, q45_60, q45_61, q45_62, q45_65, q45_67, q45_68, gi8, gj8, pi8, pz8, pj8, rc8, gi9, gj9, pi9, pz9, pj9, rc9, gi17, gj17, pi17, pz17, pj17, rc17, gi27, gj27, pi27, pz27, pj27, rc27, gi45, gj45, pi45, pz45, pj45, rc45, aln_si, aln_sj, aln_sq, rc_si, rc_sj, rc_sq, n0, n1, n10, n11, n12, n13, n14, n15, n16, n18, n19, n20, n21, n22, n23, n24, n25, n26, n29, n30, n31, n32, n33, n34, n35, n36, n37, n38, n39, n40, n42, n43, n44, n46, n47, n48, n49, n50, n51, n52, n53, n54, n55, n56, n57, n58, n59, n60, n61, n62, n63, n64, n65, n66, n67, n68, n69, n70, n71, n72, n73, n74, n75, n76, n77, n78, n79, n80, n81, n82, n83, n84, n85, n86, n87, r0, r1, r10, r11, r12, r13, r14, r15, r16, r18, r19, r20, r21, r22, r23, r24, r25, r26, r29, r30, r31, r32, r33, r34, r35, r36, r37, r38, r39, r40, r42, r43, r44, r46, r47, r48, r49, r50, r51, r52, r53, r54, r55, r56, r57, r58, r59, r60, r61, r62, r63, r64, r65, r66, r67, r68, r69, r70, r71, r72, r73, r74, r75, r76, r77, r78, r79, r80, r81, r82, r83, r84, r85, r86, r87, w10, w11, w12, w13, w18, w19, w20, w21, w22, w23, w24, w25, w26, w30, w31, w32, w33, w34, w35, w36, w38, w39, w40, w43, w44, w46, w47, w48, w49, w50, w51, w52, w53, w54, w55, w56, w57, w58, w59, w60, w61, w62, w63, w64, w65, w66, w67, w68, w69, w70, w71, w72, w73, w74, w75, w76, w77, w78, w79, w80, w81, w82, w83, w84, w85, w86, w87, hi_hit, hi_row, hi_col, hj_hit, hj_row, hj_col, hi_sj, hj_si, hq_si, hq_sj, hi_sq, hj_sq, hi_srh, hi_srm]
  · intro hd
    have q : nI D = (7 : Int32) := q7.mpr (by omega)
    obtain ⟨g, a1, a2, a3⟩ := z_wrong z
    have gb := m_bad a3
    have Xg := a3.1.1
    have s77 : (7 : Int32) = 7 := rfl
    rw [q] at e28
    refine ⟨g, ?_, a2, a3⟩
    unfold unitB
    simp (disch := (first | assumption | (simp only [FX_si, FX_sj, FX_sr, WX_si, WX_sj, WX_sr, FK_si, FK_sj, FK_sr]; assumption) | omega | decide)) only [is40, wd, n10, e28, a1, gb, ↓reduceIte, if_true, if_false, i10, i01, eq_self, wq7, wq8, wq9, wq10, wrc, wgi, wpi, wpz, wn1, wn2, wn3, wn4, wr1, wr2, wr3, wr4, ww1, ww2, ww3, ww4, fgi, fgq, fpi, frc, at18, at19, at21, at22, at23, at24, at25, at26, at_neg, wat1, wat2, wat3, wat4, reduceCtorEq, bd_some, b1_some, b2_some, b3_some, b4_some, c1_eq, elim_inl, elim_inr, zok0, zok1, getQ_si, getQ_sj, getQ_sr, q8_0, q8_1, q8_2, q8_4, q8_7, q8_8, q8_9, q8_10, q8_11, q9_0, q9_3, q9_4, q9_8, q17_0, q17_1, q17_2, q17_4, q17_5, q17_6, q17_9, q17_10, q17_11, q27_4, q27_5, q27_6, q27_7, q27_8, q27_11, q45_0, q45_1, q45_11, q45_12, q45_13, q45_14, q45_15, q45_16, q45_17, q45_18, q45_19, q45_20, q45_21, q45_22, q45_23, q45_24, q45_30, q45_31, q45_32, q45_33, q45_34, q45_35, q45_36, q45_37, q45_38, q45_39, q45_43, q45_44, q45_45, q45_46, q45_47, q45_48, q45_52, q45_53, q45_54, q45_59, q45_60, q45_61, q45_62, q45_65, q45_67, q45_68, gi8, gj8, pi8, pz8, pj8, rc8, gi9, gj9, pi9, pz9, pj9, rc9, gi17, gj17, pi17, pz17, pj17, rc17, gi27, gj27, pi27, pz27, pj27, rc27, gi45, gj45, pi45, pz45, pj45, rc45, aln_si, aln_sj, aln_sq, rc_si, rc_sj, rc_sq, n0, n1, n10, n11, n12, n13, n14, n15, n16, n18, n19, n20, n21, n22, n23, n24, n25, n26, n29, n30, n31, n32, n33, n34, n35, n36, n37, n38, n39, n40, n42, n43, n44, n46, n47, n48, n49, n50, n51, n52, n53, n54, n55, n56, n57, n58, n59, n60, n61, n62, n63, n64, n65, n66, n67, n68, n69, n70, n71, n72, n73, n74, n75, n76, n77, n78, n79, n80, n81, n82, n83, n84, n85, n86, n87, r0, r1, r10, r11, r12, r13, r14, r15, r16, r18, r19, r20, r21, r22, r23, r24, r25, r26, r29, r30, r31, r32, r33, r34, r35, r36, r37, r38, r39, r40, r42, r43, r44, r46, r47, r48, r49, r50, r51, r52, r53, r54, r55, r56, r57, r58, r59, r60, r61, r62, r63, r64, r65, r66, r67, r68, r69, r70, r71, r72, r73, r74, r75, r76, r77, r78, r79, r80, r81, r82, r83, r84, r85, r86, r87, w10, w11, w12, w13, w18, w19, w20, w21, w22, w23, w24, w25, w26, w30, w31, w32, w33, w34, w35, w36, w38, w39, w40, w43, w44, w46, w47, w48, w49, w50, w51, w52, w53, w54, w55, w56, w57, w58, w59, w60, w61, w62, w63, w64, w65, w66, w67, w68, w69, w70, w71, w72, w73, w74, w75, w76, w77, w78, w79, w80, w81, w82, w83, w84, w85, w86, w87, hi_hit, hi_row, hi_col, hj_hit, hj_row, hj_col, hi_sj, hj_si, hq_si, hq_sj, hi_sq, hj_sq, hi_srh, hi_srm]
/-- a bracket -/
theorem u_brk (z : MZ h B n i u base c S D) (t40 : tT B n i = 40) (hD : D < 7) (hu : u < 80) (hl : S.length < 80) : ∃ g, unitB 0 h = some (1, g) ∧ EF base h g ∧ MZ g B n (i + 1) (u + 1) base c ((7, 0) :: S) (D + 1) := by
  have X := z.1.1.1
  have is40 := m_is z.1 (c := 40) (by decide) (v := 40) rfl
  rw [if_pos t40] at is40
  have wd := m_word z.1
  rw [wdc_no (by omega)] at wd
  have e28 := z.2.2.2.2.2
  have e27 := z.2.1
  have n10 : ¬ (1 : Int32) = 0 := by decide
  have t3 : ¬ hi h 45 8 = 3 := fun q => by have := z.1.2.2.2.2.is3.1.mp q; omega
  have q : ¬ nI D = (7 : Int32) := fun e => by have := (nI_eq (b := 7) (by omega) (by decide)).mp e; omega
  have q8 : ¬ nI u = (80 : Int32) := fun e => by have := (nI_eq (b := 80) (by omega) (by decide)).mp e; omega
  have gd := m_good z.1
  obtain ⟨f1, z1⟩ := z_units z (u + 1)
  obtain ⟨g2, a1, a2, a3⟩ := z_push z1 hl (w := 7) (t := 0) (by decide) (v := 126) (fun w => absurd w (by decide))
  have a1' : f_X9_put 45 7 126 (si h 45 27 (nI (u + 1))) = some g2 := a1
  have X2 := a3.1.1.1
  have y28 := a3.2.2.2.2.2
  obtain ⟨f3, z3⟩ := z_deep a3 (D + 1)
  obtain ⟨g4, b1', b2', b3'⟩ := z_next z3
  refine ⟨g4, ?_, ((f1.trans a2).trans f3).trans b2', b3'⟩
  unfold unitB
  simp (disch := (first | assumption | (simp only [FX_si, FX_sj, FX_sr, WX_si, WX_sj, WX_sr, FK_si, FK_sj, FK_sr]; assumption) | omega | decide)) only [is40, wd, n10, t3, e28, q, q8, gd, e27, nI_1, a1', y28, b1', ↓reduceIte, if_true, if_false, i10, i01, eq_self, wq7, wq8, wq9, wq10, wrc, wgi, wpi, wpz, wn1, wn2, wn3, wn4, wr1, wr2, wr3, wr4, ww1, ww2, ww3, ww4, fgi, fgq, fpi, frc, at18, at19, at21, at22, at23, at24, at25, at26, at_neg, wat1, wat2, wat3, wat4, reduceCtorEq, bd_some, b1_some, b2_some, b3_some, b4_some, c1_eq, elim_inl, elim_inr, zok0, zok1, getQ_si, getQ_sj, getQ_sr, q8_0, q8_1, q8_2, q8_4, q8_7, q8_8, q8_9, q8_10, q8_11, q9_0, q9_3, q9_4, q9_8, q17_0, q17_1, q17_2, q17_4, q17_5, q17_6, q17_9, q17_10, q17_11, q27_4, q27_5, q27_6, q27_7, q27_8, q27_11, q45_0, q45_1, q45_11, q45_12, q45_13, q45_14, q45_15, q45_16, q45_17, q45_18, q45_19, q45_20, q45_21, q45_22, q45_23, q45_24, q45_30, q45_31, q45_32, q45_33, q45_34, q45_35, q45_36, q45_37, q45_38, q45_39, q45_43, q45_44, q45_45, q45_46, q45_47, q45_48, q45_52, q45_53, q45_54, q45_59, q45_60, q45_61, q45_62, q45_65, q45_67, q45_68, gi8, gj8, pi8, pz8, pj8, rc8, gi9, gj9, pi9, pz9, pj9, rc9, gi17, gj17, pi17, pz17, pj17, rc17, gi27, gj27, pi27, pz27, pj27, rc27, gi45, gj45, pi45, pz45, pj45, rc45, aln_si, aln_sj, aln_sq, rc_si, rc_sj, rc_sq, n0, n1, n10, n11, n12, n13, n14, n15, n16, n18, n19, n20, n21, n22, n23, n24, n25, n26, n29, n30, n31, n32, n33, n34, n35, n36, n37, n38, n39, n40, n42, n43, n44, n46, n47, n48, n49, n50, n51, n52, n53, n54, n55, n56, n57, n58, n59, n60, n61, n62, n63, n64, n65, n66, n67, n68, n69, n70, n71, n72, n73, n74, n75, n76, n77, n78, n79, n80, n81, n82, n83, n84, n85, n86, n87, r0, r1, r10, r11, r12, r13, r14, r15, r16, r18, r19, r20, r21, r22, r23, r24, r25, r26, r29, r30, r31, r32, r33, r34, r35, r36, r37, r38, r39, r40, r42, r43, r44, r46, r47, r48, r49, r50, r51, r52, r53, r54, r55, r56, r57, r58, r59, r60, r61, r62, r63, r64, r65, r66, r67, r68, r69, r70, r71, r72, r73, r74, r75, r76, r77, r78, r79, r80, r81, r82, r83, r84, r85, r86, r87, w10, w11, w12, w13, w18, w19, w20, w21, w22, w23, w24, w25, w26, w30, w31, w32, w33, w34, w35, w36, w38, w39, w40, w43, w44, w46, w47, w48, w49, w50, w51, w52, w53, w54, w55, w56, w57, w58, w59, w60, w61, w62, w63, w64, w65, w66, w67, w68, w69, w70, w71, w72, w73, w74, w75, w76, w77, w78, w79, w80, w81, w82, w83, w84, w85, w86, w87, hi_hit, hi_row, hi_col, hj_hit, hj_row, hj_col, hi_sj, hj_si, hq_si, hq_sj, hi_sq, hj_sq, hi_srh, hi_srm]
/-- no unit, or one too many -/
theorem u_bad (z : MZ h B n i u base c S D) (hD : D ≤ 7) (hu : u ≤ 80) (hb : u = 80 ∨ (tT B n i = 40 ∧ D = 7) ∨ (tT B n i ≠ 40 ∧ (tT B n i < 13 ∨ 23 < tT B n i) ∧ tT B n i < 1000)) : ∃ g, unitB 0 h = some (1, g) ∧ EF base h g ∧ MD g B n (i, 2) := by
  have X := z.1.1.1
  have is40 := m_is z.1 (c := 40) (by decide) (v := 40) rfl
  have wd := m_word z.1
  have e28 := z.2.2.2.2.2
  have e27 := z.2.1
  have n10 : ¬ (1 : Int32) = 0 := by decide
  have m3 := z.1.2.2.2.2.is3.1
  have q7 : nI D = (7 : Int32) ↔ D = 7 := nI_eq (b := 7) (by omega) (by decide)
  have q80 : nI u = (80 : Int32) ↔ u = 80 := nI_eq (b := 80) (by omega) (by decide)
  obtain ⟨g, a1, a2, a3⟩ := z_wrong z
  have gb := m_bad a3
  have Xg := a3.1.1
  refine ⟨g, ?_, a2, a3⟩
  unfold unitB
  by_cases c40 : tT B n i = 40
  · rw [if_pos c40] at is40
    rw [wdc_no (by omega)] at wd
    have t3 : ¬ hi h 45 8 = 3 := fun q => by have := m3.mp q; omega
    by_cases c80 : u = 80
    · rw [q80.mpr c80] at e27
      simp (disch := (first | assumption | (simp only [FX_si, FX_sj, FX_sr, WX_si, WX_sj, WX_sr, FK_si, FK_sj, FK_sr]; assumption) | omega | decide)) only [is40, wd, n10, t3, e27, a1, gb, ↓reduceIte, if_true, if_false, i10, i01, eq_self, wq7, wq8, wq9, wq10, wrc, wgi, wpi, wpz, wn1, wn2, wn3, wn4, wr1, wr2, wr3, wr4, ww1, ww2, ww3, ww4, fgi, fgq, fpi, frc, at18, at19, at21, at22, at23, at24, at25, at26, at_neg, wat1, wat2, wat3, wat4, reduceCtorEq, bd_some, b1_some, b2_some, b3_some, b4_some, c1_eq, elim_inl, elim_inr, zok0, zok1, getQ_si, getQ_sj, getQ_sr, q8_0, q8_1, q8_2, q8_4, q8_7, q8_8, q8_9, q8_10, q8_11, q9_0, q9_3, q9_4, q9_8, q17_0, q17_1, q17_2, q17_4, q17_5, q17_6, q17_9, q17_10, q17_11, q27_4, q27_5, q27_6, q27_7, q27_8, q27_11, q45_0, q45_1, q45_11, q45_12, q45_13, q45_14, q45_15, q45_16, q45_17, q45_18, q45_19, q45_20, q45_21, q45_22, q45_23, q45_24, q45_30, q45_31, q45_32, q45_33, q45_34, q45_35, q45_36, q45_37, q45_38, q45_39, q45_43, q45_44, q45_45, q45_46, q45_47, q45_48, q45_52, q45_53, q45_54, q45_59, q45_60, q45_61, q45_62, q45_65, q45_67, q45_68, gi8, gj8, pi8, pz8, pj8, rc8, gi9, gj9, pi9, pz9, pj9, rc9, gi17, gj17, pi17, pz17, pj17, rc17, gi27, gj27, pi27, pz27, pj27, rc27, gi45, gj45, pi45, pz45, pj45, rc45, aln_si, aln_sj, aln_sq, rc_si, rc_sj, rc_sq, n0, n1, n10, n11, n12, n13, n14, n15, n16, n18, n19, n20, n21, n22, n23, n24, n25, n26, n29, n30, n31, n32, n33, n34, n35, n36, n37, n38, n39, n40, n42, n43, n44, n46, n47, n48, n49, n50, n51, n52, n53, n54, n55, n56, n57, n58, n59, n60, n61, n62, n63, n64, n65, n66, n67, n68, n69, n70, n71, n72, n73, n74, n75, n76, n77, n78, n79, n80, n81, n82, n83, n84, n85, n86, n87, r0, r1, r10, r11, r12, r13, r14, r15, r16, r18, r19, r20, r21, r22, r23, r24, r25, r26, r29, r30, r31, r32, r33, r34, r35, r36, r37, r38, r39, r40, r42, r43, r44, r46, r47, r48, r49, r50, r51, r52, r53, r54, r55, r56, r57, r58, r59, r60, r61, r62, r63, r64, r65, r66, r67, r68, r69, r70, r71, r72, r73, r74, r75, r76, r77, r78, r79, r80, r81, r82, r83, r84, r85, r86, r87, w10, w11, w12, w13, w18, w19, w20, w21, w22, w23, w24, w25, w26, w30, w31, w32, w33, w34, w35, w36, w38, w39, w40, w43, w44, w46, w47, w48, w49, w50, w51, w52, w53, w54, w55, w56, w57, w58, w59, w60, w61, w62, w63, w64, w65, w66, w67, w68, w69, w70, w71, w72, w73, w74, w75, w76, w77, w78, w79, w80, w81, w82, w83, w84, w85, w86, w87, hi_hit, hi_row, hi_col, hj_hit, hj_row, hj_col, hi_sj, hj_si, hq_si, hq_sj, hi_sq, hj_sq, hi_srh, hi_srm]
    · have c80' : ¬ nI u = (80 : Int32) := fun q => c80 (q80.mp q)
      rw [q7.mpr (by omega)] at e28
      simp (disch := (first | assumption | (simp only [FX_si, FX_sj, FX_sr, WX_si, WX_sj, WX_sr, FK_si, FK_sj, FK_sr]; assumption) | omega | decide)) only [is40, wd, n10, t3, e27, c80', e28, a1, gb, ↓reduceIte, if_true, if_false, i10, i01, eq_self, wq7, wq8, wq9, wq10, wrc, wgi, wpi, wpz, wn1, wn2, wn3, wn4, wr1, wr2, wr3, wr4, ww1, ww2, ww3, ww4, fgi, fgq, fpi, frc, at18, at19, at21, at22, at23, at24, at25, at26, at_neg, wat1, wat2, wat3, wat4, reduceCtorEq, bd_some, b1_some, b2_some, b3_some, b4_some, c1_eq, elim_inl, elim_inr, zok0, zok1, getQ_si, getQ_sj, getQ_sr, q8_0, q8_1, q8_2, q8_4, q8_7, q8_8, q8_9, q8_10, q8_11, q9_0, q9_3, q9_4, q9_8, q17_0, q17_1, q17_2, q17_4, q17_5, q17_6, q17_9, q17_10, q17_11, q27_4, q27_5, q27_6, q27_7, q27_8, q27_11, q45_0, q45_1, q45_11, q45_12, q45_13, q45_14, q45_15, q45_16, q45_17, q45_18, q45_19, q45_20, q45_21, q45_22, q45_23, q45_24, q45_30, q45_31, q45_32, q45_33, q45_34, q45_35, q45_36, q45_37, q45_38, q45_39, q45_43, q45_44, q45_45, q45_46, q45_47, q45_48, q45_52, q45_53, q45_54, q45_59, q45_60, q45_61, q45_62, q45_65, q45_67, q45_68, gi8, gj8, pi8, pz8, pj8, rc8, gi9, gj9, pi9, pz9, pj9, rc9, gi17, gj17, pi17, pz17, pj17, rc17, gi27, gj27, pi27, pz27, pj27, rc27, gi45, gj45, pi45, pz45, pj45, rc45, aln_si, aln_sj, aln_sq, rc_si, rc_sj, rc_sq, n0, n1, n10, n11, n12, n13, n14, n15, n16, n18, n19, n20, n21, n22, n23, n24, n25, n26, n29, n30, n31, n32, n33, n34, n35, n36, n37, n38, n39, n40, n42, n43, n44, n46, n47, n48, n49, n50, n51, n52, n53, n54, n55, n56, n57, n58, n59, n60, n61, n62, n63, n64, n65, n66, n67, n68, n69, n70, n71, n72, n73, n74, n75, n76, n77, n78, n79, n80, n81, n82, n83, n84, n85, n86, n87, r0, r1, r10, r11, r12, r13, r14, r15, r16, r18, r19, r20, r21, r22, r23, r24, r25, r26, r29, r30, r31, r32, r33, r34, r35, r36, r37, r38, r39, r40, r42, r43, r44, r46, r47, r48, r49, r50, r51, r52, r53, r54, r55, r56, r57, r58, r59, r60, r61, r62, r63, r64, r65, r66, r67, r68, r69, r70, r71, r72, r73, r74, r75, r76, r77, r78, r79, r80, r81, r82, r83, r84, r85, r86, r87, w10, w11, w12, w13, w18, w19, w20, w21, w22, w23, w24, w25, w26, w30, w31, w32, w33, w34, w35, w36, w38, w39, w40, w43, w44, w46, w47, w48, w49, w50, w51, w52, w53, w54, w55, w56, w57, w58, w59, w60, w61, w62, w63, w64, w65, w66, w67, w68, w69, w70, w71, w72, w73, w74, w75, w76, w77, w78, w79, w80, w81, w82, w83, w84, w85, w86, w87, hi_hit, hi_row, hi_col, hj_hit, hj_row, hj_col, hi_sj, hj_si, hq_si, hq_sj, hi_sq, hj_sq, hi_srh, hi_srm]
  · rw [if_neg c40] at is40
    by_cases cw : 13 ≤ tT B n i ∧ tT B n i ≤ 23
    · have wy := (wdc_yes cw).1
      rw [q80.mpr (by omega)] at e27
      simp (disch := (first | assumption | (simp only [FX_si, FX_sj, FX_sr, WX_si, WX_sj, WX_sr, FK_si, FK_sj, FK_sr]; assumption) | omega | decide)) only [is40, wd, wy, e27, a1, gb, ↓reduceIte, if_true, if_false, i10, i01, eq_self, wq7, wq8, wq9, wq10, wrc, wgi, wpi, wpz, wn1, wn2, wn3, wn4, wr1, wr2, wr3, wr4, ww1, ww2, ww3, ww4, fgi, fgq, fpi, frc, at18, at19, at21, at22, at23, at24, at25, at26, at_neg, wat1, wat2, wat3, wat4, reduceCtorEq, bd_some, b1_some, b2_some, b3_some, b4_some, c1_eq, elim_inl, elim_inr, zok0, zok1, getQ_si, getQ_sj, getQ_sr, q8_0, q8_1, q8_2, q8_4, q8_7, q8_8, q8_9, q8_10, q8_11, q9_0, q9_3, q9_4, q9_8, q17_0, q17_1, q17_2, q17_4, q17_5, q17_6, q17_9, q17_10, q17_11, q27_4, q27_5, q27_6, q27_7, q27_8, q27_11, q45_0, q45_1, q45_11, q45_12, q45_13, q45_14, q45_15, q45_16, q45_17, q45_18, q45_19, q45_20, q45_21, q45_22, q45_23, q45_24, q45_30, q45_31, q45_32, q45_33, q45_34, q45_35, q45_36, q45_37, q45_38, q45_39, q45_43, q45_44, q45_45, q45_46, q45_47, q45_48, q45_52, q45_53, q45_54, q45_59, q45_60, q45_61, q45_62, q45_65, q45_67, q45_68, gi8, gj8, pi8, pz8, pj8, rc8, gi9, gj9, pi9, pz9, pj9, rc9, gi17, gj17, pi17, pz17, pj17, rc17, gi27, gj27, pi27, pz27, pj27, rc27, gi45, gj45, pi45, pz45, pj45, rc45, aln_si, aln_sj, aln_sq, rc_si, rc_sj, rc_sq, n0, n1, n10, n11, n12, n13, n14, n15, n16, n18, n19, n20, n21, n22, n23, n24, n25, n26, n29, n30, n31, n32, n33, n34, n35, n36, n37, n38, n39, n40, n42, n43, n44, n46, n47, n48, n49, n50, n51, n52, n53, n54, n55, n56, n57, n58, n59, n60, n61, n62, n63, n64, n65, n66, n67, n68, n69, n70, n71, n72, n73, n74, n75, n76, n77, n78, n79, n80, n81, n82, n83, n84, n85, n86, n87, r0, r1, r10, r11, r12, r13, r14, r15, r16, r18, r19, r20, r21, r22, r23, r24, r25, r26, r29, r30, r31, r32, r33, r34, r35, r36, r37, r38, r39, r40, r42, r43, r44, r46, r47, r48, r49, r50, r51, r52, r53, r54, r55, r56, r57, r58, r59, r60, r61, r62, r63, r64, r65, r66, r67, r68, r69, r70, r71, r72, r73, r74, r75, r76, r77, r78, r79, r80, r81, r82, r83, r84, r85, r86, r87, w10, w11, w12, w13, w18, w19, w20, w21, w22, w23, w24, w25, w26, w30, w31, w32, w33, w34, w35, w36, w38, w39, w40, w43, w44, w46, w47, w48, w49, w50, w51, w52, w53, w54, w55, w56, w57, w58, w59, w60, w61, w62, w63, w64, w65, w66, w67, w68, w69, w70, w71, w72, w73, w74, w75, w76, w77, w78, w79, w80, w81, w82, w83, w84, w85, w86, w87, hi_hit, hi_row, hi_col, hj_hit, hj_row, hj_col, hi_sj, hj_si, hq_si, hq_sj, hi_sq, hj_sq, hi_srh, hi_srm]
    · rw [wdc_no (by omega)] at wd
      by_cases c1 : 1000 ≤ tT B n i
      · have t3 := m3.mpr c1
        rw [q80.mpr (by omega)] at e27
        simp (disch := (first | assumption | (simp only [FX_si, FX_sj, FX_sr, WX_si, WX_sj, WX_sr, FK_si, FK_sj, FK_sr]; assumption) | omega | decide)) only [is40, wd, t3, e27, a1, gb, ↓reduceIte, if_true, if_false, i10, i01, eq_self, wq7, wq8, wq9, wq10, wrc, wgi, wpi, wpz, wn1, wn2, wn3, wn4, wr1, wr2, wr3, wr4, ww1, ww2, ww3, ww4, fgi, fgq, fpi, frc, at18, at19, at21, at22, at23, at24, at25, at26, at_neg, wat1, wat2, wat3, wat4, reduceCtorEq, bd_some, b1_some, b2_some, b3_some, b4_some, c1_eq, elim_inl, elim_inr, zok0, zok1, getQ_si, getQ_sj, getQ_sr, q8_0, q8_1, q8_2, q8_4, q8_7, q8_8, q8_9, q8_10, q8_11, q9_0, q9_3, q9_4, q9_8, q17_0, q17_1, q17_2, q17_4, q17_5, q17_6, q17_9, q17_10, q17_11, q27_4, q27_5, q27_6, q27_7, q27_8, q27_11, q45_0, q45_1, q45_11, q45_12, q45_13, q45_14, q45_15, q45_16, q45_17, q45_18, q45_19, q45_20, q45_21, q45_22, q45_23, q45_24, q45_30, q45_31, q45_32, q45_33, q45_34, q45_35, q45_36, q45_37, q45_38, q45_39, q45_43, q45_44, q45_45, q45_46, q45_47, q45_48, q45_52, q45_53, q45_54, q45_59, q45_60, q45_61, q45_62, q45_65, q45_67, q45_68, gi8, gj8, pi8, pz8, pj8, rc8, gi9, gj9, pi9, pz9, pj9, rc9, gi17, gj17, pi17, pz17, pj17, rc17, gi27, gj27, pi27, pz27, pj27, rc27, gi45, gj45, pi45, pz45, pj45, rc45, aln_si, aln_sj, aln_sq, rc_si, rc_sj, rc_sq, n0, n1, n10, n11, n12, n13, n14, n15, n16, n18, n19, n20, n21, n22, n23, n24, n25, n26, n29, n30, n31, n32, n33, n34, n35, n36, n37, n38, n39, n40, n42, n43, n44, n46, n47, n48, n49, n50, n51, n52, n53, n54, n55, n56, n57, n58, n59, n60, n61, n62, n63, n64, n65, n66, n67, n68, n69, n70, n71, n72, n73, n74, n75, n76, n77, n78, n79, n80, n81, n82, n83, n84, n85, n86, n87, r0, r1, r10, r11, r12, r13, r14, r15, r16, r18, r19, r20, r21, r22, r23, r24, r25, r26, r29, r30, r31, r32, r33, r34, r35, r36, r37, r38, r39, r40, r42, r43, r44, r46, r47, r48, r49, r50, r51, r52, r53, r54, r55, r56, r57, r58, r59, r60, r61, r62, r63, r64, r65, r66, r67, r68, r69, r70, r71, r72, r73, r74, r75, r76, r77, r78, r79, r80, r81, r82, r83, r84, r85, r86, r87, w10, w11, w12, w13, w18, w19, w20, w21, w22, w23, w24, w25, w26, w30, w31, w32, w33, w34, w35, w36, w38, w39, w40, w43, w44, w46, w47, w48, w49, w50, w51, w52, w53, w54, w55, w56, w57, w58, w59, w60, w61, w62, w63, w64, w65, w66, w67, w68, w69, w70, w71, w72, w73, w74, w75, w76, w77, w78, w79, w80, w81, w82, w83, w84, w85, w86, w87, hi_hit, hi_row, hi_col, hj_hit, hj_row, hj_col, hi_sj, hj_si, hq_si, hq_sj, hi_sq, hj_sq, hi_srh, hi_srm]
      · have t3 : ¬ hi h 45 8 = 3 := fun q => c1 (m3.mp q)
        simp (disch := (first | assumption | (simp only [FX_si, FX_sj, FX_sr, WX_si, WX_sj, WX_sr, FK_si, FK_sj, FK_sr]; assumption) | omega | decide)) only [is40, wd, t3, a1, gb, ↓reduceIte, if_true, if_false, i10, i01, eq_self, wq7, wq8, wq9, wq10, wrc, wgi, wpi, wpz, wn1, wn2, wn3, wn4, wr1, wr2, wr3, wr4, ww1, ww2, ww3, ww4, fgi, fgq, fpi, frc, at18, at19, at21, at22, at23, at24, at25, at26, at_neg, wat1, wat2, wat3, wat4, reduceCtorEq, bd_some, b1_some, b2_some, b3_some, b4_some, c1_eq, elim_inl, elim_inr, zok0, zok1, getQ_si, getQ_sj, getQ_sr, q8_0, q8_1, q8_2, q8_4, q8_7, q8_8, q8_9, q8_10, q8_11, q9_0, q9_3, q9_4, q9_8, q17_0, q17_1, q17_2, q17_4, q17_5, q17_6, q17_9, q17_10, q17_11, q27_4, q27_5, q27_6, q27_7, q27_8, q27_11, q45_0, q45_1, q45_11, q45_12, q45_13, q45_14, q45_15, q45_16, q45_17, q45_18, q45_19, q45_20, q45_21, q45_22, q45_23, q45_24, q45_30, q45_31, q45_32, q45_33, q45_34, q45_35, q45_36, q45_37, q45_38, q45_39, q45_43, q45_44, q45_45, q45_46, q45_47, q45_48, q45_52, q45_53, q45_54, q45_59, q45_60, q45_61, q45_62, q45_65, q45_67, q45_68, gi8, gj8, pi8, pz8, pj8, rc8, gi9, gj9, pi9, pz9, pj9, rc9, gi17, gj17, pi17, pz17, pj17, rc17, gi27, gj27, pi27, pz27, pj27, rc27, gi45, gj45, pi45, pz45, pj45, rc45, aln_si, aln_sj, aln_sq, rc_si, rc_sj, rc_sq, n0, n1, n10, n11, n12, n13, n14, n15, n16, n18, n19, n20, n21, n22, n23, n24, n25, n26, n29, n30, n31, n32, n33, n34, n35, n36, n37, n38, n39, n40, n42, n43, n44, n46, n47, n48, n49, n50, n51, n52, n53, n54, n55, n56, n57, n58, n59, n60, n61, n62, n63, n64, n65, n66, n67, n68, n69, n70, n71, n72, n73, n74, n75, n76, n77, n78, n79, n80, n81, n82, n83, n84, n85, n86, n87, r0, r1, r10, r11, r12, r13, r14, r15, r16, r18, r19, r20, r21, r22, r23, r24, r25, r26, r29, r30, r31, r32, r33, r34, r35, r36, r37, r38, r39, r40, r42, r43, r44, r46, r47, r48, r49, r50, r51, r52, r53, r54, r55, r56, r57, r58, r59, r60, r61, r62, r63, r64, r65, r66, r67, r68, r69, r70, r71, r72, r73, r74, r75, r76, r77, r78, r79, r80, r81, r82, r83, r84, r85, r86, r87, w10, w11, w12, w13, w18, w19, w20, w21, w22, w23, w24, w25, w26, w30, w31, w32, w33, w34, w35, w36, w38, w39, w40, w43, w44, w46, w47, w48, w49, w50, w51, w52, w53, w54, w55, w56, w57, w58, w59, w60, w61, w62, w63, w64, w65, w66, w67, w68, w69, w70, w71, w72, w73, w74, w75, w76, w77, w78, w79, w80, w81, w82, w83, w84, w85, w86, w87, hi_hit, hi_row, hi_col, hj_hit, hj_row, hj_col, hi_sj, hj_si, hq_si, hq_sj, hi_sq, hj_sq, hi_srh, hi_srm]
theorem mnOk_any {x : Nat} (hx : 10005 ≤ x ∧ x < 10010) (v : Int32) : mnOk x v := ⟨fun q => by omega, fun m hm q => by omega, fun m hm q => by omega⟩
theorem mcl_eq {t : Nat} (h : 13 ≤ t ∧ t ≤ 22) : wdc t = mc (10000 + t - 13) := by
  have : ∀ t, t ≤ 22 → 13 ≤ t → wdc t = mc (10000 + t - 13) := by decide
  exact this t h.2 h.1
/-- a number or a word -/
theorem u_leaf (z : MZ h B n i u base c S D) (hu : u < 80) (hc : base + c.length < 900) (ht : (13 ≤ tT B n i ∧ tT B n i ≤ 22) ∨ 1000 ≤ tT B n i) : ∃ g, unitB 0 h = some (0, g) ∧ EF base h g ∧ MZ g B n (i + 1) (u + 1) base (c ++ [if 1000 ≤ tT B n i then tT B n i - 1000 else 10000 + tT B n i - 13]) S D := by
  have X := z.1.1.1
  have is40 := m_is z.1 (c := 40) (by decide) (v := 40) rfl
  rw [if_neg (by omega)] at is40
  have wd := m_word z.1
  have e27 := z.2.1
  have n10 : ¬ (1 : Int32) = 0 := by decide
  have m3 := z.1.2.2.2.2.is3
  have c80 : ¬ nI u = (80 : Int32) := fun e => by have := (nI_eq (b := 80) (by omega) (by decide)).mp e; omega
  have gd := m_good z.1
  have ol := okT_lt (tT_ok B n i)
  obtain ⟨f1, z1⟩ := z_units z (u + 1)
  have X1 := z1.1.1.1
  obtain ⟨g2, a1, a2, a3⟩ := z_next z1
  have X2 := a3.1.1.1
  have gd2 := m_good a3.1
  unfold unitB
  by_cases c1 : 1000 ≤ tT B n i
  · rw [if_pos c1]
    have t3 := m3.1.mpr c1
    rw [wdc_no (by omega)] at wd
    have num : hi (si h 45 27 (nI (u + 1))) 45 9 = nI (tT B n i - 1000) := by rw [hi_col _ _ (by decide)]; exact m3.2 c1
    have n9 : hi h 45 9 = nI (tT B n i - 1000) := m3.2 c1
    have n98 : ¬ (0 : Int32) = 98 := by decide
    obtain ⟨g3, b1', b2', b3'⟩ := z_step a3 hc (x := tT B n i - 1000) (v1 := 110) (v2 := nI (tT B n i - 1000)) (by unfold mc; rw [if_pos (by omega)]) ⟨fun _ => rfl, fun m hm q => by omega, fun m hm q => by omega⟩
    refine ⟨g3, ?_, (f1.trans a2).trans b2', b3'⟩
    simp (disch := (first | assumption | (simp only [FX_si, FX_sj, FX_sr, WX_si, WX_sj, WX_sr, FK_si, FK_sj, FK_sr]; assumption) | omega | decide)) only [is40, wd, t3, n9, e27, c80, gd, nI_1, n98, a1, gd2, b1', ↓reduceIte, if_true, if_false, i10, i01, eq_self, wq7, wq8, wq9, wq10, wrc, wgi, wpi, wpz, wn1, wn2, wn3, wn4, wr1, wr2, wr3, wr4, ww1, ww2, ww3, ww4, fgi, fgq, fpi, frc, at18, at19, at21, at22, at23, at24, at25, at26, at_neg, wat1, wat2, wat3, wat4, reduceCtorEq, bd_some, b1_some, b2_some, b3_some, b4_some, c1_eq, elim_inl, elim_inr, zok0, zok1, getQ_si, getQ_sj, getQ_sr, q8_0, q8_1, q8_2, q8_4, q8_7, q8_8, q8_9, q8_10, q8_11, q9_0, q9_3, q9_4, q9_8, q17_0, q17_1, q17_2, q17_4, q17_5, q17_6, q17_9, q17_10, q17_11, q27_4, q27_5, q27_6, q27_7, q27_8, q27_11, q45_0, q45_1, q45_11, q45_12, q45_13, q45_14, q45_15, q45_16, q45_17, q45_18, q45_19, q45_20, q45_21, q45_22, q45_23, q45_24, q45_30, q45_31, q45_32, q45_33, q45_34, q45_35, q45_36, q45_37, q45_38, q45_39, q45_43, q45_44, q45_45, q45_46, q45_47, q45_48, q45_52, q45_53, q45_54, q45_59, q45_60, q45_61, q45_62, q45_65, q45_67, q45_68, gi8, gj8, pi8, pz8, pj8, rc8, gi9, gj9, pi9, pz9, pj9, rc9, gi17, gj17, pi17, pz17, pj17, rc17, gi27, gj27, pi27, pz27, pj27, rc27, gi45, gj45, pi45, pz45, pj45, rc45, aln_si, aln_sj, aln_sq, rc_si, rc_sj, rc_sq, n0, n1, n10, n11, n12, n13, n14, n15, n16, n18, n19, n20, n21, n22, n23, n24, n25, n26, n29, n30, n31, n32, n33, n34, n35, n36, n37, n38, n39, n40, n42, n43, n44, n46, n47, n48, n49, n50, n51, n52, n53, n54, n55, n56, n57, n58, n59, n60, n61, n62, n63, n64, n65, n66, n67, n68, n69, n70, n71, n72, n73, n74, n75, n76, n77, n78, n79, n80, n81, n82, n83, n84, n85, n86, n87, r0, r1, r10, r11, r12, r13, r14, r15, r16, r18, r19, r20, r21, r22, r23, r24, r25, r26, r29, r30, r31, r32, r33, r34, r35, r36, r37, r38, r39, r40, r42, r43, r44, r46, r47, r48, r49, r50, r51, r52, r53, r54, r55, r56, r57, r58, r59, r60, r61, r62, r63, r64, r65, r66, r67, r68, r69, r70, r71, r72, r73, r74, r75, r76, r77, r78, r79, r80, r81, r82, r83, r84, r85, r86, r87, w10, w11, w12, w13, w18, w19, w20, w21, w22, w23, w24, w25, w26, w30, w31, w32, w33, w34, w35, w36, w38, w39, w40, w43, w44, w46, w47, w48, w49, w50, w51, w52, w53, w54, w55, w56, w57, w58, w59, w60, w61, w62, w63, w64, w65, w66, w67, w68, w69, w70, w71, w72, w73, w74, w75, w76, w77, w78, w79, w80, w81, w82, w83, w84, w85, w86, w87, hi_hit, hi_row, hi_col, hj_hit, hj_row, hj_col, hi_sj, hj_si, hq_si, hq_sj, hi_sq, hj_sq, hi_srh, hi_srm]
  · rw [if_neg c1]
    have cw : 13 ≤ tT B n i ∧ tT B n i ≤ 22 := by omega
    have wy := wdc_yes (t := tT B n i) (by omega)
    have w98 : ¬ wdc (tT B n i) = 98 := fun q => by have := wy.2.mp q; omega
    have wy0 := wy.1
    have kd := m_kind z1.1
    obtain ⟨g3, b1', b2', b3'⟩ := z_step a3 hc (x := 10000 + tT B n i - 13) (v1 := wdc (tT B n i)) (v2 := if 13 ≤ tT B n i ∧ tT B n i ≤ 17 then nI (tT B n i - 13) else -1) (mcl_eq cw) ⟨fun q => by omega, fun m hm q => by rw [if_pos (by omega)]; congr 1; omega, fun m hm q => by omega⟩
    refine ⟨g3, ?_, (f1.trans a2).trans b2', b3'⟩
    simp (disch := (first | assumption | (simp only [FX_si, FX_sj, FX_sr, WX_si, WX_sj, WX_sr, FK_si, FK_sj, FK_sr]; assumption) | omega | decide)) only [is40, wd, wy0, e27, c80, gd, nI_1, kd, w98, a1, gd2, b1', ↓reduceIte, if_true, if_false, i10, i01, eq_self, wq7, wq8, wq9, wq10, wrc, wgi, wpi, wpz, wn1, wn2, wn3, wn4, wr1, wr2, wr3, wr4, ww1, ww2, ww3, ww4, fgi, fgq, fpi, frc, at18, at19, at21, at22, at23, at24, at25, at26, at_neg, wat1, wat2, wat3, wat4, reduceCtorEq, bd_some, b1_some, b2_some, b3_some, b4_some, c1_eq, elim_inl, elim_inr, zok0, zok1, getQ_si, getQ_sj, getQ_sr, q8_0, q8_1, q8_2, q8_4, q8_7, q8_8, q8_9, q8_10, q8_11, q9_0, q9_3, q9_4, q9_8, q17_0, q17_1, q17_2, q17_4, q17_5, q17_6, q17_9, q17_10, q17_11, q27_4, q27_5, q27_6, q27_7, q27_8, q27_11, q45_0, q45_1, q45_11, q45_12, q45_13, q45_14, q45_15, q45_16, q45_17, q45_18, q45_19, q45_20, q45_21, q45_22, q45_23, q45_24, q45_30, q45_31, q45_32, q45_33, q45_34, q45_35, q45_36, q45_37, q45_38, q45_39, q45_43, q45_44, q45_45, q45_46, q45_47, q45_48, q45_52, q45_53, q45_54, q45_59, q45_60, q45_61, q45_62, q45_65, q45_67, q45_68, gi8, gj8, pi8, pz8, pj8, rc8, gi9, gj9, pi9, pz9, pj9, rc9, gi17, gj17, pi17, pz17, pj17, rc17, gi27, gj27, pi27, pz27, pj27, rc27, gi45, gj45, pi45, pz45, pj45, rc45, aln_si, aln_sj, aln_sq, rc_si, rc_sj, rc_sq, n0, n1, n10, n11, n12, n13, n14, n15, n16, n18, n19, n20, n21, n22, n23, n24, n25, n26, n29, n30, n31, n32, n33, n34, n35, n36, n37, n38, n39, n40, n42, n43, n44, n46, n47, n48, n49, n50, n51, n52, n53, n54, n55, n56, n57, n58, n59, n60, n61, n62, n63, n64, n65, n66, n67, n68, n69, n70, n71, n72, n73, n74, n75, n76, n77, n78, n79, n80, n81, n82, n83, n84, n85, n86, n87, r0, r1, r10, r11, r12, r13, r14, r15, r16, r18, r19, r20, r21, r22, r23, r24, r25, r26, r29, r30, r31, r32, r33, r34, r35, r36, r37, r38, r39, r40, r42, r43, r44, r46, r47, r48, r49, r50, r51, r52, r53, r54, r55, r56, r57, r58, r59, r60, r61, r62, r63, r64, r65, r66, r67, r68, r69, r70, r71, r72, r73, r74, r75, r76, r77, r78, r79, r80, r81, r82, r83, r84, r85, r86, r87, w10, w11, w12, w13, w18, w19, w20, w21, w22, w23, w24, w25, w26, w30, w31, w32, w33, w34, w35, w36, w38, w39, w40, w43, w44, w46, w47, w48, w49, w50, w51, w52, w53, w54, w55, w56, w57, w58, w59, w60, w61, w62, w63, w64, w65, w66, w67, w68, w69, w70, w71, w72, w73, w74, w75, w76, w77, w78, w79, w80, w81, w82, w83, w84, w85, w86, w87, hi_hit, hi_row, hi_col, hj_hit, hj_row, hj_col, hi_sj, hj_si, hq_si, hq_sj, hi_sq, hj_sq, hi_srh, hi_srm]
/-- a habit -/
theorem u_hab (z : MZ h B n i u base c S D) (hu : u < 80) (hc : base + c.length < 900) (ht : tT B n i = 23) : ((13 ≤ tT B n (i + 1) ∧ tT B n (i + 1) ≤ 17) → ∃ g, unitB 0 h = some (0, g) ∧ EF base h g ∧ MZ g B n (i + 2) (u + 1) base (c ++ [10010 + tT B n (i + 1) - 13]) S D) ∧ (¬ (13 ≤ tT B n (i + 1) ∧ tT B n (i + 1) ≤ 17) → ∃ g, unitB 0 h = some (1, g) ∧ EF base h g ∧ MD g B n (i + 1, 2)) := by
  have X := z.1.1.1
  have is40 := m_is z.1 (c := 40) (by decide) (v := 40) rfl
  rw [if_neg (by omega)] at is40
  have wd := m_word z.1
  rw [show wdc (tT B n i) = 98 by rw [ht]; rfl] at wd
  have e27 := z.2.1
  have n10 : ¬ (1 : Int32) = 0 := by decide
  have n98 : ¬ (98 : Int32) = 0 := by decide
  have c80 : ¬ nI u = (80 : Int32) := fun e => by have := (nI_eq (b := 80) (by omega) (by decide)).mp e; omega
  have gd := m_good z.1
  obtain ⟨f1, z1⟩ := z_units z (u + 1)
  have X1 := z1.1.1.1
  have kd := m_kind z1.1
  obtain ⟨g2, a1, a2, a3⟩ := z_next z1
  have X2 := a3.1.1.1
  have kd2 := m_kind a3.1
  unfold unitB
  constructor
  · intro hk'
    rw [if_pos hk'] at kd2
    have np : ¬ nI (tT B n (i + 1) - 13) < 0 := nI_pos (by omega)
    obtain ⟨g3, b1', b2', b3'⟩ := z_next a3
    have mu : f_X9_must 45 1 g2 = some g3 := by
      unfold f_X9_must
      rw [rc45 X2, bd_some, m_good a3.1, b1_some, if_neg (by decide), if_neg (by decide), rc45 X2, bd_some, b1', bd_some, bd_some]
    have X3 := b3'.1.1.1
    have gd3 := m_good b3'.1
    obtain ⟨g4, d1, d2, d3⟩ := z_step b3' hc (x := 10010 + tT B n (i + 1) - 13) (v1 := 98) (v2 := nI (tT B n (i + 1) - 13)) (by
      have : ∀ t, t ≤ 17 → 13 ≤ t → (98 : Int32) = mc (10010 + t - 13) := by decide
      exact this _ hk'.2 hk'.1) ⟨fun q => by omega, fun m hm q => by omega, fun m hm q => by congr 1; omega⟩
    refine ⟨g4, ?_, ((f1.trans a2).trans b2').trans d2, d3⟩
    simp (disch := (first | assumption | (simp only [FX_si, FX_sj, FX_sr, WX_si, WX_sj, WX_sr, FK_si, FK_sj, FK_sr]; assumption) | omega | decide)) only [is40, wd, n98, e27, c80, gd, nI_1, kd, a1, kd2, np, mu, gd3, d1, ↓reduceIte, if_true, if_false, i10, i01, eq_self, wq7, wq8, wq9, wq10, wrc, wgi, wpi, wpz, wn1, wn2, wn3, wn4, wr1, wr2, wr3, wr4, ww1, ww2, ww3, ww4, fgi, fgq, fpi, frc, at18, at19, at21, at22, at23, at24, at25, at26, at_neg, wat1, wat2, wat3, wat4, reduceCtorEq, bd_some, b1_some, b2_some, b3_some, b4_some, c1_eq, elim_inl, elim_inr, zok0, zok1, getQ_si, getQ_sj, getQ_sr, q8_0, q8_1, q8_2, q8_4, q8_7, q8_8, q8_9, q8_10, q8_11, q9_0, q9_3, q9_4, q9_8, q17_0, q17_1, q17_2, q17_4, q17_5, q17_6, q17_9, q17_10, q17_11, q27_4, q27_5, q27_6, q27_7, q27_8, q27_11, q45_0, q45_1, q45_11, q45_12, q45_13, q45_14, q45_15, q45_16, q45_17, q45_18, q45_19, q45_20, q45_21, q45_22, q45_23, q45_24, q45_30, q45_31, q45_32, q45_33, q45_34, q45_35, q45_36, q45_37, q45_38, q45_39, q45_43, q45_44, q45_45, q45_46, q45_47, q45_48, q45_52, q45_53, q45_54, q45_59, q45_60, q45_61, q45_62, q45_65, q45_67, q45_68, gi8, gj8, pi8, pz8, pj8, rc8, gi9, gj9, pi9, pz9, pj9, rc9, gi17, gj17, pi17, pz17, pj17, rc17, gi27, gj27, pi27, pz27, pj27, rc27, gi45, gj45, pi45, pz45, pj45, rc45, aln_si, aln_sj, aln_sq, rc_si, rc_sj, rc_sq, n0, n1, n10, n11, n12, n13, n14, n15, n16, n18, n19, n20, n21, n22, n23, n24, n25, n26, n29, n30, n31, n32, n33, n34, n35, n36, n37, n38, n39, n40, n42, n43, n44, n46, n47, n48, n49, n50, n51, n52, n53, n54, n55, n56, n57, n58, n59, n60, n61, n62, n63, n64, n65, n66, n67, n68, n69, n70, n71, n72, n73, n74, n75, n76, n77, n78, n79, n80, n81, n82, n83, n84, n85, n86, n87, r0, r1, r10, r11, r12, r13, r14, r15, r16, r18, r19, r20, r21, r22, r23, r24, r25, r26, r29, r30, r31, r32, r33, r34, r35, r36, r37, r38, r39, r40, r42, r43, r44, r46, r47, r48, r49, r50, r51, r52, r53, r54, r55, r56, r57, r58, r59, r60, r61, r62, r63, r64, r65, r66, r67, r68, r69, r70, r71, r72, r73, r74, r75, r76, r77, r78, r79, r80, r81, r82, r83, r84, r85, r86, r87, w10, w11, w12, w13, w18, w19, w20, w21, w22, w23, w24, w25, w26, w30, w31, w32, w33, w34, w35, w36, w38, w39, w40, w43, w44, w46, w47, w48, w49, w50, w51, w52, w53, w54, w55, w56, w57, w58, w59, w60, w61, w62, w63, w64, w65, w66, w67, w68, w69, w70, w71, w72, w73, w74, w75, w76, w77, w78, w79, w80, w81, w82, w83, w84, w85, w86, w87, hi_hit, hi_row, hi_col, hj_hit, hj_row, hj_col, hi_sj, hj_si, hq_si, hq_sj, hi_sq, hj_sq, hi_srh, hi_srm]
  · intro hk'
    rw [if_neg hk'] at kd2
    have np : (-1 : Int32) < 0 := by decide
    obtain ⟨g3, b1', b2', b3'⟩ := m_must0 a3.1 (v := 0) rfl
    have X3 := b3'.1.1
    have gb3 := m_bad b3'
    refine ⟨g3, ?_, (f1.trans a2).trans (EF.of b2' (by decide) (by decide)), b3'⟩
    simp (disch := (first | assumption | (simp only [FX_si, FX_sj, FX_sr, WX_si, WX_sj, WX_sr, FK_si, FK_sj, FK_sr]; assumption) | omega | decide)) only [is40, wd, n98, e27, c80, gd, nI_1, kd, a1, kd2, np, b1', gb3, ↓reduceIte, if_true, if_false, i10, i01, eq_self, wq7, wq8, wq9, wq10, wrc, wgi, wpi, wpz, wn1, wn2, wn3, wn4, wr1, wr2, wr3, wr4, ww1, ww2, ww3, ww4, fgi, fgq, fpi, frc, at18, at19, at21, at22, at23, at24, at25, at26, at_neg, wat1, wat2, wat3, wat4, reduceCtorEq, bd_some, b1_some, b2_some, b3_some, b4_some, c1_eq, elim_inl, elim_inr, zok0, zok1, getQ_si, getQ_sj, getQ_sr, q8_0, q8_1, q8_2, q8_4, q8_7, q8_8, q8_9, q8_10, q8_11, q9_0, q9_3, q9_4, q9_8, q17_0, q17_1, q17_2, q17_4, q17_5, q17_6, q17_9, q17_10, q17_11, q27_4, q27_5, q27_6, q27_7, q27_8, q27_11, q45_0, q45_1, q45_11, q45_12, q45_13, q45_14, q45_15, q45_16, q45_17, q45_18, q45_19, q45_20, q45_21, q45_22, q45_23, q45_24, q45_30, q45_31, q45_32, q45_33, q45_34, q45_35, q45_36, q45_37, q45_38, q45_39, q45_43, q45_44, q45_45, q45_46, q45_47, q45_48, q45_52, q45_53, q45_54, q45_59, q45_60, q45_61, q45_62, q45_65, q45_67, q45_68, gi8, gj8, pi8, pz8, pj8, rc8, gi9, gj9, pi9, pz9, pj9, rc9, gi17, gj17, pi17, pz17, pj17, rc17, gi27, gj27, pi27, pz27, pj27, rc27, gi45, gj45, pi45, pz45, pj45, rc45, aln_si, aln_sj, aln_sq, rc_si, rc_sj, rc_sq, n0, n1, n10, n11, n12, n13, n14, n15, n16, n18, n19, n20, n21, n22, n23, n24, n25, n26, n29, n30, n31, n32, n33, n34, n35, n36, n37, n38, n39, n40, n42, n43, n44, n46, n47, n48, n49, n50, n51, n52, n53, n54, n55, n56, n57, n58, n59, n60, n61, n62, n63, n64, n65, n66, n67, n68, n69, n70, n71, n72, n73, n74, n75, n76, n77, n78, n79, n80, n81, n82, n83, n84, n85, n86, n87, r0, r1, r10, r11, r12, r13, r14, r15, r16, r18, r19, r20, r21, r22, r23, r24, r25, r26, r29, r30, r31, r32, r33, r34, r35, r36, r37, r38, r39, r40, r42, r43, r44, r46, r47, r48, r49, r50, r51, r52, r53, r54, r55, r56, r57, r58, r59, r60, r61, r62, r63, r64, r65, r66, r67, r68, r69, r70, r71, r72, r73, r74, r75, r76, r77, r78, r79, r80, r81, r82, r83, r84, r85, r86, r87, w10, w11, w12, w13, w18, w19, w20, w21, w22, w23, w24, w25, w26, w30, w31, w32, w33, w34, w35, w36, w38, w39, w40, w43, w44, w46, w47, w48, w49, w50, w51, w52, w53, w54, w55, w56, w57, w58, w59, w60, w61, w62, w63, w64, w65, w66, w67, w68, w69, w70, w71, w72, w73, w74, w75, w76, w77, w78, w79, w80, w81, w82, w83, w84, w85, w86, w87, hi_hit, hi_row, hi_col, hj_hit, hj_row, hj_col, hi_sj, hj_si, hq_si, hq_sj, hi_sq, hj_sq, hi_srh, hi_srm]
end Mu
