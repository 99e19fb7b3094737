/-! The posts set; the banks' ends as posts; the spans written; what the class finds of a worker's sums. -/
/-- the weeks ahead of v have been gone through -/
def SPI (h : Hp) (ls ps : Nat → Bool) (T : Nat → Int) (v : Nat) (x : Int32) (g : Hp) : Prop :=
  Fr [21, 22, 23] [(17, 7), (17, 8)] h g ∧ x.toInt = ppS T (min v 104) ∧ hi g 17 8 = nI (ct' ps v) ∧
  (∀ u, u < 105 → hi g 21 u = if ps u = true then (if u < v then nI (ct' ps u) else 0) else -1) ∧
  (∀ u, u < v → ps u = true → (hi g 22 (ct' ps u)).toInt = ppS T u) ∧
  (0 ≤ (hi g 17 7).toInt ∧ (hi g 17 7).toInt ≤ 9999 * v) ∧ (∀ n, n ≤ 20 → psm (rmh g) n ≤ (hi g 17 7).toInt) ∧ (∀ i, i < 20 → 0 ≤ rmh g i ∧ rmh g i ≤ 9999 * v) ∧
  (∀ i, ct' ps v ≤ i → i < 20 → rmh g i = 0) ∧
  (∀ u, u < v → ps u = true → ct' ps u + 1 = ct' ps v → rmh g (ct' ps u) = cpC ls (min v 104) - cpC ls u) ∧
  ∀ u u', u < u' → u' < v → ps u = true → ps u' = true → ct' ps u' = ct' ps u + 1 → rmh g (ct' ps u) = cpC ls u' - cpC ls u
theorem ppS_bd {T : Nat → Int} (hT : ∀ u, u < 104 → 0 ≤ T u ∧ T u ≤ 50000) : ∀ v, v ≤ 104 → 0 ≤ ppS T v ∧ ppS T v ≤ 50000 * v
  | 0, _ => ⟨Int.le_refl _, Int.le_refl _⟩
  | v + 1, h => by
    have := ppS_bd hT v (by omega)
    have := hT v (by omega)
    show 0 ≤ ppS T v + T v ∧ ppS T v + T v ≤ _
    omega
section Sx
variable {h : Hp} {a : Nat} {pd : Nat → Nat → Int32} {ls ps : Nat → Bool} {T : Nat → Int}
theorem c_setPosts (X : FX h) (W : WX h a) (hpd : ∀ i u, i < 6 → u < 104 → hi h (a + 1) (i * 104 + u) = pd i u) (hls : ∀ u, u < 104 → hi h (a + 2) u = if ls u = true then 1 else 0)
    (hT : ∀ u, u < 104 → (pd 0 u + pd 1 u + pd 2 u + pd 3 u + pd 4 u).toInt = T u) (hTb : ∀ u, u < 104 → 0 ≤ T u ∧ T u ≤ 50000) (hps : ct' ps 105 ≤ 20) (h21 : ∀ v, v < 105 → hi h 21 v = if ps v = true then 0 else -1) :
    ∃ g x, f_X6_setPosts 17 (some a) h = some g ∧ SPI h ls ps T 105 x g := by
  have ha := W.1
  have fr1 : Fr [21, 22, 23] [(17, 7), (17, 8)] h (si (si h 17 8 0) 17 7 0) := (Fr.fld (by decide)).trans (Fr.fld (by decide))
  have X1 := fr1.fx X
  obtain ⟨g2, a1, a2, a3⟩ := fill_of (X1.kd (a := 23) (by decide) (by decide) rfl) (by decide) (by decide) (0 : Int32)
  have fr2 := fr1.trans (a2.wk (A' := [21, 22, 23]) (B' := [(17, 7), (17, 8)]) (by decide) (by decide))
  have ps0 : ∀ n, n ≤ 20 → psm (rmh g2) n = 0 := by
    intro n
    induction n with
    | zero => intro _; rfl
    | succ n ih =>
      intro hn
      show psm (rmh g2) n + rmh g2 n = 0
      rw [ih (by omega)]
      unfold rmh
      rw [a3 n (by omega)]
      rfl
  have e177 : hi g2 17 7 = 0 := by rw [a2.ei 7 (by decide) (by decide), hi_hit]
  have e178 : hi g2 17 8 = 0 := by rw [a2.ei 8 (by decide) (by decide), hi_col 17 _ (by decide), hi_hit]
  have start : SPI h ls ps T 0 0 g2 := by
    refine ⟨fr2, rfl, e178, fun u hu => ?_, fun u hu => absurd hu (Nat.not_lt_zero _), ?_, fun n hn => ?_, fun i hi' => ?_, fun i _ hi' => ?_, fun u hu => absurd hu (Nat.not_lt_zero _), fun u u' _ hu => absurd hu (Nat.not_lt_zero _)⟩
    · rw [a2.ei u (by decide) (by decide), hi_row _ _ _ (by decide), hi_row _ _ _ (by decide), h21 u hu, if_neg (Nat.not_lt_zero _)]
    · rw [e177]; exact ⟨Int.le_refl _, Int.le_refl _⟩
    · rw [ps0 n hn, e177]; exact Int.le_refl _
    · unfold rmh; rw [a3 i hi']; exact ⟨Int.le_refl _, Int.le_refl _⟩
    · unfold rmh; rw [a3 i hi']; rfl
  have key : ∃ g, f_X6_setPosts_L22 fu 17 (some a) 0 0 g2 = some g ∧ ∃ x, SPI h ls ps T 105 x g := by
    refine forN (fun n v (p : Int32 × Hp) => f_X6_setPosts_L22 n 17 (some a) p.1 v p.2) 105 (by omega) (fun v p => SPI h ls ps T v p.1 p.2) (fun g => ∃ x, SPI h ls ps T 105 x g) ?_ ?_ (i0 := 0) (s := (0, g2)) (Nat.zero_le _) start
    · rintro n ⟨x, g⟩ I
      have X3 := I.1.fx X
      refine ⟨g, ?_, x, I⟩
      simp only [L22_eq]
      simp (disch := (first | assumption | (simp only [FX_si, FX_sj, FX_sr, WX_si, WX_sj, WX_sr, FK_si, FK_sj, FK_sr]; assumption) | omega | decide)) only [↓reduceIte, if_true, if_false, i10, i01, eq_self, wq7, wq8, wq9, wq10, wrc, wgi, wpi, wpz, wn1, wn2, wn3, wn4, wr1, wr2, wr3, wr4, ww1, ww2, ww3, ww4, fgi, fgq, fpi, frc, at18, at19, at21, at22, at23, at24, at25, at26, at_neg, wat1, wat2, wat3, wat4, reduceCtorEq, bd_some, b1_some, b2_some, b3_some, b4_some, c1_eq, elim_inl, elim_inr, zok0, zok1, getQ_si, getQ_sj, getQ_sr, q8_0, q8_1, q8_2, q8_4, q8_7, q8_8, q8_9, q8_10, q8_11, q9_0, q9_3, q9_4, q9_8, q17_0, q17_1, q17_2, q17_4, q17_5, q17_6, q17_9, q17_10, q17_11, q27_4, q27_5, q27_6, q27_7, q27_8, q27_11, q45_0, q45_1, q45_11, q45_12, q45_13, q45_14, q45_15, q45_16, q45_17, q45_18, q45_19, q45_20, q45_21, q45_22, q45_23, q45_24, q45_30, q45_31, q45_32, q45_33, q45_34, q45_35, q45_36, q45_37, q45_38, q45_39, q45_43, q45_44, q45_45, q45_46, q45_47, q45_48, q45_52, q45_53, q45_54, q45_59, q45_60, q45_61, q45_62, q45_65, q45_67, q45_68, gi8, gj8, pi8, pz8, pj8, rc8, gi9, gj9, pi9, pz9, pj9, rc9, gi17, gj17, pi17, pz17, pj17, rc17, gi27, gj27, pi27, pz27, pj27, rc27, gi45, gj45, pi45, pz45, pj45, rc45, aln_si, aln_sj, aln_sq, rc_si, rc_sj, rc_sq, n0, n1, n10, n11, n12, n13, n14, n15, n16, n18, n19, n20, n21, n22, n23, n24, n25, n26, n29, n30, n31, n32, n33, n34, n35, n36, n37, n38, n39, n40, n42, n43, n44, n46, n47, n48, n49, n50, n51, n52, n53, n54, n55, n56, n57, n58, n59, n60, n61, n62, n63, n64, n65, n66, n67, n68, n69, n70, n71, n72, n73, n74, n75, n76, n77, n78, n79, n80, n81, n82, n83, n84, n85, n86, n87, r0, r1, r10, r11, r12, r13, r14, r15, r16, r18, r19, r20, r21, r22, r23, r24, r25, r26, r29, r30, r31, r32, r33, r34, r35, r36, r37, r38, r39, r40, r42, r43, r44, r46, r47, r48, r49, r50, r51, r52, r53, r54, r55, r56, r57, r58, r59, r60, r61, r62, r63, r64, r65, r66, r67, r68, r69, r70, r71, r72, r73, r74, r75, r76, r77, r78, r79, r80, r81, r82, r83, r84, r85, r86, r87, w10, w11, w12, w13, w18, w19, w20, w21, w22, w23, w24, w25, w26, w30, w31, w32, w33, w34, w35, w36, w38, w39, w40, w43, w44, w46, w47, w48, w49, w50, w51, w52, w53, w54, w55, w56, w57, w58, w59, w60, w61, w62, w63, w64, w65, w66, w67, w68, w69, w70, w71, w72, w73, w74, w75, w76, w77, w78, w79, w80, w81, w82, w83, w84, w85, w86, w87, hi_hit, hi_row, hi_col, hj_hit, hj_row, hj_col, hi_sj, hj_si, hq_si, hq_sj, hi_sq, hj_sq, hi_srh, hi_srm]
      rw [if_pos (Int32.le_refl _)]
    · rintro n v ⟨x, g⟩ hv ⟨J1, J2, J3, J4, J5, J6, J7, J8, J9, J10, J11⟩
      simp only at J1 J2 J3 J4 J5 J6 J7 J8 J9 J10 J11
      have X3 := J1.fx X
      have W3 := W.fr J1
      have hp20 : ps v = true → ct' ps v < 20 := fun q => by
        have := ct'_hit q (show v < 105 by omega)
        omega
      have hc20 : ct' ps (v + 1) ≤ 20 := Nat.le_trans (ct'_up ps (show v + 1 ≤ 105 by omega)) hps
      have cs := ct'_s ps v
      have e16 : hi g 21 v = if ps v = true then 0 else -1 := by rw [J4 v hv, if_neg (Nat.lt_irrefl v)]
      have s1 := c_sp1 X3 hv (ps v) hp20 J3 x
      obtain ⟨g1, eg1⟩ : ∃ g1, g1 = (if ps v = true then si (si (si g 22 (ct' ps v) x) 21 v (nI (ct' ps v))) 17 8 (nI (ct' ps v + 1)) else g) := ⟨_, rfl⟩
      rw [← eg1] at s1
      have fr4 : Fr [21, 22, 23] [(17, 7), (17, 8)] g g1 := by
        rw [eg1]
        split
        · exact ((Fr.row (by decide)).trans (Fr.row (by decide))).trans (Fr.fld (by decide))
        · exact Fr.rfl
      have X4 := fr4.fx X3
      have W4 := W3.fr fr4
      have k178 : hi g1 17 8 = nI (ct' ps (v + 1)) := by
        rw [eg1, cs]
        split
        · rw [hi_hit]
        · exact J3
      have k177 : hi g1 17 7 = hi g 17 7 := by
        rw [eg1]
        split
        · rw [hi_col 17 _ (by decide), hi_row _ _ _ (by decide), hi_row _ _ _ (by decide)]
        · rfl
      have k23 : ∀ i, hi g1 23 i = hi g 23 i := fun i => by
        rw [eg1]
        split
        · rw [hi_row _ _ _ (by decide), hi_row _ _ _ (by decide), hi_row _ _ _ (by decide)]
        · rfl
      have k21 : ∀ u, u < 105 → hi g1 21 u = if ps u = true then (if u < v + 1 then nI (ct' ps u) else 0) else -1 := fun u hu => by
        rw [eg1]
        by_cases e : u = v
        · subst e
          by_cases q : ps u = true
          · rw [if_pos q, if_pos q, if_pos (Nat.lt_succ_self u), hi_row _ _ _ (by decide), hi_hit]
          · rw [if_neg q, if_neg q, J4 u hu, if_neg q]
        · have hold := J4 u hu
          have e1 : (if u < v then nI (ct' ps u) else 0) = if u < v + 1 then nI (ct' ps u) else 0 := by
            by_cases z : u < v
            · rw [if_pos z, if_pos (by omega)]
            · rw [if_neg z, if_neg (by omega)]
          rw [e1] at hold
          split
          · rw [hi_row _ _ _ (by decide), hi_col 21 _ e, hi_row _ _ _ (by decide)]; exact hold
          · exact hold
      have k22 : ∀ u, u < v + 1 → ps u = true → (hi g1 22 (ct' ps u)).toInt = ppS T u := fun u hu q => by
        by_cases e : u = v
        · subst e
          rw [eg1, if_pos q, hi_row _ _ _ (by decide), hi_row _ _ _ (by decide), hi_hit, J2, Nat.min_eq_left (by omega)]
        · have c1 := ct'_hit q (show u < v by omega)
          have hold := J5 u (by omega) q
          rw [eg1]
          split
          · rw [hi_row _ _ _ (by decide), hi_row _ _ _ (by decide), hi_col 22 _ (by omega)]; exact hold
          · exact hold
      have ea : f_X8_at (some (a + 2)) (nI v) g1 = some (if (decide (v < 104) && ls v) = true then 1 else 0, g1) := by
        by_cases c : v < 104
        · have e2 : hi g1 (a + 2) v = if ls v = true then 1 else 0 := by
            rw [fr4.2.2.1 (a + 2) v (by simp; omega) (by simp; omega), J1.2.2.1 (a + 2) v (by simp; omega) (by simp; omega)]
            exact hls v c
          rw [wat2 W4 c, e2]
          simp [c]
        · rw [at_out W4.2.2.2.1 (by omega) (by omega)]
          simp [c]
      have s2 := c_sp2 (v := v) X4 W4 hc20 k178 (decide (v < 104) && ls v) ea
      obtain ⟨lo, elo⟩ : ∃ lo : Bool, lo = (decide (v < 104) && ls v) := ⟨_, rfl⟩
      rw [← elo] at s2
      obtain ⟨g5, eg5⟩ : ∃ g5, g5 = (if lo = true ∧ 0 < ct' ps (v + 1) then si (si g1 23 (ct' ps (v + 1) - 1) (hi g1 23 (ct' ps (v + 1) - 1) + 9999)) 17 7 (hi g1 17 7 + 9999) else g1) := ⟨_, rfl⟩
      rw [← eg5] at s2
      have fr5 : Fr [21, 22, 23] [(17, 7), (17, 8)] g1 g5 := by
        rw [eg5]
        split
        · exact (Fr.row (by decide)).trans (Fr.fld (by decide))
        · exact Fr.rfl
      have fr15 := (J1.trans fr4).trans fr5
      have W5 := W4.fr fr5
      obtain ⟨t, s3, et⟩ := c_sp3 (v := v) (pd := pd) (T := T) W5 hv (fun i u hi' hu => by rw [fr15.2.2.1 (a + 1) _ (by simp; omega) (by simp; omega)]; exact hpd i u hi' hu) hT
      have m23 : ∀ i, i < 20 → rmh g5 i = rmh g i + (if (lo = true ∧ 0 < ct' ps (v + 1)) ∧ i = ct' ps (v + 1) - 1 then 9999 else 0) := fun i hi' => by
        have b8 := J8 i hi'
        unfold rmh at b8 ⊢
        rw [eg5]
        by_cases c : lo = true ∧ 0 < ct' ps (v + 1)
        · rw [if_pos c, hi_row _ _ _ (by decide)]
          by_cases e : i = ct' ps (v + 1) - 1
          · rw [if_pos ⟨c, e⟩, ← e, hi_hit, k23, i_add (by rw [show (9999 : Int32).toInt = 9999 from rfl]; omega) (by rw [show (9999 : Int32).toInt = 9999 from rfl]; omega)]
            rfl
          · rw [if_neg (fun q => e q.2), hi_col 23 _ e, k23]
            omega
        · rw [if_neg c, if_neg (fun q => c q.1), k23]
          omega
      have m177 : (hi g5 17 7).toInt = (hi g 17 7).toInt + (if lo = true ∧ 0 < ct' ps (v + 1) then 9999 else 0) := by
        rw [eg5]
        by_cases c : lo = true ∧ 0 < ct' ps (v + 1)
        · rw [if_pos c, if_pos c, hi_hit, k177, i_add (by rw [show (9999 : Int32).toInt = 9999 from rfl]; omega) (by rw [show (9999 : Int32).toInt = 9999 from rfl]; omega)]
          rfl
        · rw [if_neg c, if_neg c, k177]
          omega
      have o21 : ∀ u, hi g5 21 u = hi g1 21 u := fun u => by
        rw [eg5]
        split
        · rw [hi_row _ _ _ (by decide), hi_row _ _ _ (by decide)]
        · rfl
      have o22 : ∀ u, hi g5 22 u = hi g1 22 u := fun u => by
        rw [eg5]
        split
        · rw [hi_row _ _ _ (by decide), hi_row _ _ _ (by decide)]
        · rfl
      have o178 : hi g5 17 8 = hi g1 17 8 := by
        rw [eg5]
        split
        · rw [hi_col 17 _ (by decide), hi_row _ _ _ (by decide)]
        · rfl
      have cpm : cpC ls (min (v + 1) 104) = cpC ls (min v 104) + (if lo = true then 9999 else 0) := by
        by_cases c : v < 104
        · rw [Nat.min_eq_left (by omega), Nat.min_eq_left (by omega), cpC_s, elo, decide_eq_true c, Bool.true_and]
        · rw [Nat.min_eq_right (by omega), Nat.min_eq_right (by omega), elo, decide_eq_false c, Bool.false_and, if_neg (by decide)]
          omega
      have pb := ppS_bd hTb (min v 104) (by omega)
      refine Or.inr ⟨(x + t, g5), ?_, fr15, ?_, ?_, fun u hu => ?_, fun u hu q => ?_, ?_, fun n hn => ?_, fun i hi' => ?_, fun i h1 h2 => ?_, fun u hu q h1 => ?_, fun u u' h1 h2 q1 q2 h3 => ?_⟩
      · simp only [L22_eq]
        have n1 : ¬ nI 105 ≤ nI v := by rw [nI_leI (by omega) (by omega)]; omega
        simp (disch := (first | assumption | (simp only [FX_si, FX_sj, FX_sr, WX_si, WX_sj, WX_sr, FK_si, FK_sj, FK_sr]; assumption) | omega | decide)) only [n1, e16, s1, k178, s2, s3, nI_1, ↓reduceIte, if_true, if_false, i10, i01, eq_self, wq7, wq8, wq9, wq10, wrc, wgi, wpi, wpz, wn1, wn2, wn3, wn4, wr1, wr2, wr3, wr4, ww1, ww2, ww3, ww4, fgi, fgq, fpi, frc, at18, at19, at21, at22, at23, at24, at25, at26, at_neg, wat1, wat2, wat3, wat4, reduceCtorEq, bd_some, b1_some, b2_some, b3_some, b4_some, c1_eq, elim_inl, elim_inr, zok0, zok1, getQ_si, getQ_sj, getQ_sr, q8_0, q8_1, q8_2, q8_4, q8_7, q8_8, q8_9, q8_10, q8_11, q9_0, q9_3, q9_4, q9_8, q17_0, q17_1, q17_2, q17_4, q17_5, q17_6, q17_9, q17_10, q17_11, q27_4, q27_5, q27_6, q27_7, q27_8, q27_11, q45_0, q45_1, q45_11, q45_12, q45_13, q45_14, q45_15, q45_16, q45_17, q45_18, q45_19, q45_20, q45_21, q45_22, q45_23, q45_24, q45_30, q45_31, q45_32, q45_33, q45_34, q45_35, q45_36, q45_37, q45_38, q45_39, q45_43, q45_44, q45_45, q45_46, q45_47, q45_48, q45_52, q45_53, q45_54, q45_59, q45_60, q45_61, q45_62, q45_65, q45_67, q45_68, gi8, gj8, pi8, pz8, pj8, rc8, gi9, gj9, pi9, pz9, pj9, rc9, gi17, gj17, pi17, pz17, pj17, rc17, gi27, gj27, pi27, pz27, pj27, rc27, gi45, gj45, pi45, pz45, pj45, rc45, aln_si, aln_sj, aln_sq, rc_si, rc_sj, rc_sq, n0, n1, n10, n11, n12, n13, n14, n15, n16, n18, n19, n20, n21, n22, n23, n24, n25, n26, n29, n30, n31, n32, n33, n34, n35, n36, n37, n38, n39, n40, n42, n43, n44, n46, n47, n48, n49, n50, n51, n52, n53, n54, n55, n56, n57, n58, n59, n60, n61, n62, n63, n64, n65, n66, n67, n68, n69, n70, n71, n72, n73, n74, n75, n76, n77, n78, n79, n80, n81, n82, n83, n84, n85, n86, n87, r0, r1, r10, r11, r12, r13, r14, r15, r16, r18, r19, r20, r21, r22, r23, r24, r25, r26, r29, r30, r31, r32, r33, r34, r35, r36, r37, r38, r39, r40, r42, r43, r44, r46, r47, r48, r49, r50, r51, r52, r53, r54, r55, r56, r57, r58, r59, r60, r61, r62, r63, r64, r65, r66, r67, r68, r69, r70, r71, r72, r73, r74, r75, r76, r77, r78, r79, r80, r81, r82, r83, r84, r85, r86, r87, w10, w11, w12, w13, w18, w19, w20, w21, w22, w23, w24, w25, w26, w30, w31, w32, w33, w34, w35, w36, w38, w39, w40, w43, w44, w46, w47, w48, w49, w50, w51, w52, w53, w54, w55, w56, w57, w58, w59, w60, w61, w62, w63, w64, w65, w66, w67, w68, w69, w70, w71, w72, w73, w74, w75, w76, w77, w78, w79, w80, w81, w82, w83, w84, w85, w86, w87, hi_hit, hi_row, hi_col, hj_hit, hj_row, hj_col, hi_sj, hj_si, hq_si, hq_sj, hi_sq, hj_sq, hi_srh, hi_srm]
      · simp only
        by_cases c : v < 104
        · rw [if_pos c] at et
          have tb := hTb v c
          rw [i_add (by omega) (by omega), J2, et, Nat.min_eq_left (by omega), Nat.min_eq_left (by omega)]
          rfl
        · rw [if_neg c] at et
          rw [i_add (by omega) (by omega), J2, et, Nat.min_eq_right (by omega), Nat.min_eq_right (by omega)]
          omega
      · exact o178.trans k178
      · rw [o21]; exact k21 u hu
      · rw [o22]; exact k22 u hu q
      · simp only
        rw [m177]
        split <;> omega
      · simp only
        have e : ∀ n, n ≤ 20 → psm (rmh g5) n = psm (fun i => rmh g i + (if (lo = true ∧ 0 < ct' ps (v + 1)) ∧ i = ct' ps (v + 1) - 1 then 9999 else 0)) n := by
          intro n
          induction n with
          | zero => intro _; rfl
          | succ n ih =>
            intro hn
            show psm (rmh g5) n + rmh g5 n = psm _ n + _
            rw [ih (by omega), m23 n (by omega)]
        have b7 := J7 n hn
        rw [e n hn, psm_add, m177]
        by_cases c : lo = true ∧ 0 < ct' ps (v + 1)
        · rw [if_pos c]
          split <;> omega
        · rw [if_neg c, if_neg (fun q => c q.1)]
          omega
      · simp only
        have b8 := J8 i hi'
        rw [m23 i hi']
        split <;> omega
      · simp only at h1 ⊢
        have b9 := J9 i (by have := ct'_up ps (Nat.le_succ v); omega) h2
        rw [m23 i h2, b9, if_neg (fun z => by have := z.1.2; have := z.2; omega)]
        omega
      · simp only at hu h1 ⊢
        have c1 := ct'_hit q hu
        have cl : ct' ps u < 20 := by omega
        rw [m23 _ cl, cpm]
        have ci : ((lo = true ∧ 0 < ct' ps (v + 1)) ∧ ct' ps u = ct' ps (v + 1) - 1) ↔ lo = true := ⟨fun z => z.1.1, fun z => ⟨⟨z, by omega⟩, by omega⟩⟩
        have e1 : (if (lo = true ∧ 0 < ct' ps (v + 1)) ∧ ct' ps u = ct' ps (v + 1) - 1 then (9999 : Int) else 0) = if lo = true then 9999 else 0 := by
          by_cases z : lo = true
          · rw [if_pos z, if_pos (ci.mpr z)]
          · rw [if_neg z, if_neg (fun y => z (ci.mp y))]
        rw [e1]
        by_cases e : u = v
        · subst e
          rw [J9 _ (Nat.le_refl _) cl, Nat.min_eq_left (by omega)]
          omega
        · have c2 := ct'_hit q (show u < v by omega)
          have nps : ¬ ps v = true := fun z => by rw [if_pos z] at cs; omega
          rw [if_neg nps] at cs
          rw [J10 u (by omega) q (by omega)]
          omega
      · simp only at h2 ⊢
        have c1 := ct'_hit q2 h2
        have cl : ct' ps u < 20 := by omega
        rw [m23 _ cl, if_neg (fun z => by have := z.2; omega)]
        by_cases e : u' = v
        · subst e
          rw [J10 u h1 q1 h3.symm, Nat.min_eq_left (by omega)]
          omega
        · rw [J11 u u' h1 (by omega) q1 q2 h3]
          omega
  obtain ⟨g, b1', x, b2'⟩ := key
  refine ⟨g, x, ?_, b2'⟩
  unfold f_X6_setPosts
  simp (disch := (first | assumption | (simp only [FX_si, FX_sj, FX_sr, WX_si, WX_sj, WX_sr, FK_si, FK_sj, FK_sr]; assumption) | omega | decide)) only [a1, b1', ↓reduceIte, if_true, if_false, i10, i01, eq_self, wq7, wq8, wq9, wq10, wrc, wgi, wpi, wpz, wn1, wn2, wn3, wn4, wr1, wr2, wr3, wr4, ww1, ww2, ww3, ww4, fgi, fgq, fpi, frc, at18, at19, at21, at22, at23, at24, at25, at26, at_neg, wat1, wat2, wat3, wat4, reduceCtorEq, bd_some, b1_some, b2_some, b3_some, b4_some, c1_eq, elim_inl, elim_inr, zok0, zok1, getQ_si, getQ_sj, getQ_sr, q8_0, q8_1, q8_2, q8_4, q8_7, q8_8, q8_9, q8_10, q8_11, q9_0, q9_3, q9_4, q9_8, q17_0, q17_1, q17_2, q17_4, q17_5, q17_6, q17_9, q17_10, q17_11, q27_4, q27_5, q27_6, q27_7, q27_8, q27_11, q45_0, q45_1, q45_11, q45_12, q45_13, q45_14, q45_15, q45_16, q45_17, q45_18, q45_19, q45_20, q45_21, q45_22, q45_23, q45_24, q45_30, q45_31, q45_32, q45_33, q45_34, q45_35, q45_36, q45_37, q45_38, q45_39, q45_43, q45_44, q45_45, q45_46, q45_47, q45_48, q45_52, q45_53, q45_54, q45_59, q45_60, q45_61, q45_62, q45_65, q45_67, q45_68, gi8, gj8, pi8, pz8, pj8, rc8, gi9, gj9, pi9, pz9, pj9, rc9, gi17, gj17, pi17, pz17, pj17, rc17, gi27, gj27, pi27, pz27, pj27, rc27, gi45, gj45, pi45, pz45, pj45, rc45, aln_si, aln_sj, aln_sq, rc_si, rc_sj, rc_sq, n0, n1, n10, n11, n12, n13, n14, n15, n16, n18, n19, n20, n21, n22, n23, n24, n25, n26, n29, n30, n31, n32, n33, n34, n35, n36, n37, n38, n39, n40, n42, n43, n44, n46, n47, n48, n49, n50, n51, n52, n53, n54, n55, n56, n57, n58, n59, n60, n61, n62, n63, n64, n65, n66, n67, n68, n69, n70, n71, n72, n73, n74, n75, n76, n77, n78, n79, n80, n81, n82, n83, n84, n85, n86, n87, r0, r1, r10, r11, r12, r13, r14, r15, r16, r18, r19, r20, r21, r22, r23, r24, r25, r26, r29, r30, r31, r32, r33, r34, r35, r36, r37, r38, r39, r40, r42, r43, r44, r46, r47, r48, r49, r50, r51, r52, r53, r54, r55, r56, r57, r58, r59, r60, r61, r62, r63, r64, r65, r66, r67, r68, r69, r70, r71, r72, r73, r74, r75, r76, r77, r78, r79, r80, r81, r82, r83, r84, r85, r86, r87, w10, w11, w12, w13, w18, w19, w20, w21, w22, w23, w24, w25, w26, w30, w31, w32, w33, w34, w35, w36, w38, w39, w40, w43, w44, w46, w47, w48, w49, w50, w51, w52, w53, w54, w55, w56, w57, w58, w59, w60, w61, w62, w63, w64, w65, w66, w67, w68, w69, w70, w71, w72, w73, w74, w75, w76, w77, w78, w79, w80, w81, w82, w83, w84, w85, w86, w87, hi_hit, hi_row, hi_col, hj_hit, hj_row, hj_col, hi_sj, hj_si, hq_si, hq_sj, hi_sq, hj_sq, hi_srh, hi_srm]
theorem c_spread13 {g : Hp} (X : FX g) {bc : Nat} {bA bE : Nat → Nat} {bT : Nat → Int} (q1 : Option Nat) (hbc : bc ≤ 10) (e3 : hi g 17 3 = nI bc) (hb : ∀ b, b < bc → hi g 18 b = nI (bA b) ∧ hi g 19 b = nI (bE b) ∧ (hi g 20 b).toInt = bT b ∧ bA b < bE b ∧ bE b < 105 ∧ ps (bA b) = true ∧ ps (bE b) = true ∧ 0 ≤ bT b ∧ bT b ≤ 999999)
    (hps : ct' ps 105 ≤ 20) (h21 : ∀ u, u < 105 → hi g 21 u = if ps u = true then nI (ct' ps u) else -1) (h22 : ∀ u, u < 105 → ps u = true → (hi g 22 (ct' ps u)).toInt = ppS T u) (hTb : ∀ u, u < 104 → 0 ≤ T u ∧ T u ≤ 50000) :
    ∃ g', f_X6_spread_L13 fu 17 q1 0 g = some g' ∧ Fr [18, 19, 20] [] g g' ∧ ∀ b, b < bc → hi g' 18 b = nI (ct' ps (bA b)) ∧ hi g' 19 b = nI (ct' ps (bE b)) ∧ (hi g' 20 b).toInt = bT b - (ppS T (bE b) - ppS T (bA b)) := by
  refine forN (fun n v g => f_X6_spread_L13 n 17 q1 v g) bc (by omega) (fun c g' => Fr [18, 19, 20] [] g g' ∧ (∀ b, b < c → hi g' 18 b = nI (ct' ps (bA b)) ∧ hi g' 19 b = nI (ct' ps (bE b)) ∧ (hi g' 20 b).toInt = bT b - (ppS T (bE b) - ppS T (bA b))) ∧ ∀ b, c ≤ b → hi g' 18 b = hi g 18 b ∧ hi g' 19 b = hi g 19 b ∧ hi g' 20 b = hi g 20 b) (fun g' => Fr [18, 19, 20] [] g g' ∧ ∀ b, b < bc → hi g' 18 b = nI (ct' ps (bA b)) ∧ hi g' 19 b = nI (ct' ps (bE b)) ∧ (hi g' 20 b).toInt = bT b - (ppS T (bE b) - ppS T (bA b))) ?_ ?_ (i0 := 0) (Nat.zero_le _) ⟨Fr.rfl, fun b hb => absurd hb (Nat.not_lt_zero _), fun _ _ => ⟨rfl, rfl, rfl⟩⟩
  · rintro n g1 ⟨I1, I2, -⟩
    have X1 := I1.fx X
    refine ⟨g1, ?_, I1, I2⟩
    have e : hi g1 17 3 = nI bc := by rw [I1.ei 3 (by decide) (by decide)]; exact e3
    simp only [f_X6_spread_L13.eq_2]
    simp (disch := (first | assumption | (simp only [FX_si, FX_sj, FX_sr, WX_si, WX_sj, WX_sr, FK_si, FK_sj, FK_sr]; assumption) | omega | decide)) only [e, ↓reduceIte, if_true, if_false, i10, i01, eq_self, wq7, wq8, wq9, wq10, wrc, wgi, wpi, wpz, wn1, wn2, wn3, wn4, wr1, wr2, wr3, wr4, ww1, ww2, ww3, ww4, fgi, fgq, fpi, frc, at18, at19, at21, at22, at23, at24, at25, at26, at_neg, wat1, wat2, wat3, wat4, reduceCtorEq, bd_some, b1_some, b2_some, b3_some, b4_some, c1_eq, elim_inl, elim_inr, zok0, zok1, getQ_si, getQ_sj, getQ_sr, q8_0, q8_1, q8_2, q8_4, q8_7, q8_8, q8_9, q8_10, q8_11, q9_0, q9_3, q9_4, q9_8, q17_0, q17_1, q17_2, q17_4, q17_5, q17_6, q17_9, q17_10, q17_11, q27_4, q27_5, q27_6, q27_7, q27_8, q27_11, q45_0, q45_1, q45_11, q45_12, q45_13, q45_14, q45_15, q45_16, q45_17, q45_18, q45_19, q45_20, q45_21, q45_22, q45_23, q45_24, q45_30, q45_31, q45_32, q45_33, q45_34, q45_35, q45_36, q45_37, q45_38, q45_39, q45_43, q45_44, q45_45, q45_46, q45_47, q45_48, q45_52, q45_53, q45_54, q45_59, q45_60, q45_61, q45_62, q45_65, q45_67, q45_68, gi8, gj8, pi8, pz8, pj8, rc8, gi9, gj9, pi9, pz9, pj9, rc9, gi17, gj17, pi17, pz17, pj17, rc17, gi27, gj27, pi27, pz27, pj27, rc27, gi45, gj45, pi45, pz45, pj45, rc45, aln_si, aln_sj, aln_sq, rc_si, rc_sj, rc_sq, n0, n1, n10, n11, n12, n13, n14, n15, n16, n18, n19, n20, n21, n22, n23, n24, n25, n26, n29, n30, n31, n32, n33, n34, n35, n36, n37, n38, n39, n40, n42, n43, n44, n46, n47, n48, n49, n50, n51, n52, n53, n54, n55, n56, n57, n58, n59, n60, n61, n62, n63, n64, n65, n66, n67, n68, n69, n70, n71, n72, n73, n74, n75, n76, n77, n78, n79, n80, n81, n82, n83, n84, n85, n86, n87, r0, r1, r10, r11, r12, r13, r14, r15, r16, r18, r19, r20, r21, r22, r23, r24, r25, r26, r29, r30, r31, r32, r33, r34, r35, r36, r37, r38, r39, r40, r42, r43, r44, r46, r47, r48, r49, r50, r51, r52, r53, r54, r55, r56, r57, r58, r59, r60, r61, r62, r63, r64, r65, r66, r67, r68, r69, r70, r71, r72, r73, r74, r75, r76, r77, r78, r79, r80, r81, r82, r83, r84, r85, r86, r87, w10, w11, w12, w13, w18, w19, w20, w21, w22, w23, w24, w25, w26, w30, w31, w32, w33, w34, w35, w36, w38, w39, w40, w43, w44, w46, w47, w48, w49, w50, w51, w52, w53, w54, w55, w56, w57, w58, w59, w60, w61, w62, w63, w64, w65, w66, w67, w68, w69, w70, w71, w72, w73, w74, w75, w76, w77, w78, w79, w80, w81, w82, w83, w84, w85, w86, w87, hi_hit, hi_row, hi_col, hj_hit, hj_row, hj_col, hi_sj, hj_si, hq_si, hq_sj, hi_sq, hj_sq, hi_srh, hi_srm]
    rw [if_pos (Int32.le_refl _)]
  · rintro n b g1 hb' ⟨I1, I2, I3⟩
    have X1 := I1.fx X
    have e : hi g1 17 3 = nI bc := by rw [I1.ei 3 (by decide) (by decide)]; exact e3
    obtain ⟨q1', q2, q3, q4, q5, q6, q7, q8, q9⟩ := hb b hb'
    obtain ⟨o1, o2, o3⟩ := I3 b (Nat.le_refl _)
    rw [q1'] at o1
    rw [q2] at o2
    have n1 : ¬ nI bc ≤ nI b := by rw [nI_leI (by omega) (by omega)]; omega
    have n2 : ¬ nI 10 ≤ nI b := by rw [nI_leI (by omega) (by omega)]; omega
    have hb10 : b < 10 := by omega
    have hA105 : bA b < 105 := by omega
    have cA := ct'_hit q6 (show bA b < 105 by omega)
    have cE := ct'_hit q7 (show bE b < 105 by omega)
    have cA20 : ct' ps (bA b) < 20 := by omega
    have cE20 : ct' ps (bE b) < 20 := by omega
    have p1 : hi g1 21 (bA b) = nI (ct' ps (bA b)) := by rw [I1.ei _ (by decide) (by decide), h21 _ (by omega), if_pos q6]
    have p2 : hi g1 21 (bE b) = nI (ct' ps (bE b)) := by rw [I1.ei _ (by decide) (by decide), h21 _ (by omega), if_pos q7]
    have p3 : (hi g1 22 (ct' ps (bA b))).toInt = ppS T (bA b) := by rw [I1.ei _ (by decide) (by decide)]; exact h22 _ (by omega) q6
    have p4 : (hi g1 22 (ct' ps (bE b))).toInt = ppS T (bE b) := by rw [I1.ei _ (by decide) (by decide)]; exact h22 _ (by omega) q7
    have b1' := ppS_bd hTb (bA b) (by omega)
    have b2' := ppS_bd hTb (bE b) (by omega)
    have o3' : (hi g1 20 b).toInt = bT b := by rw [o3]; exact q3
    refine Or.inr ⟨si (si (si g1 18 b (nI (ct' ps (bA b)))) 19 b (nI (ct' ps (bE b)))) 20 b (hi g1 20 b - (hi g1 22 (ct' ps (bE b)) - hi g1 22 (ct' ps (bA b)))), ?_, I1.trans (((Fr.row (by decide)).trans (Fr.row (by decide))).trans (Fr.row (by decide))), fun c hc => ?_, fun c hc => ?_⟩
    · simp only [f_X6_spread_L13.eq_2]
      simp (disch := (first | assumption | (simp only [FX_si, FX_sj, FX_sr, WX_si, WX_sj, WX_sr, FK_si, FK_sj, FK_sr]; assumption) | omega | decide)) only [e, n1, n2, o1, o2, p1, p2, nI_1, ↓reduceIte, if_true, if_false, i10, i01, eq_self, wq7, wq8, wq9, wq10, wrc, wgi, wpi, wpz, wn1, wn2, wn3, wn4, wr1, wr2, wr3, wr4, ww1, ww2, ww3, ww4, fgi, fgq, fpi, frc, at18, at19, at21, at22, at23, at24, at25, at26, at_neg, wat1, wat2, wat3, wat4, reduceCtorEq, bd_some, b1_some, b2_some, b3_some, b4_some, c1_eq, elim_inl, elim_inr, zok0, zok1, getQ_si, getQ_sj, getQ_sr, q8_0, q8_1, q8_2, q8_4, q8_7, q8_8, q8_9, q8_10, q8_11, q9_0, q9_3, q9_4, q9_8, q17_0, q17_1, q17_2, q17_4, q17_5, q17_6, q17_9, q17_10, q17_11, q27_4, q27_5, q27_6, q27_7, q27_8, q27_11, q45_0, q45_1, q45_11, q45_12, q45_13, q45_14, q45_15, q45_16, q45_17, q45_18, q45_19, q45_20, q45_21, q45_22, q45_23, q45_24, q45_30, q45_31, q45_32, q45_33, q45_34, q45_35, q45_36, q45_37, q45_38, q45_39, q45_43, q45_44, q45_45, q45_46, q45_47, q45_48, q45_52, q45_53, q45_54, q45_59, q45_60, q45_61, q45_62, q45_65, q45_67, q45_68, gi8, gj8, pi8, pz8, pj8, rc8, gi9, gj9, pi9, pz9, pj9, rc9, gi17, gj17, pi17, pz17, pj17, rc17, gi27, gj27, pi27, pz27, pj27, rc27, gi45, gj45, pi45, pz45, pj45, rc45, aln_si, aln_sj, aln_sq, rc_si, rc_sj, rc_sq, n0, n1, n10, n11, n12, n13, n14, n15, n16, n18, n19, n20, n21, n22, n23, n24, n25, n26, n29, n30, n31, n32, n33, n34, n35, n36, n37, n38, n39, n40, n42, n43, n44, n46, n47, n48, n49, n50, n51, n52, n53, n54, n55, n56, n57, n58, n59, n60, n61, n62, n63, n64, n65, n66, n67, n68, n69, n70, n71, n72, n73, n74, n75, n76, n77, n78, n79, n80, n81, n82, n83, n84, n85, n86, n87, r0, r1, r10, r11, r12, r13, r14, r15, r16, r18, r19, r20, r21, r22, r23, r24, r25, r26, r29, r30, r31, r32, r33, r34, r35, r36, r37, r38, r39, r40, r42, r43, r44, r46, r47, r48, r49, r50, r51, r52, r53, r54, r55, r56, r57, r58, r59, r60, r61, r62, r63, r64, r65, r66, r67, r68, r69, r70, r71, r72, r73, r74, r75, r76, r77, r78, r79, r80, r81, r82, r83, r84, r85, r86, r87, w10, w11, w12, w13, w18, w19, w20, w21, w22, w23, w24, w25, w26, w30, w31, w32, w33, w34, w35, w36, w38, w39, w40, w43, w44, w46, w47, w48, w49, w50, w51, w52, w53, w54, w55, w56, w57, w58, w59, w60, w61, w62, w63, w64, w65, w66, w67, w68, w69, w70, w71, w72, w73, w74, w75, w76, w77, w78, w79, w80, w81, w82, w83, w84, w85, w86, w87, hi_hit, hi_row, hi_col, hj_hit, hj_row, hj_col, hi_sj, hj_si, hq_si, hq_sj, hi_sq, hj_sq, hi_srh, hi_srm]
    · by_cases z : c = b
      · subst z
        refine ⟨by rw [hi_row _ _ _ (by decide), hi_row _ _ _ (by decide), hi_hit], by rw [hi_row _ _ _ (by decide), hi_hit], ?_⟩
        have e1 : (hi g1 22 (ct' ps (bE c)) - hi g1 22 (ct' ps (bA c))).toInt = ppS T (bE c) - ppS T (bA c) := by rw [i_sub (by omega) (by omega), p3, p4]
        rw [hi_hit, i_sub (by omega) (by omega), e1, o3']
      · simp (disch := (first | assumption | omega | decide)) only [hi_hit, hi_row, hi_col, hj_hit, hj_row, hj_col, hi_sj, hj_si, hq_si, hq_sj, hi_sq, hj_sq, hi_srh, hi_srm, hj_sr, hq_sr, hq_hit, hq_row, hq_col]
        exact I2 c (by omega)
    · have z : c ≠ b := by omega
      simp (disch := (first | assumption | omega | decide)) only [hi_hit, hi_row, hi_col, hj_hit, hj_row, hj_col, hi_sj, hj_si, hq_si, hq_sj, hi_sq, hj_sq, hi_srh, hi_srm, hj_sr, hq_sr, hq_hit, hq_row, hq_col]
      exact I3 c (by omega)
/-- the last post ahead, or none -/
def pI (n : Nat) : Int32 := if n = 0 then -1 else nI (n - 1)
def lowf (g : Hp) (P n : Nat) : Int32 := if 0 < n ∧ n < P then mxI 0 (hi g 25 (n - 1) - (hi g 23 (n - 1) - 9999)) else 0
def higf (g : Hp) (P n : Nat) : Int32 := if 0 < n ∧ n < P then mnI 9999 (hi g 26 (n - 1)) else 9999
def ws1 (x6 v2 v3 : Int32) (h4 : Hp) : Option (Int32 × Hp) :=
  if x6 = ((-1) : Int32) then
    some (v2, h4)
  else
    (getQ h4 (some 17) 5 4).bind fun x13 =>
    b1 (f_X8_at x13 v3 h4) fun x17 h15 =>
    some (x17, h15)
def ws2 (x25 w18 v3 : Int32) (q1 : Option Nat) (h23 : Hp) : Option Hp :=
  if x25 = (0 : Int32) then
    some h23
  else
    b1 ((if w18 < (0 : Int32) then
        some (0, h23)
      else
        (getI h23 (some 17) 5 8).bind fun x82 =>
        if (x82 - (1 : Int32)) ≤ w18 then
          some (0, h23)
        else
          some (1, h23) : Option (Int32 × Hp))) fun w85 h86 =>
    (getQ h86 (some 17) 5 6).bind fun x88 =>
    b1 (f_X8_at x88 w18 h86) fun x92 h90 =>
    (getQ h90 q1 6 9).bind fun x93 =>
    b1 ((if w85 = (0 : Int32) then
        some (0, h90)
      else
        (getQ h90 (some 17) 5 10).bind fun x101 =>
        b1 (f_X8_at x101 w18 h90) fun x105 h103 =>
        some ((mxI (0 : Int32) (x105 - (x92 - (9999 : Int32)))), h103) : Option (Int32 × Hp))) fun w106 h107 =>
    (wrI h107 x93 v3 w106).bind fun h109 =>
    (getQ h109 q1 6 10).bind fun x111 =>
    b1 ((if w85 = (0 : Int32) then
        some (9999, h109)
      else
        (getQ h109 (some 17) 5 11).bind fun x119 =>
        b1 (f_X8_at x119 w18 h109) fun x123 h121 =>
        some ((mnI (9999 : Int32) x123), h121) : Option (Int32 × Hp))) fun w124 h125 =>
    (wrI h125 x111 v3 w124).bind fun h127 =>
    some h127
theorem WS_eq (n : Nat) (q1 : Option Nat) (v2 v3 : Int32) (h : Hp) : f_X6_writeSpans_L4 (n + 1) 17 q1 v2 v3 h =
    if (104 : Int32) ≤ v3 then some h else (getQ h (some 17) 5 4).bind fun x2 => b1 (f_X8_at x2 v3 h) fun x6 h4 => b1 (ws1 x6 v2 v3 h4) fun w18 h19 =>
      (getQ h19 q1 6 8).bind fun x21 => b1 (f_X8_at x21 v3 h19) fun x25 h23 => Option.bind (ws2 x25 w18 v3 q1 h23) fun h129 => f_X6_writeSpans_L4 n 17 q1 w18 (v3 + 1) h129 := rfl
theorem c_ws1 {g : Hp} (X : FX g) {u : Nat} (hu : u < 104) (e : hi g 21 u = if ps u = true then nI (ct' ps u) else -1) (hc : ct' ps u ≤ 20) : ws1 (hi g 21 u) (pI (ct' ps u)) (nI u) g = some (pI (ct' ps (u + 1)), g) := by
  unfold ws1
  have cs := ct'_s ps u
  have hu5 : u < 105 := by omega
  by_cases q : ps u = true
  · rw [if_pos q] at e cs
    have n1 : ¬ nI (ct' ps u) = -1 := fun z => by
      have := congrArg Int32.toInt z
      rw [nI_toInt (by omega), show (-1 : Int32).toInt = -1 from rfl] at this
      omega
    have e2 : pI (ct' ps (u + 1)) = nI (ct' ps u) := by unfold pI; rw [cs, if_neg (by omega), Nat.add_sub_cancel]
    rw [e2]
    simp (disch := (first | assumption | (simp only [FX_si, FX_sj, FX_sr, WX_si, WX_sj, WX_sr, FK_si, FK_sj, FK_sr]; assumption) | omega | decide)) only [e, n1, ↓reduceIte, if_true, if_false, i10, i01, eq_self, wq7, wq8, wq9, wq10, wrc, wgi, wpi, wpz, wn1, wn2, wn3, wn4, wr1, wr2, wr3, wr4, ww1, ww2, ww3, ww4, fgi, fgq, fpi, frc, at18, at19, at21, at22, at23, at24, at25, at26, at_neg, wat1, wat2, wat3, wat4, reduceCtorEq, bd_some, b1_some, b2_some, b3_some, b4_some, c1_eq, elim_inl, elim_inr, zok0, zok1, getQ_si, getQ_sj, getQ_sr, q8_0, q8_1, q8_2, q8_4, q8_7, q8_8, q8_9, q8_10, q8_11, q9_0, q9_3, q9_4, q9_8, q17_0, q17_1, q17_2, q17_4, q17_5, q17_6, q17_9, q17_10, q17_11, q27_4, q27_5, q27_6, q27_7, q27_8, q27_11, q45_0, q45_1, q45_11, q45_12, q45_13, q45_14, q45_15, q45_16, q45_17, q45_18, q45_19, q45_20, q45_21, q45_22, q45_23, q45_24, q45_30, q45_31, q45_32, q45_33, q45_34, q45_35, q45_36, q45_37, q45_38, q45_39, q45_43, q45_44, q45_45, q45_46, q45_47, q45_48, q45_52, q45_53, q45_54, q45_59, q45_60, q45_61, q45_62, q45_65, q45_67, q45_68, gi8, gj8, pi8, pz8, pj8, rc8, gi9, gj9, pi9, pz9, pj9, rc9, gi17, gj17, pi17, pz17, pj17, rc17, gi27, gj27, pi27, pz27, pj27, rc27, gi45, gj45, pi45, pz45, pj45, rc45, aln_si, aln_sj, aln_sq, rc_si, rc_sj, rc_sq, n0, n1, n10, n11, n12, n13, n14, n15, n16, n18, n19, n20, n21, n22, n23, n24, n25, n26, n29, n30, n31, n32, n33, n34, n35, n36, n37, n38, n39, n40, n42, n43, n44, n46, n47, n48, n49, n50, n51, n52, n53, n54, n55, n56, n57, n58, n59, n60, n61, n62, n63, n64, n65, n66, n67, n68, n69, n70, n71, n72, n73, n74, n75, n76, n77, n78, n79, n80, n81, n82, n83, n84, n85, n86, n87, r0, r1, r10, r11, r12, r13, r14, r15, r16, r18, r19, r20, r21, r22, r23, r24, r25, r26, r29, r30, r31, r32, r33, r34, r35, r36, r37, r38, r39, r40, r42, r43, r44, r46, r47, r48, r49, r50, r51, r52, r53, r54, r55, r56, r57, r58, r59, r60, r61, r62, r63, r64, r65, r66, r67, r68, r69, r70, r71, r72, r73, r74, r75, r76, r77, r78, r79, r80, r81, r82, r83, r84, r85, r86, r87, w10, w11, w12, w13, w18, w19, w20, w21, w22, w23, w24, w25, w26, w30, w31, w32, w33, w34, w35, w36, w38, w39, w40, w43, w44, w46, w47, w48, w49, w50, w51, w52, w53, w54, w55, w56, w57, w58, w59, w60, w61, w62, w63, w64, w65, w66, w67, w68, w69, w70, w71, w72, w73, w74, w75, w76, w77, w78, w79, w80, w81, w82, w83, w84, w85, w86, w87, hi_hit, hi_row, hi_col, hj_hit, hj_row, hj_col, hi_sj, hj_si, hq_si, hq_sj, hi_sq, hj_sq, hi_srh, hi_srm]
  · rw [if_neg q] at e cs
    rw [e, if_pos rfl, cs]
    rfl
theorem c_ws2 {g : Hp} (X : FX g) (W : WX g a) {u n P : Nat} (hu : u < 104) (hP : P ≤ 20) (hn : n ≤ P) (e8 : hi g 17 8 = nI P) (b : Bool) :
    ws2 (if b = true then 1 else 0) (pI n) (nI u) (some a) g = some (if b = true then si (si g (a + 3) u (lowf g P n)) (a + 4) u (higf g P n) else g) := by
  have ha := W.1
  unfold ws2
  cases b with
  | false => rfl
  | true =>
    have i1 : ¬ (if true = true then (1 : Int32) else 0) = 0 := by decide
    rw [if_neg i1, if_pos rfl]
    rcases Nat.eq_zero_or_pos n with e | e
    · subst e
      have l0 : lowf g P 0 = 0 := if_neg (fun q => Nat.lt_irrefl _ q.1)
      have h0 : higf g P 0 = 9999 := if_neg (fun q => Nat.lt_irrefl _ q.1)
      have p0 : pI 0 = -1 := rfl
      have n1 : (-1 : Int32) < 0 := by decide
      rw [l0, h0, p0]
      simp (disch := (first | assumption | (simp only [FX_si, FX_sj, FX_sr, WX_si, WX_sj, WX_sr, FK_si, FK_sj, FK_sr]; assumption) | omega | decide)) only [n1, ↓reduceIte, if_true, if_false, i10, i01, eq_self, wq7, wq8, wq9, wq10, wrc, wgi, wpi, wpz, wn1, wn2, wn3, wn4, wr1, wr2, wr3, wr4, ww1, ww2, ww3, ww4, fgi, fgq, fpi, frc, at18, at19, at21, at22, at23, at24, at25, at26, at_neg, wat1, wat2, wat3, wat4, reduceCtorEq, bd_some, b1_some, b2_some, b3_some, b4_some, c1_eq, elim_inl, elim_inr, zok0, zok1, getQ_si, getQ_sj, getQ_sr, q8_0, q8_1, q8_2, q8_4, q8_7, q8_8, q8_9, q8_10, q8_11, q9_0, q9_3, q9_4, q9_8, q17_0, q17_1, q17_2, q17_4, q17_5, q17_6, q17_9, q17_10, q17_11, q27_4, q27_5, q27_6, q27_7, q27_8, q27_11, q45_0, q45_1, q45_11, q45_12, q45_13, q45_14, q45_15, q45_16, q45_17, q45_18, q45_19, q45_20, q45_21, q45_22, q45_23, q45_24, q45_30, q45_31, q45_32, q45_33, q45_34, q45_35, q45_36, q45_37, q45_38, q45_39, q45_43, q45_44, q45_45, q45_46, q45_47, q45_48, q45_52, q45_53, q45_54, q45_59, q45_60, q45_61, q45_62, q45_65, q45_67, q45_68, gi8, gj8, pi8, pz8, pj8, rc8, gi9, gj9, pi9, pz9, pj9, rc9, gi17, gj17, pi17, pz17, pj17, rc17, gi27, gj27, pi27, pz27, pj27, rc27, gi45, gj45, pi45, pz45, pj45, rc45, aln_si, aln_sj, aln_sq, rc_si, rc_sj, rc_sq, n0, n1, n10, n11, n12, n13, n14, n15, n16, n18, n19, n20, n21, n22, n23, n24, n25, n26, n29, n30, n31, n32, n33, n34, n35, n36, n37, n38, n39, n40, n42, n43, n44, n46, n47, n48, n49, n50, n51, n52, n53, n54, n55, n56, n57, n58, n59, n60, n61, n62, n63, n64, n65, n66, n67, n68, n69, n70, n71, n72, n73, n74, n75, n76, n77, n78, n79, n80, n81, n82, n83, n84, n85, n86, n87, r0, r1, r10, r11, r12, r13, r14, r15, r16, r18, r19, r20, r21, r22, r23, r24, r25, r26, r29, r30, r31, r32, r33, r34, r35, r36, r37, r38, r39, r40, r42, r43, r44, r46, r47, r48, r49, r50, r51, r52, r53, r54, r55, r56, r57, r58, r59, r60, r61, r62, r63, r64, r65, r66, r67, r68, r69, r70, r71, r72, r73, r74, r75, r76, r77, r78, r79, r80, r81, r82, r83, r84, r85, r86, r87, w10, w11, w12, w13, w18, w19, w20, w21, w22, w23, w24, w25, w26, w30, w31, w32, w33, w34, w35, w36, w38, w39, w40, w43, w44, w46, w47, w48, w49, w50, w51, w52, w53, w54, w55, w56, w57, w58, w59, w60, w61, w62, w63, w64, w65, w66, w67, w68, w69, w70, w71, w72, w73, w74, w75, w76, w77, w78, w79, w80, w81, w82, w83, w84, w85, w86, w87, hi_hit, hi_row, hi_col, hj_hit, hj_row, hj_col, hi_sj, hj_si, hq_si, hq_sj, hi_sq, hj_sq, hi_srh, hi_srm]
    · obtain ⟨m, rfl⟩ : ∃ m, n = m + 1 := ⟨n - 1, by omega⟩
      obtain ⟨P', rfl⟩ : ∃ P', P = P' + 1 := ⟨P - 1, by omega⟩
      have p0 : pI (m + 1) = nI m := by unfold pI; rw [if_neg (by omega), Nat.add_sub_cancel]
      have n1 : ¬ nI m < 0 := nI_pos (by omega)
      have hm : m < 20 := by omega
      by_cases c : m + 1 < P' + 1
      · have l0 : lowf g (P' + 1) (m + 1) = mxI 0 (hi g 25 m - (hi g 23 m - 9999)) := if_pos ⟨e, c⟩
        have h0 : higf g (P' + 1) (m + 1) = mnI 9999 (hi g 26 m) := if_pos ⟨e, c⟩
        have n2 : ¬ nI P' ≤ nI m := by rw [nI_leI (by omega) (by omega)]; omega
        rw [l0, h0, p0]
        simp (disch := (first | assumption | (simp only [FX_si, FX_sj, FX_sr, WX_si, WX_sj, WX_sr, FK_si, FK_sj, FK_sr]; assumption) | omega | decide)) only [n1, e8, nI_pred, n2, ↓reduceIte, if_true, if_false, i10, i01, eq_self, wq7, wq8, wq9, wq10, wrc, wgi, wpi, wpz, wn1, wn2, wn3, wn4, wr1, wr2, wr3, wr4, ww1, ww2, ww3, ww4, fgi, fgq, fpi, frc, at18, at19, at21, at22, at23, at24, at25, at26, at_neg, wat1, wat2, wat3, wat4, reduceCtorEq, bd_some, b1_some, b2_some, b3_some, b4_some, c1_eq, elim_inl, elim_inr, zok0, zok1, getQ_si, getQ_sj, getQ_sr, q8_0, q8_1, q8_2, q8_4, q8_7, q8_8, q8_9, q8_10, q8_11, q9_0, q9_3, q9_4, q9_8, q17_0, q17_1, q17_2, q17_4, q17_5, q17_6, q17_9, q17_10, q17_11, q27_4, q27_5, q27_6, q27_7, q27_8, q27_11, q45_0, q45_1, q45_11, q45_12, q45_13, q45_14, q45_15, q45_16, q45_17, q45_18, q45_19, q45_20, q45_21, q45_22, q45_23, q45_24, q45_30, q45_31, q45_32, q45_33, q45_34, q45_35, q45_36, q45_37, q45_38, q45_39, q45_43, q45_44, q45_45, q45_46, q45_47, q45_48, q45_52, q45_53, q45_54, q45_59, q45_60, q45_61, q45_62, q45_65, q45_67, q45_68, gi8, gj8, pi8, pz8, pj8, rc8, gi9, gj9, pi9, pz9, pj9, rc9, gi17, gj17, pi17, pz17, pj17, rc17, gi27, gj27, pi27, pz27, pj27, rc27, gi45, gj45, pi45, pz45, pj45, rc45, aln_si, aln_sj, aln_sq, rc_si, rc_sj, rc_sq, n0, n1, n10, n11, n12, n13, n14, n15, n16, n18, n19, n20, n21, n22, n23, n24, n25, n26, n29, n30, n31, n32, n33, n34, n35, n36, n37, n38, n39, n40, n42, n43, n44, n46, n47, n48, n49, n50, n51, n52, n53, n54, n55, n56, n57, n58, n59, n60, n61, n62, n63, n64, n65, n66, n67, n68, n69, n70, n71, n72, n73, n74, n75, n76, n77, n78, n79, n80, n81, n82, n83, n84, n85, n86, n87, r0, r1, r10, r11, r12, r13, r14, r15, r16, r18, r19, r20, r21, r22, r23, r24, r25, r26, r29, r30, r31, r32, r33, r34, r35, r36, r37, r38, r39, r40, r42, r43, r44, r46, r47, r48, r49, r50, r51, r52, r53, r54, r55, r56, r57, r58, r59, r60, r61, r62, r63, r64, r65, r66, r67, r68, r69, r70, r71, r72, r73, r74, r75, r76, r77, r78, r79, r80, r81, r82, r83, r84, r85, r86, r87, w10, w11, w12, w13, w18, w19, w20, w21, w22, w23, w24, w25, w26, w30, w31, w32, w33, w34, w35, w36, w38, w39, w40, w43, w44, w46, w47, w48, w49, w50, w51, w52, w53, w54, w55, w56, w57, w58, w59, w60, w61, w62, w63, w64, w65, w66, w67, w68, w69, w70, w71, w72, w73, w74, w75, w76, w77, w78, w79, w80, w81, w82, w83, w84, w85, w86, w87, hi_hit, hi_row, hi_col, hj_hit, hj_row, hj_col, hi_sj, hj_si, hq_si, hq_sj, hi_sq, hj_sq, hi_srh, hi_srm]
      · have l0 : lowf g (P' + 1) (m + 1) = 0 := if_neg (fun q => c q.2)
        have h0 : higf g (P' + 1) (m + 1) = 9999 := if_neg (fun q => c q.2)
        have n2 : nI P' ≤ nI m := by rw [nI_leI (by omega) (by omega)]; omega
        rw [l0, h0, p0]
        simp (disch := (first | assumption | (simp only [FX_si, FX_sj, FX_sr, WX_si, WX_sj, WX_sr, FK_si, FK_sj, FK_sr]; assumption) | omega | decide)) only [n1, e8, nI_pred, n2, ↓reduceIte, if_true, if_false, i10, i01, eq_self, wq7, wq8, wq9, wq10, wrc, wgi, wpi, wpz, wn1, wn2, wn3, wn4, wr1, wr2, wr3, wr4, ww1, ww2, ww3, ww4, fgi, fgq, fpi, frc, at18, at19, at21, at22, at23, at24, at25, at26, at_neg, wat1, wat2, wat3, wat4, reduceCtorEq, bd_some, b1_some, b2_some, b3_some, b4_some, c1_eq, elim_inl, elim_inr, zok0, zok1, getQ_si, getQ_sj, getQ_sr, q8_0, q8_1, q8_2, q8_4, q8_7, q8_8, q8_9, q8_10, q8_11, q9_0, q9_3, q9_4, q9_8, q17_0, q17_1, q17_2, q17_4, q17_5, q17_6, q17_9, q17_10, q17_11, q27_4, q27_5, q27_6, q27_7, q27_8, q27_11, q45_0, q45_1, q45_11, q45_12, q45_13, q45_14, q45_15, q45_16, q45_17, q45_18, q45_19, q45_20, q45_21, q45_22, q45_23, q45_24, q45_30, q45_31, q45_32, q45_33, q45_34, q45_35, q45_36, q45_37, q45_38, q45_39, q45_43, q45_44, q45_45, q45_46, q45_47, q45_48, q45_52, q45_53, q45_54, q45_59, q45_60, q45_61, q45_62, q45_65, q45_67, q45_68, gi8, gj8, pi8, pz8, pj8, rc8, gi9, gj9, pi9, pz9, pj9, rc9, gi17, gj17, pi17, pz17, pj17, rc17, gi27, gj27, pi27, pz27, pj27, rc27, gi45, gj45, pi45, pz45, pj45, rc45, aln_si, aln_sj, aln_sq, rc_si, rc_sj, rc_sq, n0, n1, n10, n11, n12, n13, n14, n15, n16, n18, n19, n20, n21, n22, n23, n24, n25, n26, n29, n30, n31, n32, n33, n34, n35, n36, n37, n38, n39, n40, n42, n43, n44, n46, n47, n48, n49, n50, n51, n52, n53, n54, n55, n56, n57, n58, n59, n60, n61, n62, n63, n64, n65, n66, n67, n68, n69, n70, n71, n72, n73, n74, n75, n76, n77, n78, n79, n80, n81, n82, n83, n84, n85, n86, n87, r0, r1, r10, r11, r12, r13, r14, r15, r16, r18, r19, r20, r21, r22, r23, r24, r25, r26, r29, r30, r31, r32, r33, r34, r35, r36, r37, r38, r39, r40, r42, r43, r44, r46, r47, r48, r49, r50, r51, r52, r53, r54, r55, r56, r57, r58, r59, r60, r61, r62, r63, r64, r65, r66, r67, r68, r69, r70, r71, r72, r73, r74, r75, r76, r77, r78, r79, r80, r81, r82, r83, r84, r85, r86, r87, w10, w11, w12, w13, w18, w19, w20, w21, w22, w23, w24, w25, w26, w30, w31, w32, w33, w34, w35, w36, w38, w39, w40, w43, w44, w46, w47, w48, w49, w50, w51, w52, w53, w54, w55, w56, w57, w58, w59, w60, w61, w62, w63, w64, w65, w66, w67, w68, w69, w70, w71, w72, w73, w74, w75, w76, w77, w78, w79, w80, w81, w82, w83, w84, w85, w86, w87, hi_hit, hi_row, hi_col, hj_hit, hj_row, hj_col, hi_sj, hj_si, hq_si, hq_sj, hi_sq, hj_sq, hi_srh, hi_srm]
theorem c_write {g : Hp} (X : FX g) (W : WX g a) (hls : ∀ u, u < 104 → hi g (a + 2) u = if ls u = true then 1 else 0) (hps : ct' ps 105 ≤ 20) (e8 : hi g 17 8 = nI (ct' ps 105)) (h21 : ∀ u, u < 105 → hi g 21 u = if ps u = true then nI (ct' ps u) else -1) :
    ∃ g', f_X6_writeSpans 17 (some a) g = some g' ∧ Fr [a + 3, a + 4] [] g g' ∧ ∀ u, u < 104 → if ls u = true then hi g' (a + 3) u = lowf g (ct' ps 105) (ct' ps (u + 1)) ∧ hi g' (a + 4) u = higf g (ct' ps 105) (ct' ps (u + 1)) else hi g' (a + 3) u = hi g (a + 3) u ∧ hi g' (a + 4) u = hi g (a + 4) u := by
  have ha := W.1
  have key : ∃ g', f_X6_writeSpans_L4 fu 17 (some a) (pI (ct' ps 0)) (nI 0) g = some g' ∧ (Fr [a + 3, a + 4] [] g g' ∧ ∀ u, u < 104 → if ls u = true then hi g' (a + 3) u = lowf g (ct' ps 105) (ct' ps (u + 1)) ∧ hi g' (a + 4) u = higf g (ct' ps 105) (ct' ps (u + 1)) else hi g' (a + 3) u = hi g (a + 3) u ∧ hi g' (a + 4) u = hi g (a + 4) u) := by
    refine forN (fun n v (p : Int32 × Hp) => f_X6_writeSpans_L4 n 17 (some a) p.1 v p.2) 104 (by omega) (fun v p => p.1 = pI (ct' ps v) ∧ Fr [a + 3, a + 4] [] g p.2 ∧ (∀ u, u < v → if ls u = true then hi p.2 (a + 3) u = lowf g (ct' ps 105) (ct' ps (u + 1)) ∧ hi p.2 (a + 4) u = higf g (ct' ps 105) (ct' ps (u + 1)) else hi p.2 (a + 3) u = hi g (a + 3) u ∧ hi p.2 (a + 4) u = hi g (a + 4) u) ∧ ∀ u, v ≤ u → hi p.2 (a + 3) u = hi g (a + 3) u ∧ hi p.2 (a + 4) u = hi g (a + 4) u)
      (fun g' => Fr [a + 3, a + 4] [] g g' ∧ ∀ u, u < 104 → if ls u = true then hi g' (a + 3) u = lowf g (ct' ps 105) (ct' ps (u + 1)) ∧ hi g' (a + 4) u = higf g (ct' ps 105) (ct' ps (u + 1)) else hi g' (a + 3) u = hi g (a + 3) u ∧ hi g' (a + 4) u = hi g (a + 4) u) ?_ ?_ (i0 := 0) (s := (pI (ct' ps 0), g)) (Nat.zero_le _) ⟨rfl, Fr.rfl, fun u hu => absurd hu (Nat.not_lt_zero _), fun _ _ => ⟨rfl, rfl⟩⟩
    · rintro n ⟨x, g1⟩ ⟨-, I2, I3, -⟩
      refine ⟨g1, ?_, I2, I3⟩
      simp only [WS_eq]
      rw [if_pos (by decide)]
    · rintro n u ⟨x, g1⟩ hu ⟨I1, I2, I3, I4⟩
      simp only at I1 I2 I3 I4
      subst I1
      have X1 := I2.fx X
      have W1 := W.fr I2
      have same : ∀ b k, b ≠ a + 3 → b ≠ a + 4 → hi g1 b k = hi g b k := fun b k h1 h2 => I2.2.2.1 b k (by simp [h1, h2]) (by simp)
      have k21 : hi g1 21 u = if ps u = true then nI (ct' ps u) else -1 := by rw [same 21 u (by omega) (by omega)]; exact h21 u (by omega)
      have k8 : hi g1 17 8 = nI (ct' ps 105) := by rw [same 17 8 (by omega) (by omega)]; exact e8
      have kl : hi g1 (a + 2) u = if ls u = true then 1 else 0 := by rw [same (a + 2) u (by omega) (by omega)]; exact hls u hu
      have c1 := ct'_up ps (show u ≤ 105 by omega)
      have c2 := ct'_up ps (show u + 1 ≤ 105 by omega)
      have s1 := c_ws1 X1 hu k21 (by omega)
      have s2 := c_ws2 X1 W1 hu hps c2 k8 (ls u)
      have el : lowf g1 (ct' ps 105) (ct' ps (u + 1)) = lowf g (ct' ps 105) (ct' ps (u + 1)) := by
        unfold lowf
        rw [same 25 _ (by omega) (by omega), same 23 _ (by omega) (by omega)]
      have eh : higf g1 (ct' ps 105) (ct' ps (u + 1)) = higf g (ct' ps 105) (ct' ps (u + 1)) := by
        unfold higf
        rw [same 26 _ (by omega) (by omega)]
      rw [el, eh, ← kl] at s2
      have n1 : ¬ (104 : Int32) ≤ nI u := by rw [L104, nI_leI (by omega) (by omega)]; omega
      have hu5 : u < 105 := by omega
      refine Or.inr ⟨(pI (ct' ps (u + 1)), if ls u = true then si (si g1 (a + 3) u (lowf g (ct' ps 105) (ct' ps (u + 1)))) (a + 4) u (higf g (ct' ps 105) (ct' ps (u + 1))) else g1), ?_, rfl, ?_, fun v hv => ?_, fun v hv => ?_⟩
      · simp only [WS_eq]
        rw [if_neg n1, q17_4 X1, bd_some, at21 X1 hu5, b1_some, s1, b1_some, wq8 W1, bd_some, wat2 W1 hu, b1_some, s2, bd_some, nI_1]
      · simp only
        split
        · exact I2.trans ((Fr.row (by simp)).trans (Fr.row (by simp)))
        · exact I2
      · simp only
        by_cases z : v = u
        · subst z
          by_cases q : ls v = true
          · rw [if_pos q, if_pos q]
            exact ⟨by rw [hi_row _ _ _ (by omega), hi_hit], hi_hit _ _ _⟩
          · rw [if_neg q, if_neg q]
            exact I4 v (Nat.le_refl _)
        · have I := I3 v (by omega)
          have e : ∀ g2, g2 = (if ls u = true then si (si g1 (a + 3) u (lowf g (ct' ps 105) (ct' ps (u + 1)))) (a + 4) u (higf g (ct' ps 105) (ct' ps (u + 1))) else g1) → hi g2 (a + 3) v = hi g1 (a + 3) v ∧ hi g2 (a + 4) v = hi g1 (a + 4) v := fun g2 h2 => by
            rw [h2]
            split
            · rw [hi_col _ _ z, hi_col _ _ z, hi_col _ _ z, hi_col _ _ z]; exact ⟨rfl, rfl⟩
            · exact ⟨rfl, rfl⟩
          rw [(e _ rfl).1, (e _ rfl).2]
          exact I
      · simp only
        have z : v ≠ u := by omega
        have e : ∀ g2, g2 = (if ls u = true then si (si g1 (a + 3) u (lowf g (ct' ps 105) (ct' ps (u + 1)))) (a + 4) u (higf g (ct' ps 105) (ct' ps (u + 1))) else g1) → hi g2 (a + 3) v = hi g1 (a + 3) v ∧ hi g2 (a + 4) v = hi g1 (a + 4) v := fun g2 h2 => by
          rw [h2]
          split
          · rw [hi_col _ _ z, hi_col _ _ z, hi_col _ _ z, hi_col _ _ z]; exact ⟨rfl, rfl⟩
          · exact ⟨rfl, rfl⟩
        rw [(e _ rfl).1, (e _ rfl).2]
        exact I4 v (by omega)
  obtain ⟨g', b1', b2'⟩ := key
  refine ⟨g', ?_, b2'⟩
  have b1'' : f_X6_writeSpans_L4 fu 17 (some a) (-1) 0 g = some g' := b1'
  unfold f_X6_writeSpans
  rw [b1'', bd_some]
end Sx
