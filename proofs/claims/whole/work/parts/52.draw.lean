/-! The model's lowering of sums, and what it finds. -/
theorem j_add {x y : Int64} (h1 : -9000000000000000000 ≤ x.toInt + y.toInt) (h2 : x.toInt + y.toInt ≤ 9000000000000000000) : (x + y).toInt = x.toInt + y.toInt := by
  rw [Int64.toInt_add, Int.bmod_eq_of_le (by omega) (by omega)]
theorem j_neg {x : Int64} (h1 : -9000000000000000000 ≤ x.toInt) (h2 : x.toInt ≤ 9000000000000000000) : (-x).toInt = -x.toInt := by
  rw [Int64.toInt_neg, Int.bmod_eq_of_le (by omega) (by omega)]
theorem i_add {x y : Int32} (h1 : -2147483648 ≤ x.toInt + y.toInt) (h2 : x.toInt + y.toInt ≤ 2147483647) : (x + y).toInt = x.toInt + y.toInt := by
  rw [Int32.toInt_add, Int.bmod_eq_of_le (by omega) (by omega)]
theorem i_sub {x y : Int32} (h1 : -2147483648 ≤ x.toInt - y.toInt) (h2 : x.toInt - y.toInt ≤ 2147483647) : (x - y).toInt = x.toInt - y.toInt := by
  rw [Int32.toInt_sub, Int.bmod_eq_of_le (by omega) (by omega)]
theorem i_neg {x : Int32} (h1 : -2147483647 ≤ x.toInt) (h2 : x.toInt ≤ 2147483647) : (-x).toInt = -x.toInt := by
  rw [Int32.toInt_neg, Int.bmod_eq_of_le (by omega) (by omega)]
theorem i_ext {x y : Int32} (h : x.toInt = y.toInt) : x = y := Int32.toInt_inj.mp h
theorem j_i {x : Int64} (h1 : -2147483648 ≤ x.toInt) (h2 : x.toInt ≤ 2147483647) : x.toInt32.toInt = x.toInt := by
  rw [Int64.toInt_toInt32, Int.bmod_eq_of_le (by omega) (by omega)]
theorem s_lt : ∀ n, n < 32 → ((nI n &&& 31).toBitVec.smod 32).toNat = n := by decide
/-- a bit of a set -/
def bt1 (s b : Nat) : Nat := s / 2 ^ b % 2
def btB (s b : Nat) : Bool := decide (bt1 s b = 1)
theorem bit_of {s b : Nat} (hs : s < 2 ^ 31) (hb : b < 32) : (nI s >>> (nI b &&& 31)) &&& 1 = nI (bt1 s b) := by
  rw [pk_shrN hs _ b (s_lt b hb), pk_andN (Nat.lt_of_le_of_lt (Nat.div_le_self _ _) (by omega)) 1 rfl]
  rfl
theorem shl_of : ∀ b, b < 31 → (1 : Int32) <<< (nI b &&& 31) = nI (2 ^ b) := by decide
/-- the sums as numbers, in bounds -/
def SMP (g : Hp) (R : Nat → Int) (M : Int) : Prop := ∀ j, j < 105 → (hj g 77 j).toInt = R j ∧ -M ≤ R j ∧ R j ≤ 1000000000
/-- the mark of a change since R0 -/
def FLG (R0 R : Nat → Int) (fl : Int32) : Prop := (fl = 0 ∧ R = R0) ∨ (fl = 1 ∧ (∀ j, R j ≤ R0 j) ∧ ∃ j, j < 105 ∧ R j < R0 j)
section Dr
variable {g : Hp}
theorem m_draw (F : FX g) {u v : Nat} (hu : u < 105) (hv : v < 105) (m : Int64) {R R0 : Nat → Int} {M : Int} (hR : SMP g R M) (hm : -1000000 ≤ m.toInt ∧ m.toInt ≤ 1000000) (hM : M ≤ 1000000000000000) (hM0 : 0 ≤ M) (fl : FLG R0 R (hi g 45 51)) :
    ∃ g', f_X9_draw 45 (nI u) (nI v) m g = some g' ∧ FrM [77] [51] g g' ∧ SMP g' (rl 1000000000 R (u, v, m.toInt)) (M + 1000000) ∧ FLG R0 (rl 1000000000 R (u, v, m.toInt)) (hi g' 45 51) := by
  obtain ⟨u1, u2, u3⟩ := hR u hu
  obtain ⟨v1, v2, v3⟩ := hR v hv
  have wk : ∀ j, j < 105 → (hj g 77 j).toInt = R j ∧ -(M + 1000000) ≤ R j ∧ R j ≤ 1000000000 := fun j hj => by
    obtain ⟨a, b, c⟩ := hR j hj
    exact ⟨a, by omega, c⟩
  have far : (1000000000 : Int64).toInt = 1000000000 := by decide
  have z01 : (1 : Int32) = 0 ∨ (1 : Int32) = 1 := Or.inr rfl
  unfold f_X9_draw
  simp (disch := (first | assumption | (simp only [FX_si, FX_sj, FX_sr]; assumption) | omega | decide)) only [lg_cmp_ge, lg_cmp_lt, bd_some, b1_some, b2_some, b3_some, b4_some, c1_eq, elim_inl, elim_inr, zok0, zok1, getQ_si, getQ_sj, getQ_sr, q8_0, q8_1, q8_2, q8_4, q8_7, q8_8, q8_9, q8_10, q8_11, q9_0, q9_3, q9_4, q9_8, q17_0, q17_1, q17_2, q17_4, q17_5, q17_6, q17_9, q17_10, q17_11, q27_4, q27_5, q27_6, q27_7, q27_8, q27_11, q45_0, q45_1, q45_11, q45_12, q45_13, q45_14, q45_15, q45_16, q45_17, q45_18, q45_19, q45_20, q45_21, q45_22, q45_23, q45_24, q45_30, q45_31, q45_32, q45_33, q45_34, q45_35, q45_36, q45_37, q45_38, q45_39, q45_43, q45_44, q45_45, q45_46, q45_47, q45_48, q45_52, q45_53, q45_54, q45_59, q45_60, q45_61, q45_62, q45_65, q45_67, q45_68, gi8, gj8, pi8, pz8, pj8, rc8, gi9, gj9, pi9, pz9, pj9, rc9, gi17, gj17, pi17, pz17, pj17, rc17, gi27, gj27, pi27, pz27, pj27, rc27, gi45, gj45, pi45, pz45, pj45, rc45, aln_si, aln_sj, aln_sq, rc_si, rc_sj, rc_sq, n0, n1, n10, n11, n12, n13, n14, n15, n16, n18, n19, n20, n21, n22, n23, n24, n25, n26, n29, n30, n31, n32, n33, n34, n35, n36, n37, n38, n39, n40, n42, n43, n44, n46, n47, n48, n49, n50, n51, n52, n53, n54, n55, n56, n57, n58, n59, n60, n61, n62, n63, n64, n65, n66, n67, n68, n69, n70, n71, n72, n73, n74, n75, n76, n77, n78, n79, n80, n81, n82, n83, n84, n85, n86, n87, r0, r1, r10, r11, r12, r13, r14, r15, r16, r18, r19, r20, r21, r22, r23, r24, r25, r26, r29, r30, r31, r32, r33, r34, r35, r36, r37, r38, r39, r40, r42, r43, r44, r46, r47, r48, r49, r50, r51, r52, r53, r54, r55, r56, r57, r58, r59, r60, r61, r62, r63, r64, r65, r66, r67, r68, r69, r70, r71, r72, r73, r74, r75, r76, r77, r78, r79, r80, r81, r82, r83, r84, r85, r86, r87, w10, w11, w12, w13, w18, w19, w20, w21, w22, w23, w24, w25, w26, w30, w31, w32, w33, w34, w35, w36, w38, w39, w40, w43, w44, w46, w47, w48, w49, w50, w51, w52, w53, w54, w55, w56, w57, w58, w59, w60, w61, w62, w63, w64, w65, w66, w67, w68, w69, w70, w71, w72, w73, w74, w75, w76, w77, w78, w79, w80, w81, w82, w83, w84, w85, w86, w87, hi_hit, hi_row, hi_col, hj_hit, hj_row, hj_col, hi_sj, hj_si, hq_si, hq_sj, hi_sq, hj_sq, hi_srh, hi_srm]
  by_cases c1 : (1000000000 : Int64) ≤ hj g 77 u
  · rw [if_pos c1]
    have e : rl 1000000000 R (u, v, m.toInt) = R := by
      unfold rl
      rw [Int64.le_iff_toInt_le, far, u1] at c1
      exact if_pos c1
    rw [e]
    exact ⟨g, rfl, FrM.rfl, wk, fl⟩
  · rw [if_neg c1]
    rw [Int64.le_iff_toInt_le, far, u1] at c1
    have sm : (hj g 77 u + m).toInt = R u + m.toInt := by rw [j_add (by omega) (by omega), u1]
    by_cases c2 : hj g 77 u + m < hj g 77 v
    · rw [if_pos c2]
      rw [Int64.lt_iff_toInt_lt, sm, v1] at c2
      have e : rl 1000000000 R (u, v, m.toInt) = fun j => if j = v then R u + m.toInt else R j := by
        unfold rl
        rw [if_neg c1, if_pos c2]
      rw [e]
      refine ⟨_, rfl, (FrM.rowJ (by decide) (by decide)).trans (FrM.fld (by decide)), ?_, Or.inr ⟨hi_hit _ _ _, ?_, ?_⟩⟩
      · intro j hj'
        rw [hj_si]
        show _ = (if j = v then R u + m.toInt else R j) ∧ _ ≤ (if j = v then R u + m.toInt else R j) ∧ (if j = v then R u + m.toInt else R j) ≤ _
        by_cases q : j = v
        · subst q
          rw [hj_hit, if_pos rfl, sm]
          exact ⟨rfl, by omega, by omega⟩
        · rw [hj_col 77 _ q, if_neg q]
          exact wk j hj'
      · intro j
        have : R j ≤ R0 j := by
          rcases fl with ⟨-, q⟩ | ⟨-, q, -⟩
          · rw [q]; exact Int.le_refl _
          · exact q j
        simp only
        split
        · rename_i q; subst q; omega
        · exact this
      · rcases fl with ⟨-, q⟩ | ⟨-, q, j, hj', q'⟩
        · refine ⟨v, hv, ?_⟩
          simp only
          rw [if_pos trivial, ← q]
          exact c2
        · refine ⟨j, hj', ?_⟩
          simp only
          split
          · rename_i z; subst z; have := q j; omega
          · exact q'
    · rw [if_neg c2]
      rw [Int64.lt_iff_toInt_lt, sm, v1] at c2
      have e : rl 1000000000 R (u, v, m.toInt) = R := by
        unfold rl
        rw [if_neg c1, if_neg c2]
      rw [e]
      exact ⟨g, rfl, FrM.rfl, wk, fl⟩
/-- what the lowering looks at -/
def tot5 (g : Hp) (w : Nat) : Int32 := hi g 72 (6 * w) + hi g 72 (6 * w + 1) + hi g 72 (6 * w + 2) + hi g 72 (6 * w + 3) + hi g 72 (6 * w + 4)
def DX (g : Hp) (ls : Nat → Bool) (T : Nat → Int) (bc : Nat) (bA bE : Nat → Nat) (bT : Nat → Int) : Prop :=
  FX g ∧ (∀ w, w < 104 → hi g 76 w = if ls w = true then 1 else 0) ∧ (∀ w, w < 104 → 0 ≤ T w ∧ T w ≤ 50000 ∧ (tot5 g w).toInt = T w) ∧ bc ≤ 10 ∧ hi g 45 49 = nI bc ∧
  ∀ b, b < bc → ∃ f e, f < 250 ∧ e < 104 ∧ hi g 75 b = nI f ∧ hi g 66 f = nI (bA b) ∧ hi g 67 f = nI e ∧ bE b = e + 1 ∧ (hi g 68 f).toInt = bT b ∧ bA b < 105 ∧ 0 ≤ bT b ∧ bT b ≤ 999999
theorem DX.fr {A B : List Nat} {g' : Hp} {ls : Nat → Bool} {T : Nat → Int} {bc : Nat} {bA bE : Nat → Nat} {bT : Nat → Int} (D : DX g ls T bc bA bE bT) (fr : FrM A B g g') (hA : [66, 67, 68, 72, 75, 76].all (fun x => !A.contains x) = true) (hB : B.contains 49 = false) : DX g' ls T bc bA bE bT := by
  obtain ⟨D1, D2, D3, D4, D5, D6⟩ := D
  have nA : ∀ x, x ∈ [66, 67, 68, 72, 75, 76] → x ∉ A := fun x hx q => by
    have := List.all_eq_true.mp hA x hx
    simp at this
    exact this q
  have n49 : 49 ∉ B := fun q => by simp at hB; exact hB q
  have t5 : ∀ w, tot5 g' w = tot5 g w := fun w => by
    unfold tot5
    simp only [fr.ei _ (nA 72 (by decide)) (by decide)]
  refine ⟨fr.fx D1, fun w hw => (fr.ei w (nA 76 (by decide)) (by decide)).trans (D2 w hw), fun w hw => ⟨(D3 w hw).1, (D3 w hw).2.1, by rw [t5]; exact (D3 w hw).2.2⟩, D4, (fr.ef n49).trans D5, fun b hb => ?_⟩
  obtain ⟨f, e, h1, h2, h3, h4, h5, h6, h7, h8⟩ := D6 b hb
  exact ⟨f, e, h1, h2, (fr.ei b (nA 75 (by decide)) (by decide)).trans h3, (fr.ei f (nA 66 (by decide)) (by decide)).trans h4, (fr.ei f (nA 67 (by decide)) (by decide)).trans h5, h6, by rw [fr.ei f (nA 68 (by decide)) (by decide)]; exact h7, h8⟩
theorem rd_app (B : Int) (a b : List Ed) (f : Nat → Int) : rd B (a ++ b) f = rd B b (rd B a f) := List.foldl_append
theorem rd_two (B : Int) (a b : Ed) (f : Nat → Int) : rd B [a, b] f = rl B (rl B f a) b := rfl
variable {ls : Nat → Bool} {T : Nat → Int} {bc : Nat} {bA bE : Nat → Nat} {bT : Nat → Int}
theorem m_drawAll2 (D : DX g ls T bc bA bE bT) (out : Int32) {R R0 : Nat → Int} {M : Int} (hR : SMP g R M) (hM : M ≤ 100000000000000) (hM0 : 0 ≤ M) (fl : FLG R0 R (hi g 45 51)) :
    ∃ g', f_X9_drawAll_L2 fu 45 out 0 g = some g' ∧ FrM [77] [51] g g' ∧ SMP g' (rd 1000000000 (WE ls T 104) R) (M + 208000000) ∧ FLG R0 (rd 1000000000 (WE ls T 104) R) (hi g' 45 51) := by
  refine forN (fun n v g => f_X9_drawAll_L2 n 45 out v g) 104 (by omega) (fun w g' => FrM [77] [51] g g' ∧ SMP g' (rd 1000000000 (WE ls T w) R) (M + 2000000 * w) ∧ FLG R0 (rd 1000000000 (WE ls T w) R) (hi g' 45 51)) (fun g' => FrM [77] [51] g g' ∧ SMP g' (rd 1000000000 (WE ls T 104) R) (M + 208000000) ∧ FLG R0 (rd 1000000000 (WE ls T 104) R) (hi g' 45 51)) ?_ ?_ (i0 := 0) (Nat.zero_le _) ⟨FrM.rfl, fun j hj' => by have := hR j hj'; exact ⟨this.1, (by have h2 := this.2.1; show _ ≤ R j; omega), this.2.2⟩, fl⟩
  · rintro n g' ⟨I1, I2, I3⟩
    exact ⟨g', by simp only [f_X9_drawAll_L2.eq_2]; rw [if_pos (by decide)], I1, I2, I3⟩
  · rintro n w g1 hw ⟨I1, I2, I3⟩
    have D1 := D.fr I1 (by decide) (by decide)
    have F1 := D1.1
    have e76 := D1.2.1 w hw
    obtain ⟨T0, T1, T2⟩ := D1.2.2.1 w hw
    have t5 : f_X9_totalOf 45 (nI w) g1 = some (tot5 g1 w, g1) := m_totalOf F1 hw
    have e9 : (9999 : Int64).toInt = 9999 := by decide
    have e0 : (0 : Int64).toInt = 0 := by decide
    have hx : ∃ (up lo : Int64), up.toInt = (if ls w = true then 9999 else T w) ∧ (-lo).toInt = -(if ls w = true then 0 else T w) ∧
        f_X9_drawAll_L2 (n + 1) 45 out (nI w) g1 = (f_X9_draw 45 (nI w) (nI (w + 1)) up g1).bind fun h28 => (rc h28 (some 45) 8).bind fun g34 => (f_X9_draw g34 (nI (w + 1)) (nI w) (-lo) h28).bind fun h32 => f_X9_drawAll_L2 n 45 out (nI (w + 1)) h32 := by
      cases hl : ls w with
      | true =>
        rw [hl, if_pos rfl] at e76
        refine ⟨9999, 0, by rw [if_pos rfl, e9], by rw [if_pos rfl]; decide, ?_⟩
        rw [f_X9_drawAll_L2.eq_2, if_neg (by rw [L104, nI_leI (by omega) (by omega)]; omega)]
        simp (disch := (first | assumption | (simp only [FX_si, FX_sj, FX_sr]; assumption) | omega | decide)) only [e76, nI_1, if_neg (by decide : ¬ (1 : Int32) = 0), bd_some, b1_some, b2_some, b3_some, b4_some, c1_eq, elim_inl, elim_inr, zok0, zok1, getQ_si, getQ_sj, getQ_sr, q8_0, q8_1, q8_2, q8_4, q8_7, q8_8, q8_9, q8_10, q8_11, q9_0, q9_3, q9_4, q9_8, q17_0, q17_1, q17_2, q17_4, q17_5, q17_6, q17_9, q17_10, q17_11, q27_4, q27_5, q27_6, q27_7, q27_8, q27_11, q45_0, q45_1, q45_11, q45_12, q45_13, q45_14, q45_15, q45_16, q45_17, q45_18, q45_19, q45_20, q45_21, q45_22, q45_23, q45_24, q45_30, q45_31, q45_32, q45_33, q45_34, q45_35, q45_36, q45_37, q45_38, q45_39, q45_43, q45_44, q45_45, q45_46, q45_47, q45_48, q45_52, q45_53, q45_54, q45_59, q45_60, q45_61, q45_62, q45_65, q45_67, q45_68, gi8, gj8, pi8, pz8, pj8, rc8, gi9, gj9, pi9, pz9, pj9, rc9, gi17, gj17, pi17, pz17, pj17, rc17, gi27, gj27, pi27, pz27, pj27, rc27, gi45, gj45, pi45, pz45, pj45, rc45, aln_si, aln_sj, aln_sq, rc_si, rc_sj, rc_sq, n0, n1, n10, n11, n12, n13, n14, n15, n16, n18, n19, n20, n21, n22, n23, n24, n25, n26, n29, n30, n31, n32, n33, n34, n35, n36, n37, n38, n39, n40, n42, n43, n44, n46, n47, n48, n49, n50, n51, n52, n53, n54, n55, n56, n57, n58, n59, n60, n61, n62, n63, n64, n65, n66, n67, n68, n69, n70, n71, n72, n73, n74, n75, n76, n77, n78, n79, n80, n81, n82, n83, n84, n85, n86, n87, r0, r1, r10, r11, r12, r13, r14, r15, r16, r18, r19, r20, r21, r22, r23, r24, r25, r26, r29, r30, r31, r32, r33, r34, r35, r36, r37, r38, r39, r40, r42, r43, r44, r46, r47, r48, r49, r50, r51, r52, r53, r54, r55, r56, r57, r58, r59, r60, r61, r62, r63, r64, r65, r66, r67, r68, r69, r70, r71, r72, r73, r74, r75, r76, r77, r78, r79, r80, r81, r82, r83, r84, r85, r86, r87, w10, w11, w12, w13, w18, w19, w20, w21, w22, w23, w24, w25, w26, w30, w31, w32, w33, w34, w35, w36, w38, w39, w40, w43, w44, w46, w47, w48, w49, w50, w51, w52, w53, w54, w55, w56, w57, w58, w59, w60, w61, w62, w63, w64, w65, w66, w67, w68, w69, w70, w71, w72, w73, w74, w75, w76, w77, w78, w79, w80, w81, w82, w83, w84, w85, w86, w87, hi_hit, hi_row, hi_col, hj_hit, hj_row, hj_col, hi_sj, hj_si, hq_si, hq_sj, hi_sq, hj_sq, hi_srh, hi_srm]
      | false =>
        rw [hl, if_neg (by decide)] at e76
        refine ⟨(tot5 g1 w).toInt64, (tot5 g1 w).toInt64, by rw [if_neg (by decide), Int32.toInt_toInt64, T2], by rw [if_neg (by decide), j_neg (by rw [Int32.toInt_toInt64, T2]; omega) (by rw [Int32.toInt_toInt64, T2]; omega), Int32.toInt_toInt64, T2], ?_⟩
        rw [f_X9_drawAll_L2.eq_2, if_neg (by rw [L104, nI_leI (by omega) (by omega)]; omega)]
        simp (disch := (first | assumption | (simp only [FX_si, FX_sj, FX_sr]; assumption) | omega | decide)) only [e76, nI_1, if_pos, t5, bd_some, b1_some, b2_some, b3_some, b4_some, c1_eq, elim_inl, elim_inr, zok0, zok1, getQ_si, getQ_sj, getQ_sr, q8_0, q8_1, q8_2, q8_4, q8_7, q8_8, q8_9, q8_10, q8_11, q9_0, q9_3, q9_4, q9_8, q17_0, q17_1, q17_2, q17_4, q17_5, q17_6, q17_9, q17_10, q17_11, q27_4, q27_5, q27_6, q27_7, q27_8, q27_11, q45_0, q45_1, q45_11, q45_12, q45_13, q45_14, q45_15, q45_16, q45_17, q45_18, q45_19, q45_20, q45_21, q45_22, q45_23, q45_24, q45_30, q45_31, q45_32, q45_33, q45_34, q45_35, q45_36, q45_37, q45_38, q45_39, q45_43, q45_44, q45_45, q45_46, q45_47, q45_48, q45_52, q45_53, q45_54, q45_59, q45_60, q45_61, q45_62, q45_65, q45_67, q45_68, gi8, gj8, pi8, pz8, pj8, rc8, gi9, gj9, pi9, pz9, pj9, rc9, gi17, gj17, pi17, pz17, pj17, rc17, gi27, gj27, pi27, pz27, pj27, rc27, gi45, gj45, pi45, pz45, pj45, rc45, aln_si, aln_sj, aln_sq, rc_si, rc_sj, rc_sq, n0, n1, n10, n11, n12, n13, n14, n15, n16, n18, n19, n20, n21, n22, n23, n24, n25, n26, n29, n30, n31, n32, n33, n34, n35, n36, n37, n38, n39, n40, n42, n43, n44, n46, n47, n48, n49, n50, n51, n52, n53, n54, n55, n56, n57, n58, n59, n60, n61, n62, n63, n64, n65, n66, n67, n68, n69, n70, n71, n72, n73, n74, n75, n76, n77, n78, n79, n80, n81, n82, n83, n84, n85, n86, n87, r0, r1, r10, r11, r12, r13, r14, r15, r16, r18, r19, r20, r21, r22, r23, r24, r25, r26, r29, r30, r31, r32, r33, r34, r35, r36, r37, r38, r39, r40, r42, r43, r44, r46, r47, r48, r49, r50, r51, r52, r53, r54, r55, r56, r57, r58, r59, r60, r61, r62, r63, r64, r65, r66, r67, r68, r69, r70, r71, r72, r73, r74, r75, r76, r77, r78, r79, r80, r81, r82, r83, r84, r85, r86, r87, w10, w11, w12, w13, w18, w19, w20, w21, w22, w23, w24, w25, w26, w30, w31, w32, w33, w34, w35, w36, w38, w39, w40, w43, w44, w46, w47, w48, w49, w50, w51, w52, w53, w54, w55, w56, w57, w58, w59, w60, w61, w62, w63, w64, w65, w66, w67, w68, w69, w70, w71, w72, w73, w74, w75, w76, w77, w78, w79, w80, w81, w82, w83, w84, w85, w86, w87, hi_hit, hi_row, hi_col, hj_hit, hj_row, hj_col, hi_sj, hj_si, hq_si, hq_sj, hi_sq, hj_sq, hi_srh, hi_srm]
    obtain ⟨up, lo, x1, x2, x3⟩ := hx
    obtain ⟨g2, y1, y2, y3, y4⟩ := m_draw (R0 := R0) F1 (u := w) (v := w + 1) (by omega) (by omega) up I2 (by rw [x1]; split <;> omega) (by omega) (by omega) I3
    have F2 := y2.fx F1
    obtain ⟨g3, k1, k2, k3, k4⟩ := m_draw (R0 := R0) F2 (u := w + 1) (v := w) (by omega) (by omega) (-lo) y3 (by rw [x2]; split <;> omega) (by omega) (by omega) y4
    refine Or.inr ⟨g3, ?_, (I1.trans y2).trans k2, ?_, ?_⟩
    · simp only [x3, y1, bd_some, rc45 F2, k1]
    · rw [WE, rd_app, rd_two, ← x1, ← x2]
      intro j hj'
      have := k3 j hj'
      omega
    · rw [WE, rd_app, rd_two, ← x1, ← x2]
      exact k4
theorem m_drawAll70 (D : DX g ls T bc bA bE bT) {s : Nat} (hs : s < 2 ^ 31) {R R0 : Nat → Int} {M : Int} (hR : SMP g R M) (hM : M ≤ 500000000000000) (hM0 : 0 ≤ M) (fl : FLG R0 R (hi g 45 51)) :
    ∃ g', f_X9_drawAll_L70 fu 45 (nI s) 0 g = some g' ∧ FrM [77] [51] g g' ∧ SMP g' (rd 1000000000 (BE bA bE bT (btB s) bc) R) (M + 20000000) ∧ FLG R0 (rd 1000000000 (BE bA bE bT (btB s) bc) R) (hi g' 45 51) := by
  have hbc := D.2.2.2.1
  refine forN (fun n v g => f_X9_drawAll_L70 n 45 (nI s) v g) bc (by omega) (fun b g' => FrM [77] [51] g g' ∧ SMP g' (rd 1000000000 (BE bA bE bT (btB s) b) R) (M + 2000000 * b) ∧ FLG R0 (rd 1000000000 (BE bA bE bT (btB s) b) R) (hi g' 45 51)) (fun g' => FrM [77] [51] g g' ∧ SMP g' (rd 1000000000 (BE bA bE bT (btB s) bc) R) (M + 20000000) ∧ FLG R0 (rd 1000000000 (BE bA bE bT (btB s) bc) R) (hi g' 45 51)) ?_ ?_ (i0 := 0) (Nat.zero_le _) ⟨FrM.rfl, fun j hj' => by have := hR j hj'; exact ⟨this.1, (by have h2 := this.2.1; show _ ≤ R j; omega), this.2.2⟩, fl⟩
  · rintro n g' ⟨I1, I2, I3⟩
    have D1 := D.fr I1 (by decide) (by decide)
    have F1 := D1.1
    have e49 := D1.2.2.2.2.1
    refine ⟨g', ?_, I1, ?_, I3⟩
    · simp only [f_X9_drawAll_L70.eq_2]
      simp (disch := (first | assumption | (simp only [FX_si, FX_sj, FX_sr]; assumption) | omega | decide)) only [e49, bd_some, b1_some, b2_some, b3_some, b4_some, c1_eq, elim_inl, elim_inr, zok0, zok1, getQ_si, getQ_sj, getQ_sr, q8_0, q8_1, q8_2, q8_4, q8_7, q8_8, q8_9, q8_10, q8_11, q9_0, q9_3, q9_4, q9_8, q17_0, q17_1, q17_2, q17_4, q17_5, q17_6, q17_9, q17_10, q17_11, q27_4, q27_5, q27_6, q27_7, q27_8, q27_11, q45_0, q45_1, q45_11, q45_12, q45_13, q45_14, q45_15, q45_16, q45_17, q45_18, q45_19, q45_20, q45_21, q45_22, q45_23, q45_24, q45_30, q45_31, q45_32, q45_33, q45_34, q45_35, q45_36, q45_37, q45_38, q45_39, q45_43, q45_44, q45_45, q45_46, q45_47, q45_48, q45_52, q45_53, q45_54, q45_59, q45_60, q45_61, q45_62, q45_65, q45_67, q45_68, gi8, gj8, pi8, pz8, pj8, rc8, gi9, gj9, pi9, pz9, pj9, rc9, gi17, gj17, pi17, pz17, pj17, rc17, gi27, gj27, pi27, pz27, pj27, rc27, gi45, gj45, pi45, pz45, pj45, rc45, aln_si, aln_sj, aln_sq, rc_si, rc_sj, rc_sq, n0, n1, n10, n11, n12, n13, n14, n15, n16, n18, n19, n20, n21, n22, n23, n24, n25, n26, n29, n30, n31, n32, n33, n34, n35, n36, n37, n38, n39, n40, n42, n43, n44, n46, n47, n48, n49, n50, n51, n52, n53, n54, n55, n56, n57, n58, n59, n60, n61, n62, n63, n64, n65, n66, n67, n68, n69, n70, n71, n72, n73, n74, n75, n76, n77, n78, n79, n80, n81, n82, n83, n84, n85, n86, n87, r0, r1, r10, r11, r12, r13, r14, r15, r16, r18, r19, r20, r21, r22, r23, r24, r25, r26, r29, r30, r31, r32, r33, r34, r35, r36, r37, r38, r39, r40, r42, r43, r44, r46, r47, r48, r49, r50, r51, r52, r53, r54, r55, r56, r57, r58, r59, r60, r61, r62, r63, r64, r65, r66, r67, r68, r69, r70, r71, r72, r73, r74, r75, r76, r77, r78, r79, r80, r81, r82, r83, r84, r85, r86, r87, w10, w11, w12, w13, w18, w19, w20, w21, w22, w23, w24, w25, w26, w30, w31, w32, w33, w34, w35, w36, w38, w39, w40, w43, w44, w46, w47, w48, w49, w50, w51, w52, w53, w54, w55, w56, w57, w58, w59, w60, w61, w62, w63, w64, w65, w66, w67, w68, w69, w70, w71, w72, w73, w74, w75, w76, w77, w78, w79, w80, w81, w82, w83, w84, w85, w86, w87, hi_hit, hi_row, hi_col, hj_hit, hj_row, hj_col, hi_sj, hj_si, hq_si, hq_sj, hi_sq, hj_sq, hi_srh, hi_srm]
      rw [if_pos (by rw [nI_leI (by omega) (by omega)]; omega)]
    · intro j hj'
      have := I2 j hj'
      omega
  · rintro n b g1 hb ⟨I1, I2, I3⟩
    have D1 := D.fr I1 (by decide) (by decide)
    have F1 := D1.1
    have e49 := D1.2.2.2.2.1
    have hne : ¬ nI bc ≤ nI b := by rw [nI_leI (by omega) (by omega)]; omega
    have hb10 : b < 10 := by omega
    have eb := bit_of hs (show b < 32 by omega)
    right
    cases ho : btB s b with
    | true =>
      have ho' : bt1 s b = 1 := of_decide_eq_true ho
      refine ⟨g1, ?_, I1, ?_, ?_⟩
      · simp only [f_X9_drawAll_L70.eq_2]
        simp (disch := (first | assumption | (simp only [FX_si, FX_sj, FX_sr]; assumption) | omega | decide)) only [e49, hne, if_false, eb, ho', nI_1, if_pos (show nI 1 = 1 from rfl), bd_some, b1_some, b2_some, b3_some, b4_some, c1_eq, elim_inl, elim_inr, zok0, zok1, getQ_si, getQ_sj, getQ_sr, q8_0, q8_1, q8_2, q8_4, q8_7, q8_8, q8_9, q8_10, q8_11, q9_0, q9_3, q9_4, q9_8, q17_0, q17_1, q17_2, q17_4, q17_5, q17_6, q17_9, q17_10, q17_11, q27_4, q27_5, q27_6, q27_7, q27_8, q27_11, q45_0, q45_1, q45_11, q45_12, q45_13, q45_14, q45_15, q45_16, q45_17, q45_18, q45_19, q45_20, q45_21, q45_22, q45_23, q45_24, q45_30, q45_31, q45_32, q45_33, q45_34, q45_35, q45_36, q45_37, q45_38, q45_39, q45_43, q45_44, q45_45, q45_46, q45_47, q45_48, q45_52, q45_53, q45_54, q45_59, q45_60, q45_61, q45_62, q45_65, q45_67, q45_68, gi8, gj8, pi8, pz8, pj8, rc8, gi9, gj9, pi9, pz9, pj9, rc9, gi17, gj17, pi17, pz17, pj17, rc17, gi27, gj27, pi27, pz27, pj27, rc27, gi45, gj45, pi45, pz45, pj45, rc45, aln_si, aln_sj, aln_sq, rc_si, rc_sj, rc_sq, n0, n1, n10, n11, n12, n13, n14, n15, n16, n18, n19, n20, n21, n22, n23, n24, n25, n26, n29, n30, n31, n32, n33, n34, n35, n36, n37, n38, n39, n40, n42, n43, n44, n46, n47, n48, n49, n50, n51, n52, n53, n54, n55, n56, n57, n58, n59, n60, n61, n62, n63, n64, n65, n66, n67, n68, n69, n70, n71, n72, n73, n74, n75, n76, n77, n78, n79, n80, n81, n82, n83, n84, n85, n86, n87, r0, r1, r10, r11, r12, r13, r14, r15, r16, r18, r19, r20, r21, r22, r23, r24, r25, r26, r29, r30, r31, r32, r33, r34, r35, r36, r37, r38, r39, r40, r42, r43, r44, r46, r47, r48, r49, r50, r51, r52, r53, r54, r55, r56, r57, r58, r59, r60, r61, r62, r63, r64, r65, r66, r67, r68, r69, r70, r71, r72, r73, r74, r75, r76, r77, r78, r79, r80, r81, r82, r83, r84, r85, r86, r87, w10, w11, w12, w13, w18, w19, w20, w21, w22, w23, w24, w25, w26, w30, w31, w32, w33, w34, w35, w36, w38, w39, w40, w43, w44, w46, w47, w48, w49, w50, w51, w52, w53, w54, w55, w56, w57, w58, w59, w60, w61, w62, w63, w64, w65, w66, w67, w68, w69, w70, w71, w72, w73, w74, w75, w76, w77, w78, w79, w80, w81, w82, w83, w84, w85, w86, w87, hi_hit, hi_row, hi_col, hj_hit, hj_row, hj_col, hi_sj, hj_si, hq_si, hq_sj, hi_sq, hj_sq, hi_srh, hi_srm]
      · rw [BE, ho, if_pos rfl, List.append_nil]
        intro j hj'
        have := I2 j hj'
        omega
      · rw [BE, ho, if_pos rfl, List.append_nil]
        exact I3
    | false =>
      have ho' : bt1 s b = 0 := by
        have := of_decide_eq_false ho
        have h2 : bt1 s b < 2 := Nat.mod_lt _ (by omega)
        omega
      obtain ⟨f, e, h1, h2, h3, h4, h5, h6, h7, h8, h9, h10⟩ := D1.2.2.2.2.2 b hb
      have t1 : ((hi g1 68 f).toInt64).toInt = bT b := by rw [Int32.toInt_toInt64, h7]
      obtain ⟨g2, y1, y2, y3, y4⟩ := m_draw (R0 := R0) F1 (u := bA b) (v := e + 1) (by omega) (by omega) (hi g1 68 f).toInt64 I2 (by rw [t1]; omega) (by omega) (by omega) I3
      have D2 := D1.fr y2 (by decide) (by decide)
      have F2 := D2.1
      have i66 : hi g2 66 f = nI (bA b) := (y2.ei f (by decide) (by decide)).trans h4
      have i67 : hi g2 67 f = nI e := (y2.ei f (by decide) (by decide)).trans h5
      have i68 : hi g2 68 f = hi g1 68 f := y2.ei f (by decide) (by decide)
      have i75 : hi g2 75 b = nI f := (y2.ei b (by decide) (by decide)).trans h3
      have t2 : ((-(hi g1 68 f)).toInt64).toInt = -bT b := by rw [Int32.toInt_toInt64, i_neg (by omega) (by omega), h7]
      obtain ⟨g3, k1, k2, k3, k4⟩ := m_draw (R0 := R0) F2 (u := e + 1) (v := bA b) (by omega) (by omega) (-(hi g1 68 f)).toInt64 y3 (by rw [t2]; omega) (by omega) (by omega) y4
      refine ⟨g3, ?_, (I1.trans y2).trans k2, ?_, ?_⟩
      · simp only [f_X9_drawAll_L70.eq_2]
        simp (disch := (first | assumption | (simp only [FX_si, FX_sj, FX_sr]; assumption) | omega | decide)) only [e49, hne, if_false, eb, ho', nI_1, if_neg (show ¬ nI 0 = 1 by decide), h3, h4, h5, y1, i66, i67, i68, i75, k1, bd_some, b1_some, b2_some, b3_some, b4_some, c1_eq, elim_inl, elim_inr, zok0, zok1, getQ_si, getQ_sj, getQ_sr, q8_0, q8_1, q8_2, q8_4, q8_7, q8_8, q8_9, q8_10, q8_11, q9_0, q9_3, q9_4, q9_8, q17_0, q17_1, q17_2, q17_4, q17_5, q17_6, q17_9, q17_10, q17_11, q27_4, q27_5, q27_6, q27_7, q27_8, q27_11, q45_0, q45_1, q45_11, q45_12, q45_13, q45_14, q45_15, q45_16, q45_17, q45_18, q45_19, q45_20, q45_21, q45_22, q45_23, q45_24, q45_30, q45_31, q45_32, q45_33, q45_34, q45_35, q45_36, q45_37, q45_38, q45_39, q45_43, q45_44, q45_45, q45_46, q45_47, q45_48, q45_52, q45_53, q45_54, q45_59, q45_60, q45_61, q45_62, q45_65, q45_67, q45_68, gi8, gj8, pi8, pz8, pj8, rc8, gi9, gj9, pi9, pz9, pj9, rc9, gi17, gj17, pi17, pz17, pj17, rc17, gi27, gj27, pi27, pz27, pj27, rc27, gi45, gj45, pi45, pz45, pj45, rc45, aln_si, aln_sj, aln_sq, rc_si, rc_sj, rc_sq, n0, n1, n10, n11, n12, n13, n14, n15, n16, n18, n19, n20, n21, n22, n23, n24, n25, n26, n29, n30, n31, n32, n33, n34, n35, n36, n37, n38, n39, n40, n42, n43, n44, n46, n47, n48, n49, n50, n51, n52, n53, n54, n55, n56, n57, n58, n59, n60, n61, n62, n63, n64, n65, n66, n67, n68, n69, n70, n71, n72, n73, n74, n75, n76, n77, n78, n79, n80, n81, n82, n83, n84, n85, n86, n87, r0, r1, r10, r11, r12, r13, r14, r15, r16, r18, r19, r20, r21, r22, r23, r24, r25, r26, r29, r30, r31, r32, r33, r34, r35, r36, r37, r38, r39, r40, r42, r43, r44, r46, r47, r48, r49, r50, r51, r52, r53, r54, r55, r56, r57, r58, r59, r60, r61, r62, r63, r64, r65, r66, r67, r68, r69, r70, r71, r72, r73, r74, r75, r76, r77, r78, r79, r80, r81, r82, r83, r84, r85, r86, r87, w10, w11, w12, w13, w18, w19, w20, w21, w22, w23, w24, w25, w26, w30, w31, w32, w33, w34, w35, w36, w38, w39, w40, w43, w44, w46, w47, w48, w49, w50, w51, w52, w53, w54, w55, w56, w57, w58, w59, w60, w61, w62, w63, w64, w65, w66, w67, w68, w69, w70, w71, w72, w73, w74, w75, w76, w77, w78, w79, w80, w81, w82, w83, w84, w85, w86, w87, hi_hit, hi_row, hi_col, hj_hit, hj_row, hj_col, hi_sj, hj_si, hq_si, hq_sj, hi_sq, hj_sq, hi_srh, hi_srm]
      · rw [t1, t2, ← h6] at k3
        rw [BE, ho, if_neg (by decide), rd_app, rd_two]
        intro j hj'
        have := k3 j hj'
        omega
      · rw [t1, t2, ← h6] at k4
        rw [BE, ho, if_neg (by decide), rd_app, rd_two]
        exact k4
theorem m_drawAll (D : DX g ls T bc bA bE bT) {s : Nat} (hs : s < 2 ^ 31) {R : Nat → Int} {M : Int} (hR : SMP g R M) (hM : M ≤ 100000000000000) (hM0 : 0 ≤ M) (fl : hi g 45 51 = 0) :
    ∃ g', f_X9_drawAll 45 (nI s) g = some g' ∧ FrM [77] [51] g g' ∧ SMP g' (rd 1000000000 (WE ls T 104 ++ BE bA bE bT (btB s) bc) R) (M + 300000000) ∧ FLG R (rd 1000000000 (WE ls T 104 ++ BE bA bE bT (btB s) bc) R) (hi g' 45 51) := by
  obtain ⟨g1, a1, a2, a3, a4⟩ := m_drawAll2 (R0 := R) D (nI s) hR hM hM0 (Or.inl ⟨fl, rfl⟩)
  obtain ⟨g2, b1, b2, b3, b4⟩ := m_drawAll70 (R0 := R) (D.fr a2 (by decide) (by decide)) hs a3 (by omega) (by omega) a4
  refine ⟨g2, ?_, a2.trans b2, ?_, ?_⟩
  · unfold f_X9_drawAll
    rw [a1, bd_some, b1, bd_some]
  · rw [rd_app]
    intro j hj'
    have := b3 j hj'
    omega
  · rw [rd_app]
    exact b4
theorem m_canHold2 (F : FX g) (out : Int32) : ∃ g', f_X9_canHold_L2 fu 45 out 0 g = some g' ∧ FrM [77] [] g g' ∧ ∀ j, j < 105 → hj g' 77 j = 0 := by
  refine forN (fun n v g => f_X9_canHold_L2 n 45 out v g) 105 (by omega) (fun i g' => FrM [77] [] g g' ∧ ∀ j, j < i → hj g' 77 j = 0) (fun g' => FrM [77] [] g g' ∧ ∀ j, j < 105 → hj g' 77 j = 0) ?_ ?_ (i0 := 0) (Nat.zero_le _) ⟨FrM.rfl, fun j hj => absurd hj (Nat.not_lt_zero _)⟩
  · intro n g I
    exact ⟨g, by simp only [f_X9_canHold_L2.eq_2]; rw [if_pos (by decide)], I⟩
  · rintro n i g hi' ⟨I1, I2⟩
    have Fg := I1.fx F
    refine Or.inr ⟨sj g 77 i 0, ?_, I1.trans (FrM.rowJ (by decide) (by decide)), ?_⟩
    · simp only [f_X9_canHold_L2.eq_2]
      rw [if_neg (by rw [L104, nI_ltI (by omega) (by omega)]; omega)]
      simp (disch := (first | assumption | (simp only [FX_si, FX_sj, FX_sr]; assumption) | omega | decide)) only [nI_1, bd_some, b1_some, b2_some, b3_some, b4_some, c1_eq, elim_inl, elim_inr, zok0, zok1, getQ_si, getQ_sj, getQ_sr, q8_0, q8_1, q8_2, q8_4, q8_7, q8_8, q8_9, q8_10, q8_11, q9_0, q9_3, q9_4, q9_8, q17_0, q17_1, q17_2, q17_4, q17_5, q17_6, q17_9, q17_10, q17_11, q27_4, q27_5, q27_6, q27_7, q27_8, q27_11, q45_0, q45_1, q45_11, q45_12, q45_13, q45_14, q45_15, q45_16, q45_17, q45_18, q45_19, q45_20, q45_21, q45_22, q45_23, q45_24, q45_30, q45_31, q45_32, q45_33, q45_34, q45_35, q45_36, q45_37, q45_38, q45_39, q45_43, q45_44, q45_45, q45_46, q45_47, q45_48, q45_52, q45_53, q45_54, q45_59, q45_60, q45_61, q45_62, q45_65, q45_67, q45_68, gi8, gj8, pi8, pz8, pj8, rc8, gi9, gj9, pi9, pz9, pj9, rc9, gi17, gj17, pi17, pz17, pj17, rc17, gi27, gj27, pi27, pz27, pj27, rc27, gi45, gj45, pi45, pz45, pj45, rc45, aln_si, aln_sj, aln_sq, rc_si, rc_sj, rc_sq, n0, n1, n10, n11, n12, n13, n14, n15, n16, n18, n19, n20, n21, n22, n23, n24, n25, n26, n29, n30, n31, n32, n33, n34, n35, n36, n37, n38, n39, n40, n42, n43, n44, n46, n47, n48, n49, n50, n51, n52, n53, n54, n55, n56, n57, n58, n59, n60, n61, n62, n63, n64, n65, n66, n67, n68, n69, n70, n71, n72, n73, n74, n75, n76, n77, n78, n79, n80, n81, n82, n83, n84, n85, n86, n87, r0, r1, r10, r11, r12, r13, r14, r15, r16, r18, r19, r20, r21, r22, r23, r24, r25, r26, r29, r30, r31, r32, r33, r34, r35, r36, r37, r38, r39, r40, r42, r43, r44, r46, r47, r48, r49, r50, r51, r52, r53, r54, r55, r56, r57, r58, r59, r60, r61, r62, r63, r64, r65, r66, r67, r68, r69, r70, r71, r72, r73, r74, r75, r76, r77, r78, r79, r80, r81, r82, r83, r84, r85, r86, r87, w10, w11, w12, w13, w18, w19, w20, w21, w22, w23, w24, w25, w26, w30, w31, w32, w33, w34, w35, w36, w38, w39, w40, w43, w44, w46, w47, w48, w49, w50, w51, w52, w53, w54, w55, w56, w57, w58, w59, w60, w61, w62, w63, w64, w65, w66, w67, w68, w69, w70, w71, w72, w73, w74, w75, w76, w77, w78, w79, w80, w81, w82, w83, w84, w85, w86, w87, hi_hit, hi_row, hi_col, hj_hit, hj_row, hj_col, hi_sj, hj_si, hq_si, hq_sj, hi_sq, hj_sq, hi_srh, hi_srm]
    · intro j hj
      by_cases e : j = i
      · subst e; exact hj_hit _ _ _
      · rw [hj_col 77 _ e]; exact I2 j (by omega)
theorem m_most3 (F : FX g) {u : Nat} (hu : u < 105) (v2 v3 : Int32) : ∃ g', f_X9_most_L3 fu 45 (nI u) v2 v3 0 g = some g' ∧ FrM [77] [] g g' ∧ ∀ j, j < 105 → (hj g' 77 j).toInt = if j = u then 0 else 1000000000 := by
  refine forN (fun n v g => f_X9_most_L3 n 45 (nI u) v2 v3 v g) 105 (by omega) (fun i g' => FrM [77] [] g g' ∧ ∀ j, j < i → (hj g' 77 j).toInt = if j = u then 0 else 1000000000) (fun g' => FrM [77] [] g g' ∧ ∀ j, j < 105 → (hj g' 77 j).toInt = if j = u then 0 else 1000000000) ?_ ?_ (i0 := 0) (Nat.zero_le _) ⟨FrM.rfl, fun j hj => absurd hj (Nat.not_lt_zero _)⟩
  · intro n g I
    exact ⟨g, by simp only [f_X9_most_L3.eq_2]; rw [if_pos (by decide)], I⟩
  · rintro n i g hi' ⟨I1, I2⟩
    have Fg := I1.fx F
    have hc : (nI i = nI u) = (i = u) := propext (nI_eq (by omega) (by omega))
    refine Or.inr ⟨sj g 77 i (if i = u then 0 else 1000000000), ?_, I1.trans (FrM.rowJ (by decide) (by decide)), ?_⟩
    · simp only [f_X9_most_L3.eq_2]
      rw [if_neg (by rw [L104, nI_ltI (by omega) (by omega)]; omega)]
      by_cases q : i = u
      · simp (disch := (first | assumption | (simp only [FX_si, FX_sj, FX_sr]; assumption) | omega | decide)) only [nI_1, hc, q, if_true, if_pos, bd_some, b1_some, b2_some, b3_some, b4_some, c1_eq, elim_inl, elim_inr, zok0, zok1, getQ_si, getQ_sj, getQ_sr, q8_0, q8_1, q8_2, q8_4, q8_7, q8_8, q8_9, q8_10, q8_11, q9_0, q9_3, q9_4, q9_8, q17_0, q17_1, q17_2, q17_4, q17_5, q17_6, q17_9, q17_10, q17_11, q27_4, q27_5, q27_6, q27_7, q27_8, q27_11, q45_0, q45_1, q45_11, q45_12, q45_13, q45_14, q45_15, q45_16, q45_17, q45_18, q45_19, q45_20, q45_21, q45_22, q45_23, q45_24, q45_30, q45_31, q45_32, q45_33, q45_34, q45_35, q45_36, q45_37, q45_38, q45_39, q45_43, q45_44, q45_45, q45_46, q45_47, q45_48, q45_52, q45_53, q45_54, q45_59, q45_60, q45_61, q45_62, q45_65, q45_67, q45_68, gi8, gj8, pi8, pz8, pj8, rc8, gi9, gj9, pi9, pz9, pj9, rc9, gi17, gj17, pi17, pz17, pj17, rc17, gi27, gj27, pi27, pz27, pj27, rc27, gi45, gj45, pi45, pz45, pj45, rc45, aln_si, aln_sj, aln_sq, rc_si, rc_sj, rc_sq, n0, n1, n10, n11, n12, n13, n14, n15, n16, n18, n19, n20, n21, n22, n23, n24, n25, n26, n29, n30, n31, n32, n33, n34, n35, n36, n37, n38, n39, n40, n42, n43, n44, n46, n47, n48, n49, n50, n51, n52, n53, n54, n55, n56, n57, n58, n59, n60, n61, n62, n63, n64, n65, n66, n67, n68, n69, n70, n71, n72, n73, n74, n75, n76, n77, n78, n79, n80, n81, n82, n83, n84, n85, n86, n87, r0, r1, r10, r11, r12, r13, r14, r15, r16, r18, r19, r20, r21, r22, r23, r24, r25, r26, r29, r30, r31, r32, r33, r34, r35, r36, r37, r38, r39, r40, r42, r43, r44, r46, r47, r48, r49, r50, r51, r52, r53, r54, r55, r56, r57, r58, r59, r60, r61, r62, r63, r64, r65, r66, r67, r68, r69, r70, r71, r72, r73, r74, r75, r76, r77, r78, r79, r80, r81, r82, r83, r84, r85, r86, r87, w10, w11, w12, w13, w18, w19, w20, w21, w22, w23, w24, w25, w26, w30, w31, w32, w33, w34, w35, w36, w38, w39, w40, w43, w44, w46, w47, w48, w49, w50, w51, w52, w53, w54, w55, w56, w57, w58, w59, w60, w61, w62, w63, w64, w65, w66, w67, w68, w69, w70, w71, w72, w73, w74, w75, w76, w77, w78, w79, w80, w81, w82, w83, w84, w85, w86, w87, hi_hit, hi_row, hi_col, hj_hit, hj_row, hj_col, hi_sj, hj_si, hq_si, hq_sj, hi_sq, hj_sq, hi_srh, hi_srm]
      · simp (disch := (first | assumption | (simp only [FX_si, FX_sj, FX_sr]; assumption) | omega | decide)) only [nI_1, hc, q, if_false, if_neg, bd_some, b1_some, b2_some, b3_some, b4_some, c1_eq, elim_inl, elim_inr, zok0, zok1, getQ_si, getQ_sj, getQ_sr, q8_0, q8_1, q8_2, q8_4, q8_7, q8_8, q8_9, q8_10, q8_11, q9_0, q9_3, q9_4, q9_8, q17_0, q17_1, q17_2, q17_4, q17_5, q17_6, q17_9, q17_10, q17_11, q27_4, q27_5, q27_6, q27_7, q27_8, q27_11, q45_0, q45_1, q45_11, q45_12, q45_13, q45_14, q45_15, q45_16, q45_17, q45_18, q45_19, q45_20, q45_21, q45_22, q45_23, q45_24, q45_30, q45_31, q45_32, q45_33, q45_34, q45_35, q45_36, q45_37, q45_38, q45_39, q45_43, q45_44, q45_45, q45_46, q45_47, q45_48, q45_52, q45_53, q45_54, q45_59, q45_60, q45_61, q45_62, q45_65, q45_67, q45_68, gi8, gj8, pi8, pz8, pj8, rc8, gi9, gj9, pi9, pz9, pj9, rc9, gi17, gj17, pi17, pz17, pj17, rc17, gi27, gj27, pi27, pz27, pj27, rc27, gi45, gj45, pi45, pz45, pj45, rc45, aln_si, aln_sj, aln_sq, rc_si, rc_sj, rc_sq, n0, n1, n10, n11, n12, n13, n14, n15, n16, n18, n19, n20, n21, n22, n23, n24, n25, n26, n29, n30, n31, n32, n33, n34, n35, n36, n37, n38, n39, n40, n42, n43, n44, n46, n47, n48, n49, n50, n51, n52, n53, n54, n55, n56, n57, n58, n59, n60, n61, n62, n63, n64, n65, n66, n67, n68, n69, n70, n71, n72, n73, n74, n75, n76, n77, n78, n79, n80, n81, n82, n83, n84, n85, n86, n87, r0, r1, r10, r11, r12, r13, r14, r15, r16, r18, r19, r20, r21, r22, r23, r24, r25, r26, r29, r30, r31, r32, r33, r34, r35, r36, r37, r38, r39, r40, r42, r43, r44, r46, r47, r48, r49, r50, r51, r52, r53, r54, r55, r56, r57, r58, r59, r60, r61, r62, r63, r64, r65, r66, r67, r68, r69, r70, r71, r72, r73, r74, r75, r76, r77, r78, r79, r80, r81, r82, r83, r84, r85, r86, r87, w10, w11, w12, w13, w18, w19, w20, w21, w22, w23, w24, w25, w26, w30, w31, w32, w33, w34, w35, w36, w38, w39, w40, w43, w44, w46, w47, w48, w49, w50, w51, w52, w53, w54, w55, w56, w57, w58, w59, w60, w61, w62, w63, w64, w65, w66, w67, w68, w69, w70, w71, w72, w73, w74, w75, w76, w77, w78, w79, w80, w81, w82, w83, w84, w85, w86, w87, hi_hit, hi_row, hi_col, hj_hit, hj_row, hj_col, hi_sj, hj_si, hq_si, hq_sj, hi_sq, hj_sq, hi_srh, hi_srm]
    · intro j hj
      by_cases e : j = i
      · subst e
        rw [hj_hit]
        by_cases q : j = u
        · rw [if_pos q, if_pos q]; decide
        · rw [if_neg q, if_neg q]; decide
      · rw [hj_col 77 _ e]; exact I2 j (by omega)
end Dr
