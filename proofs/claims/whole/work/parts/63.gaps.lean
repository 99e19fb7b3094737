/-! Bits of sets as numbers; filling a row; the class's quarrel and the bounds of its gaps. -/
theorem btB_tb (s b : Nat) : btB s b = s.testBit b := (Nat.testBit_eq_decide_div_mod_eq).symm
theorem bor_of (a b : Nat) : nI a ||| nI b = nI (a ||| b) := by
  apply Int32.toBitVec_inj.mp
  show BitVec.ofNat 32 a ||| BitVec.ofNat 32 b = BitVec.ofNat 32 (a ||| b)
  apply BitVec.eq_of_getLsbD_eq
  intro i hi'
  simp [hi']
theorem andn_of {a b : Nat} (ha : a < 2 ^ 31) : (nI a &&& (nI b ^^^ (-1 : Int32))) = 0 ↔ ∀ i, a.testBit i = true → b.testBit i = true := by
  have e : (nI a &&& (nI b ^^^ (-1 : Int32))) = 0 ↔ BitVec.ofNat 32 a &&& (BitVec.ofNat 32 b ^^^ BitVec.allOnes 32) = 0#32 := by
    rw [← Int32.toBitVec_inj]
    rfl
  rw [e]
  constructor
  · intro h i hi'
    have h32 : i < 32 := by
      refine Nat.not_le.mp fun q => ?_
      rw [Nat.testBit_lt_two_pow (Nat.lt_of_lt_of_le ha (Nat.pow_le_pow_right (by omega) (by omega)))] at hi'
      exact absurd hi' (by decide)
    have := congrArg (fun x => x.getLsbD i) h
    simp only [BitVec.getLsbD_and, BitVec.getLsbD_xor, BitVec.getLsbD_ofNat, BitVec.getLsbD_allOnes, BitVec.getLsbD_zero, h32, decide_true, Bool.true_and, hi'] at this
    simpa using this
  · intro h
    apply BitVec.eq_of_getLsbD_eq
    intro i hi'
    have := h i
    simp only [BitVec.getLsbD_and, BitVec.getLsbD_xor, BitVec.getLsbD_ofNat, BitVec.getLsbD_allOnes, BitVec.getLsbD_zero, Nat.zero_testBit, Bool.and_false, hi', decide_true, Bool.true_and]
    cases ha' : a.testBit i
    · rfl
    · rw [this ha']
      rfl
/-- those of the first n that p picks, as bits -/
def hpN (p : Nat → Bool) : Nat → Nat
  | 0 => 0
  | n + 1 => hpN p n ||| (if p n = true then 2 ^ n else 0)
theorem hpN_tb (p : Nat → Bool) (n i : Nat) : (hpN p n).testBit i = (decide (i < n) && p i) := by
  induction n with
  | zero => simp [hpN]
  | succ n ih =>
    show (hpN p n ||| (if p n = true then 2 ^ n else 0)).testBit i = _
    rw [Nat.testBit_or, ih]
    by_cases q : p n = true
    · rw [if_pos q, Nat.testBit_two_pow]
      by_cases e : n = i
      · subst e; simp [q]
      · by_cases z : i < n
        · simp [z, e, Nat.lt_succ_of_lt z]
        · have : ¬ i < n + 1 := by omega
          simp [z, e, this]
    · rw [if_neg q, Nat.zero_testBit, Bool.or_false]
      by_cases e : i = n
      · subst e; simp [q]
      · by_cases z : i < n
        · simp [z, Nat.lt_succ_of_lt z]
        · have : ¬ i < n + 1 := by omega
          simp [z, this]
theorem hpN_lt (p : Nat → Bool) (n : Nat) : hpN p n < 2 ^ n := by
  induction n with
  | zero => exact Nat.one_pos
  | succ n ih =>
    refine Nat.or_lt_two_pow (Nat.lt_trans ih (Nat.pow_lt_pow_right (by omega) (by omega))) ?_
    split
    · exact Nat.pow_lt_pow_right (by omega) (by omega)
    · exact Nat.two_pow_pos _
theorem bt1_le {a b i : Nat} (h : a.testBit i = true → b.testBit i = true) : bt1 a i ≤ bt1 b i := by
  have h1 : bt1 a i < 2 := Nat.mod_lt _ (by omega)
  have h2 := btB_tb a i
  have h3 := btB_tb b i
  unfold btB at h2 h3
  by_cases q : bt1 a i = 1
  · have := h (by rw [← h2]; exact decide_eq_true q)
    rw [← h3] at this
    have := of_decide_eq_true this
    omega
  · omega
theorem pc_mono {a b : Nat} (h : ∀ i, a.testBit i = true → b.testBit i = true) : pc a ≤ pc b := by
  have key : ∀ n, bts a n ≤ bts b n := by
    intro n
    induction n with
    | zero => exact Nat.le_refl _
    | succ n ih =>
      have := bt1_le (h n)
      show bts a n + bt1 a n ≤ bts b n + bt1 b n
      omega
  exact key 10
def hz : Hp := ([], fun _ _ => 0, fun _ _ => 0, fun _ _ => none)
theorem bitC_all : ∀ s, s < 1024 → (f_J6_bitCount_0f7a4 (nI s) hz).map Prod.fst = some (nI (pc s)) := by decide +kernel
theorem bitC {s : Nat} (hs : s < 1024) (h : Hp) : f_J6_bitCount_0f7a4 (nI s) h = some (nI (pc s), h) := by
  have e : f_J6_bitCount_0f7a4 (nI s) h = ((f_J6_bitCount_0f7a4 (nI s) hz).map Prod.fst).map (fun x => (x, h)) := rfl
  rw [e, bitC_all s hs]
  rfl
theorem hk_fr {A : List Nat} {B : List (Nat × Nat)} {h h' : Hp} (fr : Fr A B h h') (a : Nat) : hk h' a = hk h a := by
  unfold hk
  rw [fr.1]
theorem fill_of {h : Hp} {a n : Nat} (e : hk h a = some (10, n)) (ha : 8 ≤ a) (hn : n ≤ 65536) (v : Int32) : ∃ g, f_J7_fill_53178 (some a) v h = some g ∧ Fr [a] [] h g ∧ ∀ j, j < n → hi g a j = v := by
  have key : ∃ g, f_J7_fill_53178_L5 fu (some a) v (nI 0) (nI n) h = some g ∧ (Fr [a] [] h g ∧ ∀ j, j < n → hi g a j = v) := by
    refine forN (fun m i g => f_J7_fill_53178_L5 m (some a) v i (nI n) g) n (by omega) (fun i g => Fr [a] [] h g ∧ ∀ j, j < i → hi g a j = v) (fun g => Fr [a] [] h g ∧ ∀ j, j < n → hi g a j = v) ?_ ?_ (i0 := 0) (Nat.zero_le _) ⟨Fr.rfl, fun j hj => absurd hj (Nat.not_lt_zero _)⟩
    · rintro m g I
      exact ⟨g, by simp only [f_J7_fill_53178_L5.eq_2]; rw [if_pos (Int32.le_refl _)], I⟩
    · rintro m i g hi' ⟨I1, I2⟩
      have e' : hk g a = some (10, n) := by rw [hk_fr I1]; exact e
      refine Or.inr ⟨si g a i v, ?_, I1.trans (Fr.row (by simp)), ?_⟩
      · simp only [f_J7_fill_53178_L5.eq_2]
        rw [if_neg (by rw [nI_leI (by omega) (by omega)]; omega), wrI_eq v e' ha hi' hn, bd_some, nI_1]
      · intro j hj
        by_cases q : j = i
        · subst q; exact hi_hit _ _ _
        · rw [hi_col a _ q]; exact I2 j (by omega)
  obtain ⟨g, a1, a2⟩ := key
  refine ⟨g, ?_, a2⟩
  unfold f_J7_fill_53178
  rw [aln_eq e, bd_some]
  rw [nI_0] at a1
  rw [a1, bd_some]
section Cg
variable {g : Hp} {P : Nat} {rm : Nat → Int} {bc : Nat} {sA sE : Nat → Nat} {sR : Nat → Int} {al : Int}
/-- a bank that can't hold even alone -/
def HPL (rm : Nat → Int) (sA sE : Nat → Nat) (sR : Nat → Int) (b : Nat) : Bool := decide (sR b < 0 ∨ psm rm (sE b) - psm rm (sA b) < sR b)
theorem HPL_out (D : DXC g P rm bc sA sE sR al) {out : Nat → Bool} {y : Nat → Int} (hy : PWAY P rm sA sE sR bc out y) {b : Nat} (hb : b < bc) (hh : HPL rm sA sE sR b = true) : out b = true := by
  cases ho : out b with
  | true => rfl
  | false =>
    have h1 := hy.2 b hb ho
    obtain ⟨-, -, -, q4, q5, -⟩ := D.2.2.2.2.2.2.2.2.2.1 b hb
    have h2 := P_sum2 hy (i := sA b) (j := sE b) (by omega) q5
    have := of_decide_eq_true hh
    omega
theorem c_hope31 (D : DXC g P rm bc sA sE sR al) {b : Nat} (hb : b < bc) (v1 : Int32) : ∃ z, f_X6_hopelessBanks_L31 fu 17 v1 (nI b) 0 (nI (sA b)) g = some (z, g) ∧ z.toInt = psm rm (sE b) - psm rm (sA b) := by
  have F := D.1
  have hP20 := D.2.1
  have hbc := D.2.2.2.2.2.2.1
  obtain ⟨q1, q2, q3, q4, q5, q6, q7⟩ := D.2.2.2.2.2.2.2.2.2.1 b hb
  have hrm := D.2.2.2.2.2.2.2.2.1
  have hal := D.2.2.2.2.2.2.2.2.2.2
  have al1 := D.2.2.2.2.2.1
  have hb10 : b < 10 := by omega
  have z := fun i hi' => (hrm i hi').2.1
  have pb : ∀ i, sA b ≤ i → i ≤ 20 → 0 ≤ psm rm (sA b) ∧ psm rm (sA b) ≤ psm rm i ∧ psm rm i ≤ 1050000 := by
    intro i h1 h2
    have a := psm_mono z (a := sA b) (i - sA b) (by omega)
    rw [show sA b + (i - sA b) = i by omega] at a
    have b1 := hal i h2
    have c := psm_mono z (a := 0) (sA b) (by omega)
    rw [Nat.zero_add] at c
    have e : psm rm 0 = 0 := rfl
    omega
  obtain ⟨r, h1, h2, h3⟩ := forN (fun n i (p : Int32 × Hp) => f_X6_hopelessBanks_L31 n 17 v1 (nI b) p.1 i p.2) (sE b) (by omega) (fun i p => p.2 = g ∧ sA b ≤ i ∧ p.1.toInt = psm rm i - psm rm (sA b)) (fun p => p.2 = g ∧ p.1.toInt = psm rm (sE b) - psm rm (sA b)) (by
    rintro n ⟨x, g1⟩ ⟨I1, I2, I3⟩
    simp only at I1 I2 I3
    subst I1
    refine ⟨(x, g1), ?_, rfl, I3⟩
    simp only [f_X6_hopelessBanks_L31.eq_2]
    simp (disch := (first | assumption | (simp only [FX_si, FX_sj, FX_sr]; assumption) | omega | decide)) only [q2, ↓reduceIte, if_true, if_false, i10, i01, eq_self, bd_some, b1_some, b2_some, b3_some, b4_some, c1_eq, elim_inl, elim_inr, zok0, zok1, getQ_si, getQ_sj, getQ_sr, q8_0, q8_1, q8_2, q8_4, q8_7, q8_8, q8_9, q8_10, q8_11, q9_0, q9_3, q9_4, q9_8, q17_0, q17_1, q17_2, q17_4, q17_5, q17_6, q17_9, q17_10, q17_11, q27_4, q27_5, q27_6, q27_7, q27_8, q27_11, q45_0, q45_1, q45_11, q45_12, q45_13, q45_14, q45_15, q45_16, q45_17, q45_18, q45_19, q45_20, q45_21, q45_22, q45_23, q45_24, q45_30, q45_31, q45_32, q45_33, q45_34, q45_35, q45_36, q45_37, q45_38, q45_39, q45_43, q45_44, q45_45, q45_46, q45_47, q45_48, q45_52, q45_53, q45_54, q45_59, q45_60, q45_61, q45_62, q45_65, q45_67, q45_68, gi8, gj8, pi8, pz8, pj8, rc8, gi9, gj9, pi9, pz9, pj9, rc9, gi17, gj17, pi17, pz17, pj17, rc17, gi27, gj27, pi27, pz27, pj27, rc27, gi45, gj45, pi45, pz45, pj45, rc45, aln_si, aln_sj, aln_sq, rc_si, rc_sj, rc_sq, n0, n1, n10, n11, n12, n13, n14, n15, n16, n18, n19, n20, n21, n22, n23, n24, n25, n26, n29, n30, n31, n32, n33, n34, n35, n36, n37, n38, n39, n40, n42, n43, n44, n46, n47, n48, n49, n50, n51, n52, n53, n54, n55, n56, n57, n58, n59, n60, n61, n62, n63, n64, n65, n66, n67, n68, n69, n70, n71, n72, n73, n74, n75, n76, n77, n78, n79, n80, n81, n82, n83, n84, n85, n86, n87, r0, r1, r10, r11, r12, r13, r14, r15, r16, r18, r19, r20, r21, r22, r23, r24, r25, r26, r29, r30, r31, r32, r33, r34, r35, r36, r37, r38, r39, r40, r42, r43, r44, r46, r47, r48, r49, r50, r51, r52, r53, r54, r55, r56, r57, r58, r59, r60, r61, r62, r63, r64, r65, r66, r67, r68, r69, r70, r71, r72, r73, r74, r75, r76, r77, r78, r79, r80, r81, r82, r83, r84, r85, r86, r87, w10, w11, w12, w13, w18, w19, w20, w21, w22, w23, w24, w25, w26, w30, w31, w32, w33, w34, w35, w36, w38, w39, w40, w43, w44, w46, w47, w48, w49, w50, w51, w52, w53, w54, w55, w56, w57, w58, w59, w60, w61, w62, w63, w64, w65, w66, w67, w68, w69, w70, w71, w72, w73, w74, w75, w76, w77, w78, w79, w80, w81, w82, w83, w84, w85, w86, w87, hi_hit, hi_row, hi_col, hj_hit, hj_row, hj_col, hi_sj, hj_si, hq_si, hq_sj, hi_sq, hj_sq, hi_srh, hi_srm]
    rw [if_pos (Int32.le_refl _)]) (by
    rintro n i ⟨x, g1⟩ hi' ⟨I1, I2, I3⟩
    simp only at I1 I2 I3
    subst I1
    have n1 : ¬ nI (sE b) ≤ nI i := by rw [nI_leI (by omega) (by omega)]; omega
    have ea : f_X8_at (some 23) (nI i) g1 = some (hi g1 23 i, g1) := at_in (F.kd (a := 23) (by decide) (by decide) rfl) (by omega) (by omega)
    obtain ⟨r1, r2, r3⟩ := hrm i (by omega)
    refine Or.inr ⟨(x + hi g1 23 i, g1), ?_, rfl, by omega, ?_⟩
    · simp only [f_X6_hopelessBanks_L31.eq_2]
      simp (disch := (first | assumption | (simp only [FX_si, FX_sj, FX_sr]; assumption) | omega | decide)) only [q2, n1, ea, nI_1, ↓reduceIte, if_true, if_false, i10, i01, eq_self, bd_some, b1_some, b2_some, b3_some, b4_some, c1_eq, elim_inl, elim_inr, zok0, zok1, getQ_si, getQ_sj, getQ_sr, q8_0, q8_1, q8_2, q8_4, q8_7, q8_8, q8_9, q8_10, q8_11, q9_0, q9_3, q9_4, q9_8, q17_0, q17_1, q17_2, q17_4, q17_5, q17_6, q17_9, q17_10, q17_11, q27_4, q27_5, q27_6, q27_7, q27_8, q27_11, q45_0, q45_1, q45_11, q45_12, q45_13, q45_14, q45_15, q45_16, q45_17, q45_18, q45_19, q45_20, q45_21, q45_22, q45_23, q45_24, q45_30, q45_31, q45_32, q45_33, q45_34, q45_35, q45_36, q45_37, q45_38, q45_39, q45_43, q45_44, q45_45, q45_46, q45_47, q45_48, q45_52, q45_53, q45_54, q45_59, q45_60, q45_61, q45_62, q45_65, q45_67, q45_68, gi8, gj8, pi8, pz8, pj8, rc8, gi9, gj9, pi9, pz9, pj9, rc9, gi17, gj17, pi17, pz17, pj17, rc17, gi27, gj27, pi27, pz27, pj27, rc27, gi45, gj45, pi45, pz45, pj45, rc45, aln_si, aln_sj, aln_sq, rc_si, rc_sj, rc_sq, n0, n1, n10, n11, n12, n13, n14, n15, n16, n18, n19, n20, n21, n22, n23, n24, n25, n26, n29, n30, n31, n32, n33, n34, n35, n36, n37, n38, n39, n40, n42, n43, n44, n46, n47, n48, n49, n50, n51, n52, n53, n54, n55, n56, n57, n58, n59, n60, n61, n62, n63, n64, n65, n66, n67, n68, n69, n70, n71, n72, n73, n74, n75, n76, n77, n78, n79, n80, n81, n82, n83, n84, n85, n86, n87, r0, r1, r10, r11, r12, r13, r14, r15, r16, r18, r19, r20, r21, r22, r23, r24, r25, r26, r29, r30, r31, r32, r33, r34, r35, r36, r37, r38, r39, r40, r42, r43, r44, r46, r47, r48, r49, r50, r51, r52, r53, r54, r55, r56, r57, r58, r59, r60, r61, r62, r63, r64, r65, r66, r67, r68, r69, r70, r71, r72, r73, r74, r75, r76, r77, r78, r79, r80, r81, r82, r83, r84, r85, r86, r87, w10, w11, w12, w13, w18, w19, w20, w21, w22, w23, w24, w25, w26, w30, w31, w32, w33, w34, w35, w36, w38, w39, w40, w43, w44, w46, w47, w48, w49, w50, w51, w52, w53, w54, w55, w56, w57, w58, w59, w60, w61, w62, w63, w64, w65, w66, w67, w68, w69, w70, w71, w72, w73, w74, w75, w76, w77, w78, w79, w80, w81, w82, w83, w84, w85, w86, w87, hi_hit, hi_row, hi_col, hj_hit, hj_row, hj_col, hi_sj, hj_si, hq_si, hq_sj, hi_sq, hj_sq, hi_srh, hi_srm]
    · simp only
      have b1 := pb i I2 (by omega)
      have e : psm rm (i + 1) = psm rm i + rm i := rfl
      rw [i_add (by omega) (by omega), I3, r1]
      omega) (i0 := sA b) (s := (0, g)) (by omega) ⟨rfl, Nat.le_refl _, by simp⟩
  obtain ⟨x, g1⟩ := r
  simp only at h1 h2 h3
  subst h2
  exact ⟨x, h1, h3⟩
theorem c_hope (D : DXC g P rm bc sA sE sR al) : f_X6_hopelessBanks 17 g = some (nI (hpN (HPL rm sA sE sR) bc), g) := by
  have F := D.1
  have hP20 := D.2.1
  have hbc := D.2.2.2.2.2.2.1
  have e3 := D.2.2.2.2.2.2.2.1
  obtain ⟨r, h1, h2⟩ := forN (fun n i (p : Int32 × Hp) => f_X6_hopelessBanks_L4 n 17 p.1 i p.2) bc (by omega) (fun b p => p = (nI (hpN (HPL rm sA sE sR) b), g)) (fun p => p = (nI (hpN (HPL rm sA sE sR) bc), g)) (by
    rintro n p I
    subst I
    refine ⟨_, ?_, rfl⟩
    simp only [f_X6_hopelessBanks_L4.eq_2]
    simp (disch := (first | assumption | (simp only [FX_si, FX_sj, FX_sr]; assumption) | omega | decide)) only [e3, ↓reduceIte, if_true, if_false, i10, i01, eq_self, bd_some, b1_some, b2_some, b3_some, b4_some, c1_eq, elim_inl, elim_inr, zok0, zok1, getQ_si, getQ_sj, getQ_sr, q8_0, q8_1, q8_2, q8_4, q8_7, q8_8, q8_9, q8_10, q8_11, q9_0, q9_3, q9_4, q9_8, q17_0, q17_1, q17_2, q17_4, q17_5, q17_6, q17_9, q17_10, q17_11, q27_4, q27_5, q27_6, q27_7, q27_8, q27_11, q45_0, q45_1, q45_11, q45_12, q45_13, q45_14, q45_15, q45_16, q45_17, q45_18, q45_19, q45_20, q45_21, q45_22, q45_23, q45_24, q45_30, q45_31, q45_32, q45_33, q45_34, q45_35, q45_36, q45_37, q45_38, q45_39, q45_43, q45_44, q45_45, q45_46, q45_47, q45_48, q45_52, q45_53, q45_54, q45_59, q45_60, q45_61, q45_62, q45_65, q45_67, q45_68, gi8, gj8, pi8, pz8, pj8, rc8, gi9, gj9, pi9, pz9, pj9, rc9, gi17, gj17, pi17, pz17, pj17, rc17, gi27, gj27, pi27, pz27, pj27, rc27, gi45, gj45, pi45, pz45, pj45, rc45, aln_si, aln_sj, aln_sq, rc_si, rc_sj, rc_sq, n0, n1, n10, n11, n12, n13, n14, n15, n16, n18, n19, n20, n21, n22, n23, n24, n25, n26, n29, n30, n31, n32, n33, n34, n35, n36, n37, n38, n39, n40, n42, n43, n44, n46, n47, n48, n49, n50, n51, n52, n53, n54, n55, n56, n57, n58, n59, n60, n61, n62, n63, n64, n65, n66, n67, n68, n69, n70, n71, n72, n73, n74, n75, n76, n77, n78, n79, n80, n81, n82, n83, n84, n85, n86, n87, r0, r1, r10, r11, r12, r13, r14, r15, r16, r18, r19, r20, r21, r22, r23, r24, r25, r26, r29, r30, r31, r32, r33, r34, r35, r36, r37, r38, r39, r40, r42, r43, r44, r46, r47, r48, r49, r50, r51, r52, r53, r54, r55, r56, r57, r58, r59, r60, r61, r62, r63, r64, r65, r66, r67, r68, r69, r70, r71, r72, r73, r74, r75, r76, r77, r78, r79, r80, r81, r82, r83, r84, r85, r86, r87, w10, w11, w12, w13, w18, w19, w20, w21, w22, w23, w24, w25, w26, w30, w31, w32, w33, w34, w35, w36, w38, w39, w40, w43, w44, w46, w47, w48, w49, w50, w51, w52, w53, w54, w55, w56, w57, w58, w59, w60, w61, w62, w63, w64, w65, w66, w67, w68, w69, w70, w71, w72, w73, w74, w75, w76, w77, w78, w79, w80, w81, w82, w83, w84, w85, w86, w87, hi_hit, hi_row, hi_col, hj_hit, hj_row, hj_col, hi_sj, hj_si, hq_si, hq_sj, hi_sq, hj_sq, hi_srh, hi_srm]
    rw [if_pos (Int32.le_refl _)]) (by
    rintro n b p hb I
    subst I
    have n1 : ¬ nI bc ≤ nI b := by rw [nI_leI (by omega) (by omega)]; omega
    have n2 : ¬ nI 10 ≤ nI b := by rw [nI_leI (by omega) (by omega)]; omega
    have hb10 : b < 10 := by omega
    have hb31 : b < 31 := by omega
    obtain ⟨q1, q2, q3, q4, q5, q6, q7⟩ := D.2.2.2.2.2.2.2.2.2.1 b hb
    obtain ⟨z, a1, a2⟩ := c_hope31 D hb (nI (hpN (HPL rm sA sE sR) b))
    refine Or.inr ⟨(nI (hpN (HPL rm sA sE sR) (b + 1)), g), ?_, rfl⟩
    have em : nI (hpN (HPL rm sA sE sR) (b + 1)) = if HPL rm sA sE sR b = true then nI (hpN (HPL rm sA sE sR) b) ||| nI (2 ^ b) else nI (hpN (HPL rm sA sE sR) b) := by
      show nI (hpN (HPL rm sA sE sR) b ||| (if HPL rm sA sE sR b = true then 2 ^ b else 0)) = _
      split
      · rw [bor_of]
      · rw [Nat.or_zero]
    by_cases c1 : hi g 20 b < 0
    · have hh : HPL rm sA sE sR b = true := decide_eq_true (Or.inl (by rw [← q3]; exact Int32.lt_iff_toInt_lt.mp c1))
      rw [if_pos hh] at em
      simp only [f_X6_hopelessBanks_L4.eq_2, em]
      simp (disch := (first | assumption | (simp only [FX_si, FX_sj, FX_sr]; assumption) | omega | decide)) only [e3, n1, n2, q1, a1, c1, shl_of, nI_1, ↓reduceIte, if_true, if_false, i10, i01, eq_self, bd_some, b1_some, b2_some, b3_some, b4_some, c1_eq, elim_inl, elim_inr, zok0, zok1, getQ_si, getQ_sj, getQ_sr, q8_0, q8_1, q8_2, q8_4, q8_7, q8_8, q8_9, q8_10, q8_11, q9_0, q9_3, q9_4, q9_8, q17_0, q17_1, q17_2, q17_4, q17_5, q17_6, q17_9, q17_10, q17_11, q27_4, q27_5, q27_6, q27_7, q27_8, q27_11, q45_0, q45_1, q45_11, q45_12, q45_13, q45_14, q45_15, q45_16, q45_17, q45_18, q45_19, q45_20, q45_21, q45_22, q45_23, q45_24, q45_30, q45_31, q45_32, q45_33, q45_34, q45_35, q45_36, q45_37, q45_38, q45_39, q45_43, q45_44, q45_45, q45_46, q45_47, q45_48, q45_52, q45_53, q45_54, q45_59, q45_60, q45_61, q45_62, q45_65, q45_67, q45_68, gi8, gj8, pi8, pz8, pj8, rc8, gi9, gj9, pi9, pz9, pj9, rc9, gi17, gj17, pi17, pz17, pj17, rc17, gi27, gj27, pi27, pz27, pj27, rc27, gi45, gj45, pi45, pz45, pj45, rc45, aln_si, aln_sj, aln_sq, rc_si, rc_sj, rc_sq, n0, n1, n10, n11, n12, n13, n14, n15, n16, n18, n19, n20, n21, n22, n23, n24, n25, n26, n29, n30, n31, n32, n33, n34, n35, n36, n37, n38, n39, n40, n42, n43, n44, n46, n47, n48, n49, n50, n51, n52, n53, n54, n55, n56, n57, n58, n59, n60, n61, n62, n63, n64, n65, n66, n67, n68, n69, n70, n71, n72, n73, n74, n75, n76, n77, n78, n79, n80, n81, n82, n83, n84, n85, n86, n87, r0, r1, r10, r11, r12, r13, r14, r15, r16, r18, r19, r20, r21, r22, r23, r24, r25, r26, r29, r30, r31, r32, r33, r34, r35, r36, r37, r38, r39, r40, r42, r43, r44, r46, r47, r48, r49, r50, r51, r52, r53, r54, r55, r56, r57, r58, r59, r60, r61, r62, r63, r64, r65, r66, r67, r68, r69, r70, r71, r72, r73, r74, r75, r76, r77, r78, r79, r80, r81, r82, r83, r84, r85, r86, r87, w10, w11, w12, w13, w18, w19, w20, w21, w22, w23, w24, w25, w26, w30, w31, w32, w33, w34, w35, w36, w38, w39, w40, w43, w44, w46, w47, w48, w49, w50, w51, w52, w53, w54, w55, w56, w57, w58, w59, w60, w61, w62, w63, w64, w65, w66, w67, w68, w69, w70, w71, w72, w73, w74, w75, w76, w77, w78, w79, w80, w81, w82, w83, w84, w85, w86, w87, hi_hit, hi_row, hi_col, hj_hit, hj_row, hj_col, hi_sj, hj_si, hq_si, hq_sj, hi_sq, hj_sq, hi_srh, hi_srm]
    · have c1' : ¬ sR b < 0 := by rw [← q3]; exact fun q => c1 (Int32.lt_iff_toInt_lt.mpr q)
      by_cases c2 : hi g 20 b ≤ z
      · have hh : ¬ HPL rm sA sE sR b = true := by
          intro q
          have := of_decide_eq_true q
          have := Int32.le_iff_toInt_le.mp c2
          omega
        rw [if_neg hh] at em
        simp only [f_X6_hopelessBanks_L4.eq_2, em]
        simp (disch := (first | assumption | (simp only [FX_si, FX_sj, FX_sr]; assumption) | omega | decide)) only [e3, n1, n2, q1, a1, c1, c2, shl_of, nI_1, ↓reduceIte, if_true, if_false, i10, i01, eq_self, bd_some, b1_some, b2_some, b3_some, b4_some, c1_eq, elim_inl, elim_inr, zok0, zok1, getQ_si, getQ_sj, getQ_sr, q8_0, q8_1, q8_2, q8_4, q8_7, q8_8, q8_9, q8_10, q8_11, q9_0, q9_3, q9_4, q9_8, q17_0, q17_1, q17_2, q17_4, q17_5, q17_6, q17_9, q17_10, q17_11, q27_4, q27_5, q27_6, q27_7, q27_8, q27_11, q45_0, q45_1, q45_11, q45_12, q45_13, q45_14, q45_15, q45_16, q45_17, q45_18, q45_19, q45_20, q45_21, q45_22, q45_23, q45_24, q45_30, q45_31, q45_32, q45_33, q45_34, q45_35, q45_36, q45_37, q45_38, q45_39, q45_43, q45_44, q45_45, q45_46, q45_47, q45_48, q45_52, q45_53, q45_54, q45_59, q45_60, q45_61, q45_62, q45_65, q45_67, q45_68, gi8, gj8, pi8, pz8, pj8, rc8, gi9, gj9, pi9, pz9, pj9, rc9, gi17, gj17, pi17, pz17, pj17, rc17, gi27, gj27, pi27, pz27, pj27, rc27, gi45, gj45, pi45, pz45, pj45, rc45, aln_si, aln_sj, aln_sq, rc_si, rc_sj, rc_sq, n0, n1, n10, n11, n12, n13, n14, n15, n16, n18, n19, n20, n21, n22, n23, n24, n25, n26, n29, n30, n31, n32, n33, n34, n35, n36, n37, n38, n39, n40, n42, n43, n44, n46, n47, n48, n49, n50, n51, n52, n53, n54, n55, n56, n57, n58, n59, n60, n61, n62, n63, n64, n65, n66, n67, n68, n69, n70, n71, n72, n73, n74, n75, n76, n77, n78, n79, n80, n81, n82, n83, n84, n85, n86, n87, r0, r1, r10, r11, r12, r13, r14, r15, r16, r18, r19, r20, r21, r22, r23, r24, r25, r26, r29, r30, r31, r32, r33, r34, r35, r36, r37, r38, r39, r40, r42, r43, r44, r46, r47, r48, r49, r50, r51, r52, r53, r54, r55, r56, r57, r58, r59, r60, r61, r62, r63, r64, r65, r66, r67, r68, r69, r70, r71, r72, r73, r74, r75, r76, r77, r78, r79, r80, r81, r82, r83, r84, r85, r86, r87, w10, w11, w12, w13, w18, w19, w20, w21, w22, w23, w24, w25, w26, w30, w31, w32, w33, w34, w35, w36, w38, w39, w40, w43, w44, w46, w47, w48, w49, w50, w51, w52, w53, w54, w55, w56, w57, w58, w59, w60, w61, w62, w63, w64, w65, w66, w67, w68, w69, w70, w71, w72, w73, w74, w75, w76, w77, w78, w79, w80, w81, w82, w83, w84, w85, w86, w87, hi_hit, hi_row, hi_col, hj_hit, hj_row, hj_col, hi_sj, hj_si, hq_si, hq_sj, hi_sq, hj_sq, hi_srh, hi_srm]
      · have hh : HPL rm sA sE sR b = true := decide_eq_true (Or.inr (by
          have : ¬ (hi g 20 b).toInt ≤ z.toInt := fun q => c2 (Int32.le_iff_toInt_le.mpr q)
          omega))
        rw [if_pos hh] at em
        simp only [f_X6_hopelessBanks_L4.eq_2, em]
        simp (disch := (first | assumption | (simp only [FX_si, FX_sj, FX_sr]; assumption) | omega | decide)) only [e3, n1, n2, q1, a1, c1, c2, shl_of, nI_1, ↓reduceIte, if_true, if_false, i10, i01, eq_self, bd_some, b1_some, b2_some, b3_some, b4_some, c1_eq, elim_inl, elim_inr, zok0, zok1, getQ_si, getQ_sj, getQ_sr, q8_0, q8_1, q8_2, q8_4, q8_7, q8_8, q8_9, q8_10, q8_11, q9_0, q9_3, q9_4, q9_8, q17_0, q17_1, q17_2, q17_4, q17_5, q17_6, q17_9, q17_10, q17_11, q27_4, q27_5, q27_6, q27_7, q27_8, q27_11, q45_0, q45_1, q45_11, q45_12, q45_13, q45_14, q45_15, q45_16, q45_17, q45_18, q45_19, q45_20, q45_21, q45_22, q45_23, q45_24, q45_30, q45_31, q45_32, q45_33, q45_34, q45_35, q45_36, q45_37, q45_38, q45_39, q45_43, q45_44, q45_45, q45_46, q45_47, q45_48, q45_52, q45_53, q45_54, q45_59, q45_60, q45_61, q45_62, q45_65, q45_67, q45_68, gi8, gj8, pi8, pz8, pj8, rc8, gi9, gj9, pi9, pz9, pj9, rc9, gi17, gj17, pi17, pz17, pj17, rc17, gi27, gj27, pi27, pz27, pj27, rc27, gi45, gj45, pi45, pz45, pj45, rc45, aln_si, aln_sj, aln_sq, rc_si, rc_sj, rc_sq, n0, n1, n10, n11, n12, n13, n14, n15, n16, n18, n19, n20, n21, n22, n23, n24, n25, n26, n29, n30, n31, n32, n33, n34, n35, n36, n37, n38, n39, n40, n42, n43, n44, n46, n47, n48, n49, n50, n51, n52, n53, n54, n55, n56, n57, n58, n59, n60, n61, n62, n63, n64, n65, n66, n67, n68, n69, n70, n71, n72, n73, n74, n75, n76, n77, n78, n79, n80, n81, n82, n83, n84, n85, n86, n87, r0, r1, r10, r11, r12, r13, r14, r15, r16, r18, r19, r20, r21, r22, r23, r24, r25, r26, r29, r30, r31, r32, r33, r34, r35, r36, r37, r38, r39, r40, r42, r43, r44, r46, r47, r48, r49, r50, r51, r52, r53, r54, r55, r56, r57, r58, r59, r60, r61, r62, r63, r64, r65, r66, r67, r68, r69, r70, r71, r72, r73, r74, r75, r76, r77, r78, r79, r80, r81, r82, r83, r84, r85, r86, r87, w10, w11, w12, w13, w18, w19, w20, w21, w22, w23, w24, w25, w26, w30, w31, w32, w33, w34, w35, w36, w38, w39, w40, w43, w44, w46, w47, w48, w49, w50, w51, w52, w53, w54, w55, w56, w57, w58, w59, w60, w61, w62, w63, w64, w65, w66, w67, w68, w69, w70, w71, w72, w73, w74, w75, w76, w77, w78, w79, w80, w81, w82, w83, w84, w85, w86, w87, hi_hit, hi_row, hi_col, hj_hit, hj_row, hj_col, hi_sj, hj_si, hq_si, hq_sj, hi_sq, hj_sq, hi_srh, hi_srm]) (i0 := 0) (s := (nI 0, g)) (Nat.zero_le _) rfl
  subst h2
  unfold f_X6_hopelessBanks
  have h1' : f_X6_hopelessBanks_L4 fu 17 0 0 g = some (nI (hpN (HPL rm sA sE sR) bc), g) := h1
  rw [h1', b1_some]
theorem c_leave17 (D : DXC g P rm bc sA sE sR al) {m : Nat} (hm : m ≤ 10) :
    ∃ r, f_X6_leaveOut_L17 fu 17 (nI (hpN (HPL rm sA sE sR) bc)) (nI m) 0 g = some r ∧ ((∃ s g', r = Sum.inl (nI s, g') ∧ Fr [24] [] g g' ∧ s < 2 ^ bc ∧ pc s = m ∧ (∃ y, PWAY P rm sA sE sR bc (btB s) y) ∧ ∀ t, t < s → pc t = m → ¬ ∃ y, PWAY P rm sA sE sR bc (btB t) y) ∨ (∃ g', r = Sum.inr g' ∧ Fr [24] [] g g' ∧ ∀ t, t < 2 ^ bc → pc t = m → ¬ ∃ y, PWAY P rm sA sE sR bc (btB t) y)) := by
  have hbc := D.2.2.2.2.2.2.1
  have hp := p2_le hbc
  refine forN (fun n v g => f_X6_leaveOut_L17 n 17 (nI (hpN (HPL rm sA sE sR) bc)) (nI m) v g) (2 ^ bc) (by omega) (fun s g' => Fr [24] [] g g' ∧ ∀ t, t < s → pc t = m → ¬ ∃ y, PWAY P rm sA sE sR bc (btB t) y)
    (fun r => (∃ s g', r = Sum.inl (nI s, g') ∧ Fr [24] [] g g' ∧ s < 2 ^ bc ∧ pc s = m ∧ (∃ y, PWAY P rm sA sE sR bc (btB s) y) ∧ ∀ t, t < s → pc t = m → ¬ ∃ y, PWAY P rm sA sE sR bc (btB t) y) ∨ (∃ g', r = Sum.inr g' ∧ Fr [24] [] g g' ∧ ∀ t, t < 2 ^ bc → pc t = m → ¬ ∃ y, PWAY P rm sA sE sR bc (btB t) y)) ?_ ?_ (i0 := 0) (Nat.zero_le _) ⟨Fr.rfl, fun t ht => absurd ht (Nat.not_lt_zero _)⟩
  · rintro n g1 ⟨I1, I2⟩
    have D1 := D.fr I1 (by decide) (by decide)
    have F1 := D1.1
    have e3 := D1.2.2.2.2.2.2.2.1
    have hb31 : bc < 31 := by omega
    refine ⟨Sum.inr g1, ?_, Or.inr ⟨g1, rfl, I1, I2⟩⟩
    simp only [f_X6_leaveOut_L17.eq_2]
    simp (disch := (first | assumption | (simp only [FX_si, FX_sj, FX_sr]; assumption) | omega | decide)) only [e3, shl_of, ↓reduceIte, if_true, if_false, i10, i01, eq_self, bd_some, b1_some, b2_some, b3_some, b4_some, c1_eq, elim_inl, elim_inr, zok0, zok1, getQ_si, getQ_sj, getQ_sr, q8_0, q8_1, q8_2, q8_4, q8_7, q8_8, q8_9, q8_10, q8_11, q9_0, q9_3, q9_4, q9_8, q17_0, q17_1, q17_2, q17_4, q17_5, q17_6, q17_9, q17_10, q17_11, q27_4, q27_5, q27_6, q27_7, q27_8, q27_11, q45_0, q45_1, q45_11, q45_12, q45_13, q45_14, q45_15, q45_16, q45_17, q45_18, q45_19, q45_20, q45_21, q45_22, q45_23, q45_24, q45_30, q45_31, q45_32, q45_33, q45_34, q45_35, q45_36, q45_37, q45_38, q45_39, q45_43, q45_44, q45_45, q45_46, q45_47, q45_48, q45_52, q45_53, q45_54, q45_59, q45_60, q45_61, q45_62, q45_65, q45_67, q45_68, gi8, gj8, pi8, pz8, pj8, rc8, gi9, gj9, pi9, pz9, pj9, rc9, gi17, gj17, pi17, pz17, pj17, rc17, gi27, gj27, pi27, pz27, pj27, rc27, gi45, gj45, pi45, pz45, pj45, rc45, aln_si, aln_sj, aln_sq, rc_si, rc_sj, rc_sq, n0, n1, n10, n11, n12, n13, n14, n15, n16, n18, n19, n20, n21, n22, n23, n24, n25, n26, n29, n30, n31, n32, n33, n34, n35, n36, n37, n38, n39, n40, n42, n43, n44, n46, n47, n48, n49, n50, n51, n52, n53, n54, n55, n56, n57, n58, n59, n60, n61, n62, n63, n64, n65, n66, n67, n68, n69, n70, n71, n72, n73, n74, n75, n76, n77, n78, n79, n80, n81, n82, n83, n84, n85, n86, n87, r0, r1, r10, r11, r12, r13, r14, r15, r16, r18, r19, r20, r21, r22, r23, r24, r25, r26, r29, r30, r31, r32, r33, r34, r35, r36, r37, r38, r39, r40, r42, r43, r44, r46, r47, r48, r49, r50, r51, r52, r53, r54, r55, r56, r57, r58, r59, r60, r61, r62, r63, r64, r65, r66, r67, r68, r69, r70, r71, r72, r73, r74, r75, r76, r77, r78, r79, r80, r81, r82, r83, r84, r85, r86, r87, w10, w11, w12, w13, w18, w19, w20, w21, w22, w23, w24, w25, w26, w30, w31, w32, w33, w34, w35, w36, w38, w39, w40, w43, w44, w46, w47, w48, w49, w50, w51, w52, w53, w54, w55, w56, w57, w58, w59, w60, w61, w62, w63, w64, w65, w66, w67, w68, w69, w70, w71, w72, w73, w74, w75, w76, w77, w78, w79, w80, w81, w82, w83, w84, w85, w86, w87, hi_hit, hi_row, hi_col, hj_hit, hj_row, hj_col, hi_sj, hj_si, hq_si, hq_sj, hi_sq, hj_sq, hi_srh, hi_srm]
    rw [if_pos (Int32.le_refl _)]
  · rintro n s g1 hs ⟨I1, I2⟩
    have D1 := D.fr I1 (by decide) (by decide)
    have F1 := D1.1
    have e3 := D1.2.2.2.2.2.2.2.1
    have hb31 : bc < 31 := by omega
    have hne : ¬ nI (2 ^ bc) ≤ nI s := by rw [nI_leI (by omega) (by omega)]; omega
    have hlt := hpN_lt (HPL rm sA sE sR) bc
    have ha := andn_of (a := hpN (HPL rm sA sE sR) bc) (b := s) (by omega)
    have hbit := bitC (s := s) (by omega) g1
    have more : ∀ g2, Fr [24] [] g1 g2 → (¬ ∃ y, PWAY P rm sA sE sR bc (btB s) y) ∨ ¬ pc s = m → Fr [24] [] g g2 ∧ ∀ t, t < s + 1 → pc t = m → ¬ ∃ y, PWAY P rm sA sE sR bc (btB t) y := by
      intro g2 fr h
      refine ⟨I1.trans fr, fun t ht htm => ?_⟩
      rcases Nat.lt_or_ge t s with z | z
      · exact I2 t z htm
      · rw [show t = s by omega] at htm ⊢
        exact h.elim id (fun q => absurd htm q)
    by_cases c : (nI (hpN (HPL rm sA sE sR) bc) &&& (nI s ^^^ (-1 : Int32))) = 0
    · by_cases q : pc s = m
      · obtain ⟨g2, a1, a2, a3⟩ := fill_of (F1.kd (a := 24) (by decide) (by decide) rfl) (by decide) (by decide) (0 : Int32)
        have D2 := D1.fr a2 (by decide) (by decide)
        have F2 := D2.1
        obtain ⟨x, g3, b1', b2', b3'⟩ := c_can D2 (s := s) (by omega) a3
        rcases b3' with ⟨rfl, y⟩ | ⟨rfl, y⟩
        · refine Or.inl ⟨Sum.inl (nI s, g3), ?_, Or.inl ⟨s, g3, rfl, (I1.trans a2).trans b2', hs, q, y, I2⟩⟩
          simp only [f_X6_leaveOut_L17.eq_2]
          simp (disch := (first | assumption | (simp only [FX_si, FX_sj, FX_sr]; assumption) | omega | decide)) only [e3, shl_of, hne, c, hbit, q, a1, b1', ↓reduceIte, if_true, if_false, i10, i01, eq_self, bd_some, b1_some, b2_some, b3_some, b4_some, c1_eq, elim_inl, elim_inr, zok0, zok1, getQ_si, getQ_sj, getQ_sr, q8_0, q8_1, q8_2, q8_4, q8_7, q8_8, q8_9, q8_10, q8_11, q9_0, q9_3, q9_4, q9_8, q17_0, q17_1, q17_2, q17_4, q17_5, q17_6, q17_9, q17_10, q17_11, q27_4, q27_5, q27_6, q27_7, q27_8, q27_11, q45_0, q45_1, q45_11, q45_12, q45_13, q45_14, q45_15, q45_16, q45_17, q45_18, q45_19, q45_20, q45_21, q45_22, q45_23, q45_24, q45_30, q45_31, q45_32, q45_33, q45_34, q45_35, q45_36, q45_37, q45_38, q45_39, q45_43, q45_44, q45_45, q45_46, q45_47, q45_48, q45_52, q45_53, q45_54, q45_59, q45_60, q45_61, q45_62, q45_65, q45_67, q45_68, gi8, gj8, pi8, pz8, pj8, rc8, gi9, gj9, pi9, pz9, pj9, rc9, gi17, gj17, pi17, pz17, pj17, rc17, gi27, gj27, pi27, pz27, pj27, rc27, gi45, gj45, pi45, pz45, pj45, rc45, aln_si, aln_sj, aln_sq, rc_si, rc_sj, rc_sq, n0, n1, n10, n11, n12, n13, n14, n15, n16, n18, n19, n20, n21, n22, n23, n24, n25, n26, n29, n30, n31, n32, n33, n34, n35, n36, n37, n38, n39, n40, n42, n43, n44, n46, n47, n48, n49, n50, n51, n52, n53, n54, n55, n56, n57, n58, n59, n60, n61, n62, n63, n64, n65, n66, n67, n68, n69, n70, n71, n72, n73, n74, n75, n76, n77, n78, n79, n80, n81, n82, n83, n84, n85, n86, n87, r0, r1, r10, r11, r12, r13, r14, r15, r16, r18, r19, r20, r21, r22, r23, r24, r25, r26, r29, r30, r31, r32, r33, r34, r35, r36, r37, r38, r39, r40, r42, r43, r44, r46, r47, r48, r49, r50, r51, r52, r53, r54, r55, r56, r57, r58, r59, r60, r61, r62, r63, r64, r65, r66, r67, r68, r69, r70, r71, r72, r73, r74, r75, r76, r77, r78, r79, r80, r81, r82, r83, r84, r85, r86, r87, w10, w11, w12, w13, w18, w19, w20, w21, w22, w23, w24, w25, w26, w30, w31, w32, w33, w34, w35, w36, w38, w39, w40, w43, w44, w46, w47, w48, w49, w50, w51, w52, w53, w54, w55, w56, w57, w58, w59, w60, w61, w62, w63, w64, w65, w66, w67, w68, w69, w70, w71, w72, w73, w74, w75, w76, w77, w78, w79, w80, w81, w82, w83, w84, w85, w86, w87, hi_hit, hi_row, hi_col, hj_hit, hj_row, hj_col, hi_sj, hj_si, hq_si, hq_sj, hi_sq, hj_sq, hi_srh, hi_srm]
        · refine Or.inr ⟨g3, ?_, more g3 (a2.trans b2') (Or.inl y)⟩
          simp only [f_X6_leaveOut_L17.eq_2]
          simp (disch := (first | assumption | (simp only [FX_si, FX_sj, FX_sr]; assumption) | omega | decide)) only [e3, shl_of, hne, c, hbit, q, a1, b1', nI_1, ↓reduceIte, if_true, if_false, i10, i01, eq_self, bd_some, b1_some, b2_some, b3_some, b4_some, c1_eq, elim_inl, elim_inr, zok0, zok1, getQ_si, getQ_sj, getQ_sr, q8_0, q8_1, q8_2, q8_4, q8_7, q8_8, q8_9, q8_10, q8_11, q9_0, q9_3, q9_4, q9_8, q17_0, q17_1, q17_2, q17_4, q17_5, q17_6, q17_9, q17_10, q17_11, q27_4, q27_5, q27_6, q27_7, q27_8, q27_11, q45_0, q45_1, q45_11, q45_12, q45_13, q45_14, q45_15, q45_16, q45_17, q45_18, q45_19, q45_20, q45_21, q45_22, q45_23, q45_24, q45_30, q45_31, q45_32, q45_33, q45_34, q45_35, q45_36, q45_37, q45_38, q45_39, q45_43, q45_44, q45_45, q45_46, q45_47, q45_48, q45_52, q45_53, q45_54, q45_59, q45_60, q45_61, q45_62, q45_65, q45_67, q45_68, gi8, gj8, pi8, pz8, pj8, rc8, gi9, gj9, pi9, pz9, pj9, rc9, gi17, gj17, pi17, pz17, pj17, rc17, gi27, gj27, pi27, pz27, pj27, rc27, gi45, gj45, pi45, pz45, pj45, rc45, aln_si, aln_sj, aln_sq, rc_si, rc_sj, rc_sq, n0, n1, n10, n11, n12, n13, n14, n15, n16, n18, n19, n20, n21, n22, n23, n24, n25, n26, n29, n30, n31, n32, n33, n34, n35, n36, n37, n38, n39, n40, n42, n43, n44, n46, n47, n48, n49, n50, n51, n52, n53, n54, n55, n56, n57, n58, n59, n60, n61, n62, n63, n64, n65, n66, n67, n68, n69, n70, n71, n72, n73, n74, n75, n76, n77, n78, n79, n80, n81, n82, n83, n84, n85, n86, n87, r0, r1, r10, r11, r12, r13, r14, r15, r16, r18, r19, r20, r21, r22, r23, r24, r25, r26, r29, r30, r31, r32, r33, r34, r35, r36, r37, r38, r39, r40, r42, r43, r44, r46, r47, r48, r49, r50, r51, r52, r53, r54, r55, r56, r57, r58, r59, r60, r61, r62, r63, r64, r65, r66, r67, r68, r69, r70, r71, r72, r73, r74, r75, r76, r77, r78, r79, r80, r81, r82, r83, r84, r85, r86, r87, w10, w11, w12, w13, w18, w19, w20, w21, w22, w23, w24, w25, w26, w30, w31, w32, w33, w34, w35, w36, w38, w39, w40, w43, w44, w46, w47, w48, w49, w50, w51, w52, w53, w54, w55, w56, w57, w58, w59, w60, w61, w62, w63, w64, w65, w66, w67, w68, w69, w70, w71, w72, w73, w74, w75, w76, w77, w78, w79, w80, w81, w82, w83, w84, w85, w86, w87, hi_hit, hi_row, hi_col, hj_hit, hj_row, hj_col, hi_sj, hj_si, hq_si, hq_sj, hi_sq, hj_sq, hi_srh, hi_srm]
      · have q' : ¬ nI (pc s) = nI m := by
          have := bts_le s 10
          rw [nI_eq (by unfold pc; omega) (by omega)]; exact q
        refine Or.inr ⟨g1, ?_, more g1 Fr.rfl (Or.inr q)⟩
        simp only [f_X6_leaveOut_L17.eq_2]
        simp (disch := (first | assumption | (simp only [FX_si, FX_sj, FX_sr]; assumption) | omega | decide)) only [e3, shl_of, hne, c, hbit, q', nI_1, ↓reduceIte, if_true, if_false, i10, i01, eq_self, bd_some, b1_some, b2_some, b3_some, b4_some, c1_eq, elim_inl, elim_inr, zok0, zok1, getQ_si, getQ_sj, getQ_sr, q8_0, q8_1, q8_2, q8_4, q8_7, q8_8, q8_9, q8_10, q8_11, q9_0, q9_3, q9_4, q9_8, q17_0, q17_1, q17_2, q17_4, q17_5, q17_6, q17_9, q17_10, q17_11, q27_4, q27_5, q27_6, q27_7, q27_8, q27_11, q45_0, q45_1, q45_11, q45_12, q45_13, q45_14, q45_15, q45_16, q45_17, q45_18, q45_19, q45_20, q45_21, q45_22, q45_23, q45_24, q45_30, q45_31, q45_32, q45_33, q45_34, q45_35, q45_36, q45_37, q45_38, q45_39, q45_43, q45_44, q45_45, q45_46, q45_47, q45_48, q45_52, q45_53, q45_54, q45_59, q45_60, q45_61, q45_62, q45_65, q45_67, q45_68, gi8, gj8, pi8, pz8, pj8, rc8, gi9, gj9, pi9, pz9, pj9, rc9, gi17, gj17, pi17, pz17, pj17, rc17, gi27, gj27, pi27, pz27, pj27, rc27, gi45, gj45, pi45, pz45, pj45, rc45, aln_si, aln_sj, aln_sq, rc_si, rc_sj, rc_sq, n0, n1, n10, n11, n12, n13, n14, n15, n16, n18, n19, n20, n21, n22, n23, n24, n25, n26, n29, n30, n31, n32, n33, n34, n35, n36, n37, n38, n39, n40, n42, n43, n44, n46, n47, n48, n49, n50, n51, n52, n53, n54, n55, n56, n57, n58, n59, n60, n61, n62, n63, n64, n65, n66, n67, n68, n69, n70, n71, n72, n73, n74, n75, n76, n77, n78, n79, n80, n81, n82, n83, n84, n85, n86, n87, r0, r1, r10, r11, r12, r13, r14, r15, r16, r18, r19, r20, r21, r22, r23, r24, r25, r26, r29, r30, r31, r32, r33, r34, r35, r36, r37, r38, r39, r40, r42, r43, r44, r46, r47, r48, r49, r50, r51, r52, r53, r54, r55, r56, r57, r58, r59, r60, r61, r62, r63, r64, r65, r66, r67, r68, r69, r70, r71, r72, r73, r74, r75, r76, r77, r78, r79, r80, r81, r82, r83, r84, r85, r86, r87, w10, w11, w12, w13, w18, w19, w20, w21, w22, w23, w24, w25, w26, w30, w31, w32, w33, w34, w35, w36, w38, w39, w40, w43, w44, w46, w47, w48, w49, w50, w51, w52, w53, w54, w55, w56, w57, w58, w59, w60, w61, w62, w63, w64, w65, w66, w67, w68, w69, w70, w71, w72, w73, w74, w75, w76, w77, w78, w79, w80, w81, w82, w83, w84, w85, w86, w87, hi_hit, hi_row, hi_col, hj_hit, hj_row, hj_col, hi_sj, hj_si, hq_si, hq_sj, hi_sq, hj_sq, hi_srh, hi_srm]
    · refine Or.inr ⟨g1, ?_, more g1 Fr.rfl (Or.inl ?_)⟩
      · simp only [f_X6_leaveOut_L17.eq_2]
        simp (disch := (first | assumption | (simp only [FX_si, FX_sj, FX_sr]; assumption) | omega | decide)) only [e3, shl_of, hne, c, nI_1, ↓reduceIte, if_true, if_false, i10, i01, eq_self, bd_some, b1_some, b2_some, b3_some, b4_some, c1_eq, elim_inl, elim_inr, zok0, zok1, getQ_si, getQ_sj, getQ_sr, q8_0, q8_1, q8_2, q8_4, q8_7, q8_8, q8_9, q8_10, q8_11, q9_0, q9_3, q9_4, q9_8, q17_0, q17_1, q17_2, q17_4, q17_5, q17_6, q17_9, q17_10, q17_11, q27_4, q27_5, q27_6, q27_7, q27_8, q27_11, q45_0, q45_1, q45_11, q45_12, q45_13, q45_14, q45_15, q45_16, q45_17, q45_18, q45_19, q45_20, q45_21, q45_22, q45_23, q45_24, q45_30, q45_31, q45_32, q45_33, q45_34, q45_35, q45_36, q45_37, q45_38, q45_39, q45_43, q45_44, q45_45, q45_46, q45_47, q45_48, q45_52, q45_53, q45_54, q45_59, q45_60, q45_61, q45_62, q45_65, q45_67, q45_68, gi8, gj8, pi8, pz8, pj8, rc8, gi9, gj9, pi9, pz9, pj9, rc9, gi17, gj17, pi17, pz17, pj17, rc17, gi27, gj27, pi27, pz27, pj27, rc27, gi45, gj45, pi45, pz45, pj45, rc45, aln_si, aln_sj, aln_sq, rc_si, rc_sj, rc_sq, n0, n1, n10, n11, n12, n13, n14, n15, n16, n18, n19, n20, n21, n22, n23, n24, n25, n26, n29, n30, n31, n32, n33, n34, n35, n36, n37, n38, n39, n40, n42, n43, n44, n46, n47, n48, n49, n50, n51, n52, n53, n54, n55, n56, n57, n58, n59, n60, n61, n62, n63, n64, n65, n66, n67, n68, n69, n70, n71, n72, n73, n74, n75, n76, n77, n78, n79, n80, n81, n82, n83, n84, n85, n86, n87, r0, r1, r10, r11, r12, r13, r14, r15, r16, r18, r19, r20, r21, r22, r23, r24, r25, r26, r29, r30, r31, r32, r33, r34, r35, r36, r37, r38, r39, r40, r42, r43, r44, r46, r47, r48, r49, r50, r51, r52, r53, r54, r55, r56, r57, r58, r59, r60, r61, r62, r63, r64, r65, r66, r67, r68, r69, r70, r71, r72, r73, r74, r75, r76, r77, r78, r79, r80, r81, r82, r83, r84, r85, r86, r87, w10, w11, w12, w13, w18, w19, w20, w21, w22, w23, w24, w25, w26, w30, w31, w32, w33, w34, w35, w36, w38, w39, w40, w43, w44, w46, w47, w48, w49, w50, w51, w52, w53, w54, w55, w56, w57, w58, w59, w60, w61, w62, w63, w64, w65, w66, w67, w68, w69, w70, w71, w72, w73, w74, w75, w76, w77, w78, w79, w80, w81, w82, w83, w84, w85, w86, w87, hi_hit, hi_row, hi_col, hj_hit, hj_row, hj_col, hi_sj, hj_si, hq_si, hq_sj, hi_sq, hj_sq, hi_srh, hi_srm]
      · rintro ⟨y, hy⟩
        refine c (ha.mpr fun i hi' => ?_)
        rw [hpN_tb, Bool.and_eq_true, decide_eq_true_eq] at hi'
        rw [← btB_tb]
        exact HPL_out D hy hi'.1 hi'.2
theorem c_leave10 (D : DXC g P rm bc sA sE sR al) {m : Nat} (hm : m ≤ 10) (hmin : ∀ t, t < 2 ^ bc → pc t < m → ¬ ∃ y, PWAY P rm sA sE sR bc (btB t) y) :
    ∃ r, f_X6_leaveOut_L10 fu 17 (nI (hpN (HPL rm sA sE sR) bc)) (nI m) g = some r ∧ ((∃ q g', r = Sum.inl (q, g') ∧ Fr [24] [] g g' ∧ QUp (fun s => ∃ y, PWAY P rm sA sE sR bc (btB s) y) bc q) ∨ (∃ g', r = Sum.inr g' ∧ Fr [24] [] g g' ∧ QUp (fun s => ∃ y, PWAY P rm sA sE sR bc (btB s) y) bc (-1))) := by
  refine forN (fun n v g => f_X6_leaveOut_L10 n 17 (nI (hpN (HPL rm sA sE sR) bc)) v g) (max 4 m) (by omega) (fun m g' => Fr [24] [] g g' ∧ ∀ t, t < 2 ^ bc → pc t < m → ¬ ∃ y, PWAY P rm sA sE sR bc (btB t) y)
    (fun r => (∃ q g', r = Sum.inl (q, g') ∧ Fr [24] [] g g' ∧ QUp (fun s => ∃ y, PWAY P rm sA sE sR bc (btB s) y) bc q) ∨ (∃ g', r = Sum.inr g' ∧ Fr [24] [] g g' ∧ QUp (fun s => ∃ y, PWAY P rm sA sE sR bc (btB s) y) bc (-1))) ?_ ?_ (i0 := m) (by omega) ⟨Fr.rfl, hmin⟩
  · rintro n g1 ⟨I1, I2⟩
    refine ⟨Sum.inr g1, ?_, Or.inr ⟨g1, rfl, I1, Or.inr ⟨rfl, fun s hs hc => ?_⟩⟩⟩
    · simp only [f_X6_leaveOut_L10.eq_2]
      rw [if_pos (by rw [L3, nI_ltI (by omega) (by omega)]; omega)]
    · refine Nat.not_le.mp fun q => ?_
      exact I2 s hs (by omega) hc
  · rintro n m1 g1 hm1 ⟨I1, I2⟩
    have D1 := D.fr I1 (by decide) (by decide)
    by_cases q : 3 < m1
    · left
      refine ⟨Sum.inr g1, ?_, Or.inr ⟨g1, rfl, I1, Or.inr ⟨rfl, fun s hs hc => ?_⟩⟩⟩
      · simp only [f_X6_leaveOut_L10.eq_2]
        rw [if_pos (by rw [L3, nI_ltI (by omega) (by omega)]; omega)]
      · refine Nat.not_le.mp fun z => ?_
        exact I2 s hs (by omega) hc
    · have hn3 : ¬ (3 : Int32) < nI m1 := by rw [L3, nI_ltI (by omega) (by omega)]; omega
      obtain ⟨r, y1, y2⟩ := c_leave17 D1 (m := m1) (by omega)
      have ev : f_X6_leaveOut_L10 (n + 1) 17 (nI (hpN (HPL rm sA sE sR) bc)) (nI m1) g1 = Sum.elim (c1 fun w28 h29 => some (Sum.inl (w28, h29))) (fun h30 => f_X6_leaveOut_L10 n 17 (nI (hpN (HPL rm sA sE sR) bc)) (nI (m1 + 1)) h30) r := by
        rw [f_X6_leaveOut_L10.eq_2, if_neg hn3, y1, bd_some, nI_1]
      rcases y2 with ⟨s, g2, rfl, k1, k2, k3, k4, k5⟩ | ⟨g2, rfl, k1, k2⟩
      · refine Or.inl ⟨Sum.inl (nI s, g2), ev, Or.inl ⟨nI s, g2, rfl, I1.trans k1, Or.inl ⟨s, rfl, k2, by omega, k4, fun t ht hc => ?_⟩⟩⟩
        rcases Nat.lt_trichotomy (pc t) m1 with z | z | z
        · exact absurd hc (I2 t ht z)
        · rcases Nat.lt_or_ge t s with z2 | z2
          · exact absurd hc (k5 t z2 z)
          · omega
        · omega
      · refine Or.inr ⟨g2, ev, I1.trans k1, fun t ht hlt => ?_⟩
        rcases Nat.lt_or_ge (pc t) m1 with z | z
        · exact I2 t ht z
        · exact k2 t ht (by omega)
theorem c_leave (D : DXC g P rm bc sA sE sR al) : ∃ q g', f_X6_leaveOut 17 g = some (q, g') ∧ Fr [24] [] g g' ∧ QUp (fun s => ∃ y, PWAY P rm sA sE sR bc (btB s) y) bc q := by
  have F := D.1
  have hbc := D.2.2.2.2.2.2.1
  have hp := p2_le hbc
  have hlt := hpN_lt (HPL rm sA sE sR) bc
  have hbit := bitC (s := hpN (HPL rm sA sE sR) bc) (by omega) g
  have hle := pc_le bc (by omega) _ hlt
  obtain ⟨r, h1, h2⟩ := c_leave10 D (m := pc (hpN (HPL rm sA sE sR) bc)) (by omega) (fun t ht hlt' hc => by
    obtain ⟨y, hy⟩ := hc
    have := pc_mono (a := hpN (HPL rm sA sE sR) bc) (b := t) (fun i hi' => by
      rw [hpN_tb, Bool.and_eq_true, decide_eq_true_eq] at hi'
      rw [← btB_tb]
      exact HPL_out D hy hi'.1 hi'.2)
    omega)
  have eh := c_hope D
  rcases h2 with ⟨q, g', rfl, fr, hq'⟩ | ⟨g', rfl, fr, hq'⟩
  · refine ⟨q, g', ?_, fr, hq'⟩
    unfold f_X6_leaveOut
    rw [rc17 F, bd_some, eh, b1_some, hbit, b1_some, h1, bd_some, elim_inl, c1_eq]
  · refine ⟨-1, g', ?_, fr, hq'⟩
    unfold f_X6_leaveOut
    rw [rc17 F, bd_some, eh, b1_some, hbit, b1_some, h1, bd_some, elim_inr]
theorem c_bound (D : DXC g P rm bc sA sE sR al) {s : Nat} (hs : s < 2 ^ 31) (hc : ∃ y, PWAY P rm sA sE sR bc (btB s) y) :
    ∃ g', f_X6_boundGaps 17 (nI s) g = some g' ∧ Fr [24, 25, 26] [] g g' ∧ ∀ p, p + 1 < P → PMX P rm sA sE sR bc (btB s) p (p + 1) (hi g' 26 p).toInt ∧ PMX P rm sA sE sR bc (btB s) (p + 1) p (-(hi g' 25 p).toInt) := by
  have hP20 := D.2.1
  have key : ∃ g', f_X6_boundGaps_L2 fu 17 (nI s) (nI 0) g = some g' ∧ (Fr [24, 25, 26] [] g g' ∧ ∀ p, p + 1 < P → PMX P rm sA sE sR bc (btB s) p (p + 1) (hi g' 26 p).toInt ∧ PMX P rm sA sE sR bc (btB s) (p + 1) p (-(hi g' 25 p).toInt)) := by
    refine forN (fun n v g => f_X6_boundGaps_L2 n 17 (nI s) v g) P (by omega) (fun q g' => Fr [24, 25, 26] [] g g' ∧ (∀ p, p < q → p + 1 < P → PMX P rm sA sE sR bc (btB s) p (p + 1) (hi g' 26 p).toInt) ∧ ∀ p, p + 1 < q → PMX P rm sA sE sR bc (btB s) (p + 1) p (-(hi g' 25 p).toInt)) (fun g' => Fr [24, 25, 26] [] g g' ∧ ∀ p, p + 1 < P → PMX P rm sA sE sR bc (btB s) p (p + 1) (hi g' 26 p).toInt ∧ PMX P rm sA sE sR bc (btB s) (p + 1) p (-(hi g' 25 p).toInt)) ?_ ?_ (i0 := 0) (Nat.zero_le _) ⟨Fr.rfl, fun p hp => absurd hp (Nat.not_lt_zero _), fun p hp => absurd hp (Nat.not_lt_zero _)⟩
    · rintro n g1 ⟨I1, I2, I3⟩
      have D1 := D.fr I1 (by decide) (by decide)
      have F1 := D1.1
      refine ⟨g1, ?_, I1, fun p hp => ⟨I2 p (by omega) hp, I3 p hp⟩⟩
      simp only [f_X6_boundGaps_L2.eq_2]
      simp (disch := (first | assumption | (simp only [FX_si, FX_sj, FX_sr]; assumption) | omega | decide)) only [D1.2.2.1, ↓reduceIte, if_true, if_false, i10, i01, eq_self, bd_some, b1_some, b2_some, b3_some, b4_some, c1_eq, elim_inl, elim_inr, zok0, zok1, getQ_si, getQ_sj, getQ_sr, q8_0, q8_1, q8_2, q8_4, q8_7, q8_8, q8_9, q8_10, q8_11, q9_0, q9_3, q9_4, q9_8, q17_0, q17_1, q17_2, q17_4, q17_5, q17_6, q17_9, q17_10, q17_11, q27_4, q27_5, q27_6, q27_7, q27_8, q27_11, q45_0, q45_1, q45_11, q45_12, q45_13, q45_14, q45_15, q45_16, q45_17, q45_18, q45_19, q45_20, q45_21, q45_22, q45_23, q45_24, q45_30, q45_31, q45_32, q45_33, q45_34, q45_35, q45_36, q45_37, q45_38, q45_39, q45_43, q45_44, q45_45, q45_46, q45_47, q45_48, q45_52, q45_53, q45_54, q45_59, q45_60, q45_61, q45_62, q45_65, q45_67, q45_68, gi8, gj8, pi8, pz8, pj8, rc8, gi9, gj9, pi9, pz9, pj9, rc9, gi17, gj17, pi17, pz17, pj17, rc17, gi27, gj27, pi27, pz27, pj27, rc27, gi45, gj45, pi45, pz45, pj45, rc45, aln_si, aln_sj, aln_sq, rc_si, rc_sj, rc_sq, n0, n1, n10, n11, n12, n13, n14, n15, n16, n18, n19, n20, n21, n22, n23, n24, n25, n26, n29, n30, n31, n32, n33, n34, n35, n36, n37, n38, n39, n40, n42, n43, n44, n46, n47, n48, n49, n50, n51, n52, n53, n54, n55, n56, n57, n58, n59, n60, n61, n62, n63, n64, n65, n66, n67, n68, n69, n70, n71, n72, n73, n74, n75, n76, n77, n78, n79, n80, n81, n82, n83, n84, n85, n86, n87, r0, r1, r10, r11, r12, r13, r14, r15, r16, r18, r19, r20, r21, r22, r23, r24, r25, r26, r29, r30, r31, r32, r33, r34, r35, r36, r37, r38, r39, r40, r42, r43, r44, r46, r47, r48, r49, r50, r51, r52, r53, r54, r55, r56, r57, r58, r59, r60, r61, r62, r63, r64, r65, r66, r67, r68, r69, r70, r71, r72, r73, r74, r75, r76, r77, r78, r79, r80, r81, r82, r83, r84, r85, r86, r87, w10, w11, w12, w13, w18, w19, w20, w21, w22, w23, w24, w25, w26, w30, w31, w32, w33, w34, w35, w36, w38, w39, w40, w43, w44, w46, w47, w48, w49, w50, w51, w52, w53, w54, w55, w56, w57, w58, w59, w60, w61, w62, w63, w64, w65, w66, w67, w68, w69, w70, w71, w72, w73, w74, w75, w76, w77, w78, w79, w80, w81, w82, w83, w84, w85, w86, w87, hi_hit, hi_row, hi_col, hj_hit, hj_row, hj_col, hi_sj, hj_si, hq_si, hq_sj, hi_sq, hj_sq, hi_srh, hi_srm]
      rw [if_pos (Int32.le_refl _)]
    · rintro n p g1 hp ⟨I1, I2, I3⟩
      have D1 := D.fr I1 (by decide) (by decide)
      have F1 := D1.1
      have e8 := D1.2.2.1
      have n1 : ¬ nI P ≤ nI p := by rw [nI_leI (by omega) (by omega)]; omega
      have n2 : ¬ (20 : Int32) ≤ nI p := by rw [L20, nI_leI (by omega) (by omega)]; omega
      have hp20 : p < 20 := by omega
      obtain ⟨g2, a1, a2, a3⟩ := c_reachFrom D1 hp
      have D2 := D1.fr a2 (by decide) (by decide)
      have F2 := D2.1
      have hal := D.2.2.2.2.2.2.2.2.2.2
      have al1 := D.2.2.2.2.2.1
      have z := fun i hi' => (D.2.2.2.2.2.2.2.2.1 i hi').2.1
      have ps0 : ∀ i, i ≤ 20 → 0 ≤ psm rm i := fun i hi' => by
        have c := psm_mono z (a := 0) i (by omega)
        rw [Nat.zero_add] at c
        exact c
      have below : ∀ y, PWAY P rm sA sE sR bc (btB s) y → PWAY P rm sA sE sR bc (btB s) (fun v => y v + -y p) ∧ (∀ j, j < P → y j + -y p ≤ rfs rm p j) := by
        intro y hy
        refine ⟨PW_shift hy _, fun j hj => ?_⟩
        unfold rfs
        split
        · rename_i q
          have := (P_sum2 hy q hp).1
          omega
        · have := (P_sum2 hy (i := p) (j := j) (by omega) hj).2
          omega
      obtain ⟨x, g3, b1', b2', b3'⟩ := c_rest D2 (Nat.le_refl _) hP20 (by omega) hs a3 (fun y hy => by
        obtain ⟨k1, k2⟩ := below y hy
        refine ⟨_, k1, k2, fun _ => ?_⟩
        have := (P_sum2 hy (i := 0) (j := p) (by omega) hp).2
        have := hal p (by omega)
        have e : psm rm 0 = 0 := rfl
        omega)
      rcases b3' with ⟨rfl, d, k1, k2, k3⟩ | ⟨rfl, k1⟩
      · have D3 := D2.fr b2' (by decide) (by decide)
        have F3 := D3.1
        obtain ⟨y0, hy0⟩ := hc
        have dp : d p = 0 := by
          have h1 := (k2 p hp).2
          have h2 := k3 _ (below y0 hy0).1 (below y0 hy0).2 p hp
          unfold rfs at h1
          rw [if_pos (Nat.le_refl _)] at h1
          omega
        have up : ∀ j, j < P → PMX P rm sA sE sR bc (btB s) p j (d j) := by
          intro j hj
          refine ⟨⟨d, k1, by omega⟩, fun y hy => ?_⟩
          have := k3 _ (below y hy).1 (below y hy).2 j hj
          omega
        obtain ⟨x2, ea, ex2⟩ : ∃ x2, f_X8_at (some 24) (nI (p + 1)) g3 = some (x2, g3) ∧ (p + 1 < 20 → x2 = hi g3 24 (p + 1)) := by
          by_cases q : p + 1 < 20
          · exact ⟨_, at_in (F3.kd (a := 24) (by decide) (by decide) rfl) q (by omega), fun _ => rfl⟩
          · exact ⟨_, at_out (F3.kd (a := 24) (by decide) (by decide) rfl) (by omega) (by omega), fun z => absurd z q⟩
        have fr3 : Fr [24, 25, 26] [] g g3 := (I1.trans (a2.wk (by decide) (by decide))).trans (b2'.wk (by decide) (by decide))
        have o25 : ∀ j, hi g3 25 j = hi g1 25 j := fun j => by rw [b2'.ei j (by decide) (by decide), a2.ei j (by decide) (by decide)]
        have o26 : ∀ j, hi g3 26 j = hi g1 26 j := fun j => by rw [b2'.ei j (by decide) (by decide), a2.ei j (by decide) (by decide)]
        have m26 : ∀ q, q < p + 1 → q + 1 < P → PMX P rm sA sE sR bc (btB s) q (q + 1) (hi (si g3 26 p x2) 26 q).toInt := by
          intro q hq' hqP
          by_cases e : q = p
          · subst e
            rw [hi_hit, ex2 (by omega), (k2 (q + 1) hqP).1]
            exact up _ hqP
          · rw [hi_col 26 _ e, o26]
            exact I2 q (by omega) hqP
        right
        rcases Nat.eq_zero_or_pos p with e0 | e0
        · subst e0
          refine ⟨si g3 26 0 x2, ?_, fr3.trans (Fr.row (by decide)), m26, fun q hq' => absurd hq' (by omega)⟩
          simp only [f_X6_boundGaps_L2.eq_2]
          have nz : nI 0 ≤ 0 := by decide
          simp (disch := (first | assumption | (simp only [FX_si, FX_sj, FX_sr]; assumption) | omega | decide)) only [e8, n1, n2, a1, b1', nI_1, ea, nz, ↓reduceIte, if_true, if_false, i10, i01, eq_self, bd_some, b1_some, b2_some, b3_some, b4_some, c1_eq, elim_inl, elim_inr, zok0, zok1, getQ_si, getQ_sj, getQ_sr, q8_0, q8_1, q8_2, q8_4, q8_7, q8_8, q8_9, q8_10, q8_11, q9_0, q9_3, q9_4, q9_8, q17_0, q17_1, q17_2, q17_4, q17_5, q17_6, q17_9, q17_10, q17_11, q27_4, q27_5, q27_6, q27_7, q27_8, q27_11, q45_0, q45_1, q45_11, q45_12, q45_13, q45_14, q45_15, q45_16, q45_17, q45_18, q45_19, q45_20, q45_21, q45_22, q45_23, q45_24, q45_30, q45_31, q45_32, q45_33, q45_34, q45_35, q45_36, q45_37, q45_38, q45_39, q45_43, q45_44, q45_45, q45_46, q45_47, q45_48, q45_52, q45_53, q45_54, q45_59, q45_60, q45_61, q45_62, q45_65, q45_67, q45_68, gi8, gj8, pi8, pz8, pj8, rc8, gi9, gj9, pi9, pz9, pj9, rc9, gi17, gj17, pi17, pz17, pj17, rc17, gi27, gj27, pi27, pz27, pj27, rc27, gi45, gj45, pi45, pz45, pj45, rc45, aln_si, aln_sj, aln_sq, rc_si, rc_sj, rc_sq, n0, n1, n10, n11, n12, n13, n14, n15, n16, n18, n19, n20, n21, n22, n23, n24, n25, n26, n29, n30, n31, n32, n33, n34, n35, n36, n37, n38, n39, n40, n42, n43, n44, n46, n47, n48, n49, n50, n51, n52, n53, n54, n55, n56, n57, n58, n59, n60, n61, n62, n63, n64, n65, n66, n67, n68, n69, n70, n71, n72, n73, n74, n75, n76, n77, n78, n79, n80, n81, n82, n83, n84, n85, n86, n87, r0, r1, r10, r11, r12, r13, r14, r15, r16, r18, r19, r20, r21, r22, r23, r24, r25, r26, r29, r30, r31, r32, r33, r34, r35, r36, r37, r38, r39, r40, r42, r43, r44, r46, r47, r48, r49, r50, r51, r52, r53, r54, r55, r56, r57, r58, r59, r60, r61, r62, r63, r64, r65, r66, r67, r68, r69, r70, r71, r72, r73, r74, r75, r76, r77, r78, r79, r80, r81, r82, r83, r84, r85, r86, r87, w10, w11, w12, w13, w18, w19, w20, w21, w22, w23, w24, w25, w26, w30, w31, w32, w33, w34, w35, w36, w38, w39, w40, w43, w44, w46, w47, w48, w49, w50, w51, w52, w53, w54, w55, w56, w57, w58, w59, w60, w61, w62, w63, w64, w65, w66, w67, w68, w69, w70, w71, w72, w73, w74, w75, w76, w77, w78, w79, w80, w81, w82, w83, w84, w85, w86, w87, hi_hit, hi_row, hi_col, hj_hit, hj_row, hj_col, hi_sj, hj_si, hq_si, hq_sj, hi_sq, hj_sq, hi_srh, hi_srm]
        · obtain ⟨m, rfl⟩ : ∃ m, p = m + 1 := ⟨p - 1, by omega⟩
          have nz : ¬ nI (m + 1) ≤ 0 := nI_nle (by omega) (by omega)
          have hm20 : m < 20 := by omega
          have dm := (k2 m (by omega)).1
          have lo := (P_sum2 k1 (i := m) (j := m + 1) (by omega) hp).2
          have pm := hal (m + 1) (by omega)
          have pm0 := ps0 m (by omega)
          have hi0 := (k2 m (by omega)).2
          have rf0 : rfs rm (m + 1) m = 0 := by unfold rfs; rw [if_pos (by omega)]
          refine ⟨si (si g3 26 (m + 1) x2) 25 m (-hi g3 24 m), ?_, (fr3.trans (Fr.row (by decide))).trans (Fr.row (by decide)), fun q h1 h2 => ?_, fun q hq' => ?_⟩
          · simp only [f_X6_boundGaps_L2.eq_2]
            simp (disch := (first | assumption | (simp only [FX_si, FX_sj, FX_sr]; assumption) | omega | decide)) only [e8, n1, n2, a1, b1', nI_1, ea, nz, nI_pred, ↓reduceIte, if_true, if_false, i10, i01, eq_self, bd_some, b1_some, b2_some, b3_some, b4_some, c1_eq, elim_inl, elim_inr, zok0, zok1, getQ_si, getQ_sj, getQ_sr, q8_0, q8_1, q8_2, q8_4, q8_7, q8_8, q8_9, q8_10, q8_11, q9_0, q9_3, q9_4, q9_8, q17_0, q17_1, q17_2, q17_4, q17_5, q17_6, q17_9, q17_10, q17_11, q27_4, q27_5, q27_6, q27_7, q27_8, q27_11, q45_0, q45_1, q45_11, q45_12, q45_13, q45_14, q45_15, q45_16, q45_17, q45_18, q45_19, q45_20, q45_21, q45_22, q45_23, q45_24, q45_30, q45_31, q45_32, q45_33, q45_34, q45_35, q45_36, q45_37, q45_38, q45_39, q45_43, q45_44, q45_45, q45_46, q45_47, q45_48, q45_52, q45_53, q45_54, q45_59, q45_60, q45_61, q45_62, q45_65, q45_67, q45_68, gi8, gj8, pi8, pz8, pj8, rc8, gi9, gj9, pi9, pz9, pj9, rc9, gi17, gj17, pi17, pz17, pj17, rc17, gi27, gj27, pi27, pz27, pj27, rc27, gi45, gj45, pi45, pz45, pj45, rc45, aln_si, aln_sj, aln_sq, rc_si, rc_sj, rc_sq, n0, n1, n10, n11, n12, n13, n14, n15, n16, n18, n19, n20, n21, n22, n23, n24, n25, n26, n29, n30, n31, n32, n33, n34, n35, n36, n37, n38, n39, n40, n42, n43, n44, n46, n47, n48, n49, n50, n51, n52, n53, n54, n55, n56, n57, n58, n59, n60, n61, n62, n63, n64, n65, n66, n67, n68, n69, n70, n71, n72, n73, n74, n75, n76, n77, n78, n79, n80, n81, n82, n83, n84, n85, n86, n87, r0, r1, r10, r11, r12, r13, r14, r15, r16, r18, r19, r20, r21, r22, r23, r24, r25, r26, r29, r30, r31, r32, r33, r34, r35, r36, r37, r38, r39, r40, r42, r43, r44, r46, r47, r48, r49, r50, r51, r52, r53, r54, r55, r56, r57, r58, r59, r60, r61, r62, r63, r64, r65, r66, r67, r68, r69, r70, r71, r72, r73, r74, r75, r76, r77, r78, r79, r80, r81, r82, r83, r84, r85, r86, r87, w10, w11, w12, w13, w18, w19, w20, w21, w22, w23, w24, w25, w26, w30, w31, w32, w33, w34, w35, w36, w38, w39, w40, w43, w44, w46, w47, w48, w49, w50, w51, w52, w53, w54, w55, w56, w57, w58, w59, w60, w61, w62, w63, w64, w65, w66, w67, w68, w69, w70, w71, w72, w73, w74, w75, w76, w77, w78, w79, w80, w81, w82, w83, w84, w85, w86, w87, hi_hit, hi_row, hi_col, hj_hit, hj_row, hj_col, hi_sj, hj_si, hq_si, hq_sj, hi_sq, hj_sq, hi_srh, hi_srm]
          · rw [hi_row _ _ _ (by decide)]
            exact m26 q h1 h2
          · by_cases e : q = m
            · subst e
              rw [hi_hit, i_neg (by omega) (by omega), dm, Int.neg_neg]
              exact up _ (by omega)
            · rw [hi_col 25 _ e, hi_row _ _ _ (by decide), o25]
              exact I3 q (by omega)
      · exact absurd hc k1
  obtain ⟨g', a1, a2⟩ := key
  refine ⟨g', ?_, a2⟩
  unfold f_X6_boundGaps
  rw [nI_0] at a1
  rw [a1, bd_some]
end Cg
