/-! The class's facts as linked cells; gathering a worker's banks; the posts. -/
section Ch
variable (F : Nat → Nat → Int32) (wk : Int32)
/-- the first of a worker's facts from f on -/
def nxg : Nat → Nat → Option Nat
  | 0, _ => none
  | m + 1, f => if F 1 f = wk then some f else nxg m (f + 1)
def nx (nf f : Nat) : Option Nat := nxg F wk (nf - f) f
variable {F wk}
theorem nx_end {nf f : Nat} (h : nf ≤ f) : nx F wk nf f = none := by
  unfold nx
  rw [show nf - f = 0 by omega]
  rfl
theorem nx_hit {nf f : Nat} (h : f < nf) (e : F 1 f = wk) : nx F wk nf f = some f := by
  unfold nx
  rw [show nf - f = nf - (f + 1) + 1 by omega]
  show (if F 1 f = wk then _ else _) = _
  rw [if_pos e]
theorem nx_skip {nf f : Nat} (h : f < nf) (e : ¬ F 1 f = wk) : nx F wk nf f = nx F wk nf (f + 1) := by
  unfold nx
  rw [show nf - f = nf - (f + 1) + 1 by omega]
  show (if F 1 f = wk then _ else _) = _
  rw [if_neg e]
end Ch
/-- a loop over a worker's facts -/
theorem lstN {σ ρ : Type} {F : Nat → Nat → Int32} {wk : Int32} {nf : Nat} {fa : Nat → Nat} (f : Nat → Option Nat → σ → Option ρ) (I : Nat → σ → Prop) (Q : ρ → Prop)
    (stop : ∀ n s, I nf s → ∃ r, f (n + 1) none s = some r ∧ Q r)
    (skip : ∀ i s, i < nf → ¬ F 1 i = wk → I i s → I (i + 1) s)
    (step : ∀ n i s, i < nf → F 1 i = wk → I i s → (∃ r, f (n + 1) (some (fa i)) s = some r ∧ Q r) ∨ ∃ s', f (n + 1) (some (fa i)) s = f n ((nx F wk nf (i + 1)).map fa) s' ∧ I (i + 1) s') :
    ∀ (m i n : Nat) (s : σ), nf - i = m → i ≤ nf → m < n → I i s → ∃ r, f n ((nx F wk nf i).map fa) s = some r ∧ Q r := by
  intro m
  induction m with
  | zero =>
    intro i n s h1 h2 h3 h4
    obtain ⟨n, rfl⟩ : ∃ k, n = k + 1 := ⟨n - 1, by omega⟩
    obtain rfl : i = nf := by omega
    rw [nx_end (Nat.le_refl _)]
    exact stop n s h4
  | succ m ih =>
    intro i n s h1 h2 h3 h4
    by_cases e : F 1 i = wk
    · obtain ⟨n, rfl⟩ : ∃ k, n = k + 1 := ⟨n - 1, by omega⟩
      rw [nx_hit (by omega) e]
      rcases step n i s (by omega) e h4 with q | ⟨s', q1, q2⟩
      · exact q
      · show ∃ r, f (n + 1) (some (fa i)) s = some r ∧ Q r
        rw [q1]
        exact ih (i + 1) n s' (by omega) (by omega) (by omega) q2
    · rw [nx_skip (by omega) e]
      exact ih (i + 1) n s (by omega) (by omega) (by omega) (skip i s (by omega) e h4)
theorem lstF {σ ρ : Type} {F : Nat → Nat → Int32} {wk : Int32} {nf : Nat} {fa : Nat → Nat} (f : Nat → Option Nat → σ → Option ρ) (I : Nat → σ → Prop) (Q : ρ → Prop) (hnf : nf ≤ 1000000)
    (stop : ∀ n s, I nf s → ∃ r, f (n + 1) none s = some r ∧ Q r)
    (skip : ∀ i s, i < nf → ¬ F 1 i = wk → I i s → I (i + 1) s)
    (step : ∀ n i s, i < nf → F 1 i = wk → I i s → (∃ r, f (n + 1) (some (fa i)) s = some r ∧ Q r) ∨ ∃ s', f (n + 1) (some (fa i)) s = f n ((nx F wk nf (i + 1)).map fa) s' ∧ I (i + 1) s') {s : σ} (h0 : I 0 s) :
    ∃ r, f fu ((nx F wk nf 0).map fa) s = some r ∧ Q r :=
  lstN f I Q stop skip step nf 0 fu s (by omega) (Nat.zero_le _) (fu_gt hnf) h0
/-- the facts' cells -/
def CFx (h : Hp) (F : Nat → Nat → Int32) (nf : Nat) (fa : Nat → Nat) : Prop :=
  ∀ f, f < nf → 88 ≤ fa f ∧ hk h (fa f) = some (1, 0) ∧ hi h (fa f) 0 = nI f ∧ hi h (fa f) 1 = F 0 f ∧ hi h (fa f) 2 = F 2 f ∧ hi h (fa f) 3 = F 3 f ∧ hi h (fa f) 4 = F 4 f ∧ hi h (fa f) 5 = F 5 f ∧ hi h (fa f) 6 = F 1 f ∧ hi h (fa f) 7 = F 6 f ∧ hq h (fa f) 8 = (nx F (F 1 f) nf (f + 1)).map fa
/-- a worker's cells -/
def WX (h : Hp) (a : Nat) : Prop :=
  88 ≤ a ∧ hk h a = some (6, 0) ∧ hk h (a + 1) = some (10, 624) ∧ hk h (a + 2) = some (10, 104) ∧ hk h (a + 3) = some (10, 104) ∧ hk h (a + 4) = some (10, 104) ∧ hq h a 7 = some (a + 1) ∧ hq h a 8 = some (a + 2) ∧ hq h a 9 = some (a + 3) ∧ hq h a 10 = some (a + 4)
theorem WX.fr {A : List Nat} {B : List (Nat × Nat)} {h h' : Hp} {a : Nat} (W : WX h a) (fr : Fr A B h h') : WX h' a := by
  unfold WX at W ⊢
  simp only [hk_fr fr, fr.2.1]
  exact W
/-- what does not touch the facts' cells but their last three ints -/
theorem CFx.fr {A : List Nat} {B : List (Nat × Nat)} {h h' : Hp} {F : Nat → Nat → Int32} {nf : Nat} {fa : Nat → Nat} (C : CFx h F nf fa) (fr : Fr A B h h') (hA : ∀ f, f < nf → fa f ∉ A) (hB : ∀ f k, f < nf → k < 9 → (fa f, k) ∉ B) : CFx h' F nf fa := by
  intro f hf
  obtain ⟨c0, c1, c2, c3, c4, c5, c6, c7, c8, c9, c10⟩ := C f hf
  have e : ∀ k, k < 9 → hi h' (fa f) k = hi h (fa f) k := fun k hk' => fr.ef (hA f hf) (hB f k hf hk')
  rw [hk_fr fr, fr.2.1, e 0 (by omega), e 1 (by omega), e 2 (by omega), e 3 (by omega), e 4 (by omega), e 5 (by omega), e 6 (by omega), e 7 (by omega)]
  exact ⟨c0, c1, c2, c3, c4, c5, c6, c7, c8, c9, c10⟩
theorem CFx.ne {h : Hp} {F : Nat → Nat → Int32} {nf : Nat} {fa : Nat → Nat} (C : CFx h F nf fa) {f : Nat} (hf : f < nf) {b kd n : Nat} (e : hk h b = some (kd, n)) (hkd : kd ≠ 1) : fa f ≠ b := by
  intro q
  rw [← q, (C f hf).2.1] at e
  cases e
  exact hkd rfl
theorem c_counts {h : Hp} {b : Nat} {F : Nat → Nat → Int32} {f : Nat} (kb : hk h b = some (1, 0)) (e5 : hi h b 5 = F 5 f) (e7 : hi h b 7 = F 6 f) (h6 : F 6 f = -1 ∨ ∃ t, t ≤ 100000 ∧ F 6 f = nI t) (k : Int32) : f_X1_countsAt b k h = some (if ctk F k f = true then 1 else 0, h) := by
  unfold f_X1_countsAt ctk
  rw [getI_of 5 kb, bd_some, getI_of 7 kb, bd_some, bd_some, e5, e7]
  by_cases h1 : k < F 5 f
  · simp [h1, b1, zok]
  · rcases h6 with q | ⟨t, ht, q⟩
    · rw [q]
      simp [h1, b1, zok]
    · rw [q]
      have n1 : ¬ nI t = -1 := fun z => by
        have := congrArg Int32.toInt z
        rw [nI_toInt (by omega), show (-1 : Int32).toInt = -1 from rfl] at this
        omega
      have n2 : ¬ nI t < 0 := nI_pos (by omega)
      by_cases h2 : nI t ≤ k
      · simp [h1, n1, n2, h2, b1, zok]
      · simp [h1, n1, n2, h2, b1, zok]
theorem c_addBank {g : Hp} (F : FX g) {n s e : Nat} (e3 : hi g 17 3 = nI n) (hn : n < 10) (hse : s < e) (he : e < 105) (t : Int32) :
    f_X6_addBank 17 (nI s) (nI e) t g = some (si (si (si (si (si (si g 21 s 0) 21 e 0) 18 n (nI s)) 19 n (nI e)) 20 n t) 17 3 (nI (n + 1))) := by
  have n1 : ¬ nI s < 0 := nI_pos (by omega)
  have n2 : ¬ nI e ≤ nI s := by rw [nI_leI (by omega) (by omega)]; omega
  have n3 : ¬ nI 105 ≤ nI e := by rw [nI_leI (by omega) (by omega)]; omega
  have n4 : ¬ nI n < 0 := nI_pos (by omega)
  have n5 : ¬ (10 : Int32) ≤ nI n := by rw [L10, nI_leI (by omega) (by omega)]; omega
  have s105 : s < 105 := by omega
  unfold f_X6_addBank
  simp (disch := (first | assumption | (simp only [FX_si, FX_sj, FX_sr]; assumption) | omega | decide)) only [n1, n2, n3, n4, n5, e3, nI_1, ↓reduceIte, if_true, if_false, i10, i01, eq_self, bd_some, b1_some, b2_some, b3_some, b4_some, c1_eq, elim_inl, elim_inr, zok0, zok1, getQ_si, getQ_sj, getQ_sr, q8_0, q8_1, q8_2, q8_4, q8_7, q8_8, q8_9, q8_10, q8_11, q9_0, q9_3, q9_4, q9_8, q17_0, q17_1, q17_2, q17_4, q17_5, q17_6, q17_9, q17_10, q17_11, q27_4, q27_5, q27_6, q27_7, q27_8, q27_11, q45_0, q45_1, q45_11, q45_12, q45_13, q45_14, q45_15, q45_16, q45_17, q45_18, q45_19, q45_20, q45_21, q45_22, q45_23, q45_24, q45_30, q45_31, q45_32, q45_33, q45_34, q45_35, q45_36, q45_37, q45_38, q45_39, q45_43, q45_44, q45_45, q45_46, q45_47, q45_48, q45_52, q45_53, q45_54, q45_59, q45_60, q45_61, q45_62, q45_65, q45_67, q45_68, gi8, gj8, pi8, pz8, pj8, rc8, gi9, gj9, pi9, pz9, pj9, rc9, gi17, gj17, pi17, pz17, pj17, rc17, gi27, gj27, pi27, pz27, pj27, rc27, gi45, gj45, pi45, pz45, pj45, rc45, aln_si, aln_sj, aln_sq, rc_si, rc_sj, rc_sq, n0, n1, n10, n11, n12, n13, n14, n15, n16, n18, n19, n20, n21, n22, n23, n24, n25, n26, n29, n30, n31, n32, n33, n34, n35, n36, n37, n38, n39, n40, n42, n43, n44, n46, n47, n48, n49, n50, n51, n52, n53, n54, n55, n56, n57, n58, n59, n60, n61, n62, n63, n64, n65, n66, n67, n68, n69, n70, n71, n72, n73, n74, n75, n76, n77, n78, n79, n80, n81, n82, n83, n84, n85, n86, n87, r0, r1, r10, r11, r12, r13, r14, r15, r16, r18, r19, r20, r21, r22, r23, r24, r25, r26, r29, r30, r31, r32, r33, r34, r35, r36, r37, r38, r39, r40, r42, r43, r44, r46, r47, r48, r49, r50, r51, r52, r53, r54, r55, r56, r57, r58, r59, r60, r61, r62, r63, r64, r65, r66, r67, r68, r69, r70, r71, r72, r73, r74, r75, r76, r77, r78, r79, r80, r81, r82, r83, r84, r85, r86, r87, w10, w11, w12, w13, w18, w19, w20, w21, w22, w23, w24, w25, w26, w30, w31, w32, w33, w34, w35, w36, w38, w39, w40, w43, w44, w46, w47, w48, w49, w50, w51, w52, w53, w54, w55, w56, w57, w58, w59, w60, w61, w62, w63, w64, w65, w66, w67, w68, w69, w70, w71, w72, w73, w74, w75, w76, w77, w78, w79, w80, w81, w82, w83, w84, w85, w86, w87, hi_hit, hi_row, hi_col, hj_hit, hj_row, hj_col, hi_sj, hj_si, hq_si, hq_sj, hi_sq, hj_sq, hi_srh, hi_srm]
section Gt
variable (F : Nat → Nat → Int32) (wk k : Int32)
/-- where posts stand -/
def PSn : Nat → Nat → Bool
  | 0, _ => false
  | n + 1, v => (cnts F 2 wk k n && (decide (F 2 n = nI v) || decide (F 3 n + 1 = nI v))) || PSn n v
theorem bkc_s (n : Nat) : bkc F wk k (n + 1) = if cnts F 2 wk k n = true then bkc F wk k n + 1 else bkc F wk k n := by
  unfold bkc
  rw [BKn.eq_2]
  split
  · rw [List.length_append]; rfl
  · rfl
theorem bk_old {n b : Nat} (hb : b < bkc F wk k n) : (BKn F wk k (n + 1)).getD b 0 = (BKn F wk k n).getD b 0 := by
  rw [BKn.eq_2]
  split
  · rw [List.getD_eq_getElem?_getD, List.getD_eq_getElem?_getD, List.getElem?_append_left hb]
  · rfl
theorem bk_new {n : Nat} (h : cnts F 2 wk k n = true) : (BKn F wk k (n + 1)).getD (bkc F wk k n) 0 = n := by
  unfold bkc
  rw [BKn.eq_2, if_pos h, List.getD_eq_getElem?_getD, List.getElem?_append_right (Nat.le_refl _), Nat.sub_self]
  rfl
end Gt
/-- the banks of the facts ahead of n, in the sums' rows -/
def GI (F : Nat → Nat → Int32) (wk k : Int32) (n : Nat) (g : Hp) : Prop :=
  hi g 17 3 = nI (bkc F wk k n) ∧ (∀ b, b < bkc F wk k n → hi g 18 b = nI (bkA F wk k n b) ∧ hi g 19 b = nI (bkE F wk k n b) ∧ (hi g 20 b).toInt = bkT F wk k n b) ∧ ∀ v, v < 105 → hi g 21 v = if PSn F wk k n v = true then 0 else -1
theorem ctk_cnts {F : Nat → Nat → Int32} {s wk k : Int32} {f : Nat} (e1 : F 0 f = s) (e2 : F 1 f = wk) : cnts F s wk k f = ctk F k f := by
  unfold cnts
  rw [decide_eq_true ⟨e1, e2⟩, Bool.true_and]
section Ga
variable {h : Hp} {F : Nat → Nat → Int32} {nw nf w a : Nat} {fa : Nat → Nat}
theorem c_gather18 (X : FX h) (C : CFx h F nf fa) (R : RG F nw nf) (hnf : nf ≤ 250) (hw : w < nw) (k : Int32) (z : hi h 17 3 = 0) (z2 : ∀ v, v < 105 → hi h 21 v = -1) :
    ∃ g, f_X6_gather_L18 fu 17 k ((nx F (nI w) nf 0).map fa) h = some g ∧ Fr [18, 19, 20, 21] [(17, 3)] h g ∧ GI F (nI w) k nf g := by
  refine lstF (fun n q g => f_X6_gather_L18 n 17 k q g) (fun n g => Fr [18, 19, 20, 21] [(17, 3)] h g ∧ GI F (nI w) k n g) (fun g => Fr [18, 19, 20, 21] [(17, 3)] h g ∧ GI F (nI w) k nf g) (by omega) ?_ ?_ ?_ ⟨Fr.rfl, z, fun b hb => absurd hb (Nat.not_lt_zero _), fun v hv => by rw [z2 v hv]; rfl⟩
  · rintro n g I
    exact ⟨g, by simp only [f_X6_gather_L18.eq_2, ↓reduceIte], I⟩
  · rintro i g hi' he ⟨I1, I2⟩
    refine ⟨I1, ?_⟩
    have c : cnts F 2 (nI w) k i = false := by
      rw [Bool.eq_false_iff]; intro q; exact he (cnts_iff.mp q).2.1
    unfold GI at I2 ⊢
    have e1 : bkc F (nI w) k (i + 1) = bkc F (nI w) k i := by rw [bkc_s, if_neg (by rw [c]; decide)]
    rw [e1]
    refine ⟨I2.1, fun b hb => ?_, fun v hv => ?_⟩
    · unfold bkA bkE bkT
      rw [bk_old F (nI w) k hb]
      exact I2.2.1 b hb
    · rw [PSn.eq_2, c, Bool.false_and, Bool.false_or]
      exact I2.2.2 v hv
  · rintro n i g hi' he ⟨I1, I2⟩
    right
    have X1 := I1.fx X
    have C1 : CFx g F nf fa := C.fr I1 (fun f hf q => by have := (C f hf).1; simp at q; omega) (fun f k hf hk' q => by have := (C f hf).1; simp at q; omega)
    obtain ⟨c0, c1, c2, c3, c4, c5, c6, c7, c8, c9, c10⟩ := C1 i hi'
    have gf : ∀ k, getI g (some (fa i)) 1 k = some (hi g (fa i) k) := fun k => getI_of k c1
    have gq : getQ g (some (fa i)) 1 8 = some ((nx F (F 1 i) nf (i + 1)).map fa) := by rw [getQ_of 8 c1, c10]
    have rf : rc g (some (fa i)) 1 = some (fa i) := rc_eq c1
    have cc := c_counts (F := F) (f := i) c1 c7 c9 (R.1 i hi').2.2.2.2.2.2.2.2 k
    rw [he] at gq
    by_cases s2 : F 0 i = 2
    · have ec := ctk_cnts (k := k) s2 he
      by_cases c : cnts F 2 (nI w) k i = true
      · rw [← ec, if_pos c] at cc
        obtain ⟨s, e, t, r1, r2, r3, r4, r5, r6⟩ := (R.1 i hi').2.2.2.1 s2
        have hb10 : bkc F (nI w) k i < 10 := by
          have h1 := BKn_len F (nI w) k (i + 1)
          have h2 := BCn_mono F (nI w) (show i + 1 ≤ nf from hi')
          have h3 := R.2 w hw
          have h4 : (BKn F (nI w) k (i + 1)).length = bkc F (nI w) k i + 1 := by
            have := bkc_s F (nI w) k i
            rw [if_pos c] at this
            exact this
          omega
        have ea := c_addBank X1 (s := s) (e := e + 1) I2.1 hb10 (by omega) (by omega) (hi g (fa i) 4)
        have hfa : ∀ b, b < 88 → fa i ≠ b := fun b hb => by omega
        refine ⟨si (si (si (si (si (si g 21 s 0) 21 (e + 1) 0) 18 (bkc F (nI w) k i) (nI s)) 19 (bkc F (nI w) k i) (nI (e + 1))) 20 (bkc F (nI w) k i) (hi g (fa i) 4)) 17 3 (nI (bkc F (nI w) k i + 1)), ?_, I1.trans ((((((Fr.row (by decide)).trans (Fr.row (by decide))).trans (Fr.row (by decide))).trans (Fr.row (by decide))).trans (Fr.row (by decide))).trans (Fr.fld (by decide))), ?_⟩
        · simp only [f_X6_gather_L18.eq_2]
          simp (disch := (first | assumption | (simp only [FX_si, FX_sj, FX_sr]; assumption) | omega | decide)) only [reduceCtorEq, gf, rf, c3, s2, cc, i10, c4, c5, r4, r5, nI_1, ea, gq, ↓reduceIte, if_true, if_false, i10, i01, eq_self, bd_some, b1_some, b2_some, b3_some, b4_some, c1_eq, elim_inl, elim_inr, zok0, zok1, getQ_si, getQ_sj, getQ_sr, q8_0, q8_1, q8_2, q8_4, q8_7, q8_8, q8_9, q8_10, q8_11, q9_0, q9_3, q9_4, q9_8, q17_0, q17_1, q17_2, q17_4, q17_5, q17_6, q17_9, q17_10, q17_11, q27_4, q27_5, q27_6, q27_7, q27_8, q27_11, q45_0, q45_1, q45_11, q45_12, q45_13, q45_14, q45_15, q45_16, q45_17, q45_18, q45_19, q45_20, q45_21, q45_22, q45_23, q45_24, q45_30, q45_31, q45_32, q45_33, q45_34, q45_35, q45_36, q45_37, q45_38, q45_39, q45_43, q45_44, q45_45, q45_46, q45_47, q45_48, q45_52, q45_53, q45_54, q45_59, q45_60, q45_61, q45_62, q45_65, q45_67, q45_68, gi8, gj8, pi8, pz8, pj8, rc8, gi9, gj9, pi9, pz9, pj9, rc9, gi17, gj17, pi17, pz17, pj17, rc17, gi27, gj27, pi27, pz27, pj27, rc27, gi45, gj45, pi45, pz45, pj45, rc45, aln_si, aln_sj, aln_sq, rc_si, rc_sj, rc_sq, n0, n1, n10, n11, n12, n13, n14, n15, n16, n18, n19, n20, n21, n22, n23, n24, n25, n26, n29, n30, n31, n32, n33, n34, n35, n36, n37, n38, n39, n40, n42, n43, n44, n46, n47, n48, n49, n50, n51, n52, n53, n54, n55, n56, n57, n58, n59, n60, n61, n62, n63, n64, n65, n66, n67, n68, n69, n70, n71, n72, n73, n74, n75, n76, n77, n78, n79, n80, n81, n82, n83, n84, n85, n86, n87, r0, r1, r10, r11, r12, r13, r14, r15, r16, r18, r19, r20, r21, r22, r23, r24, r25, r26, r29, r30, r31, r32, r33, r34, r35, r36, r37, r38, r39, r40, r42, r43, r44, r46, r47, r48, r49, r50, r51, r52, r53, r54, r55, r56, r57, r58, r59, r60, r61, r62, r63, r64, r65, r66, r67, r68, r69, r70, r71, r72, r73, r74, r75, r76, r77, r78, r79, r80, r81, r82, r83, r84, r85, r86, r87, w10, w11, w12, w13, w18, w19, w20, w21, w22, w23, w24, w25, w26, w30, w31, w32, w33, w34, w35, w36, w38, w39, w40, w43, w44, w46, w47, w48, w49, w50, w51, w52, w53, w54, w55, w56, w57, w58, w59, w60, w61, w62, w63, w64, w65, w66, w67, w68, w69, w70, w71, w72, w73, w74, w75, w76, w77, w78, w79, w80, w81, w82, w83, w84, w85, w86, w87, hi_hit, hi_row, hi_col, hj_hit, hj_row, hj_col, hi_sj, hj_si, hq_si, hq_sj, hi_sq, hj_sq, hi_srh, hi_srm]
        · unfold GI
          rw [bkc_s, if_pos c]
          refine ⟨hi_hit _ _ _, fun b hb => ?_, fun v hv => ?_⟩
          · by_cases q : b = bkc F (nI w) k i
            · subst q
              unfold bkA bkE bkT
              rw [bk_new F (nI w) k c, r4, r5, r6, nI_tn (by omega), nI_tn (by omega), nI_toInt (by omega)]
              refine ⟨?_, ?_, ?_⟩
              · simp (disch := (first | assumption | omega | decide)) only [hi_hit, hi_row, hi_col, hj_hit, hj_row, hj_col, hi_sj, hj_si, hq_si, hq_sj, hi_sq, hj_sq, hi_srh, hi_srm, hj_sr, hq_sr, hq_hit, hq_row, hq_col]
              · simp (disch := (first | assumption | omega | decide)) only [hi_hit, hi_row, hi_col, hj_hit, hj_row, hj_col, hi_sj, hj_si, hq_si, hq_sj, hi_sq, hj_sq, hi_srh, hi_srm, hj_sr, hq_sr, hq_hit, hq_row, hq_col]
              · simp (disch := (first | assumption | omega | decide)) only [hi_hit, hi_row, hi_col, hj_hit, hj_row, hj_col, hi_sj, hj_si, hq_si, hq_sj, hi_sq, hj_sq, hi_srh, hi_srm, hj_sr, hq_sr, hq_hit, hq_row, hq_col]
                rw [c6, r6, nI_toInt (by omega)]
            · have hb' : b < bkc F (nI w) k i := by omega
              unfold bkA bkE bkT
              rw [bk_old F (nI w) k hb']
              have := I2.2.1 b hb'
              unfold bkA bkE bkT at this
              simp (disch := (first | assumption | omega | decide)) only [hi_hit, hi_row, hi_col, hj_hit, hj_row, hj_col, hi_sj, hj_si, hq_si, hq_sj, hi_sq, hj_sq, hi_srh, hi_srm, hj_sr, hq_sr, hq_hit, hq_row, hq_col]
              exact this
          · rw [PSn.eq_2, c, Bool.true_and, hi_row _ _ _ (by decide), hi_row _ _ _ (by decide), hi_row _ _ _ (by decide), hi_row _ _ _ (by decide), r4, r5, nI_1]
            by_cases q1 : v = e + 1
            · subst q1
              rw [hi_hit, if_pos]
              simp
            · rw [hi_col 21 _ q1]
              by_cases q2 : v = s
              · subst q2
                rw [hi_hit, if_pos]
                simp
              · rw [hi_col 21 _ q2, I2.2.2 v hv]
                have d1 : decide (nI s = nI v) = false := decide_eq_false (fun z => q2 (((nI_eq (by omega) (by omega)).mp z).symm))
                have d2 : decide (nI (e + 1) = nI v) = false := decide_eq_false (fun z => q1 (((nI_eq (by omega) (by omega)).mp z).symm))
                rw [d1, d2]
                rfl
      · rw [← ec, if_neg c] at cc
        refine ⟨g, ?_, I1, ?_⟩
        · simp only [f_X6_gather_L18.eq_2]
          simp (disch := (first | assumption | (simp only [FX_si, FX_sj, FX_sr]; assumption) | omega | decide)) only [reduceCtorEq, gf, rf, c3, s2, cc, gq, ↓reduceIte, if_true, if_false, i10, i01, eq_self, bd_some, b1_some, b2_some, b3_some, b4_some, c1_eq, elim_inl, elim_inr, zok0, zok1, getQ_si, getQ_sj, getQ_sr, q8_0, q8_1, q8_2, q8_4, q8_7, q8_8, q8_9, q8_10, q8_11, q9_0, q9_3, q9_4, q9_8, q17_0, q17_1, q17_2, q17_4, q17_5, q17_6, q17_9, q17_10, q17_11, q27_4, q27_5, q27_6, q27_7, q27_8, q27_11, q45_0, q45_1, q45_11, q45_12, q45_13, q45_14, q45_15, q45_16, q45_17, q45_18, q45_19, q45_20, q45_21, q45_22, q45_23, q45_24, q45_30, q45_31, q45_32, q45_33, q45_34, q45_35, q45_36, q45_37, q45_38, q45_39, q45_43, q45_44, q45_45, q45_46, q45_47, q45_48, q45_52, q45_53, q45_54, q45_59, q45_60, q45_61, q45_62, q45_65, q45_67, q45_68, gi8, gj8, pi8, pz8, pj8, rc8, gi9, gj9, pi9, pz9, pj9, rc9, gi17, gj17, pi17, pz17, pj17, rc17, gi27, gj27, pi27, pz27, pj27, rc27, gi45, gj45, pi45, pz45, pj45, rc45, aln_si, aln_sj, aln_sq, rc_si, rc_sj, rc_sq, n0, n1, n10, n11, n12, n13, n14, n15, n16, n18, n19, n20, n21, n22, n23, n24, n25, n26, n29, n30, n31, n32, n33, n34, n35, n36, n37, n38, n39, n40, n42, n43, n44, n46, n47, n48, n49, n50, n51, n52, n53, n54, n55, n56, n57, n58, n59, n60, n61, n62, n63, n64, n65, n66, n67, n68, n69, n70, n71, n72, n73, n74, n75, n76, n77, n78, n79, n80, n81, n82, n83, n84, n85, n86, n87, r0, r1, r10, r11, r12, r13, r14, r15, r16, r18, r19, r20, r21, r22, r23, r24, r25, r26, r29, r30, r31, r32, r33, r34, r35, r36, r37, r38, r39, r40, r42, r43, r44, r46, r47, r48, r49, r50, r51, r52, r53, r54, r55, r56, r57, r58, r59, r60, r61, r62, r63, r64, r65, r66, r67, r68, r69, r70, r71, r72, r73, r74, r75, r76, r77, r78, r79, r80, r81, r82, r83, r84, r85, r86, r87, w10, w11, w12, w13, w18, w19, w20, w21, w22, w23, w24, w25, w26, w30, w31, w32, w33, w34, w35, w36, w38, w39, w40, w43, w44, w46, w47, w48, w49, w50, w51, w52, w53, w54, w55, w56, w57, w58, w59, w60, w61, w62, w63, w64, w65, w66, w67, w68, w69, w70, w71, w72, w73, w74, w75, w76, w77, w78, w79, w80, w81, w82, w83, w84, w85, w86, w87, hi_hit, hi_row, hi_col, hj_hit, hj_row, hj_col, hi_sj, hj_si, hq_si, hq_sj, hi_sq, hj_sq, hi_srh, hi_srm]
        · unfold GI
          rw [bkc_s, if_neg c]
          refine ⟨I2.1, fun b hb => ?_, fun v hv => ?_⟩
          · unfold bkA bkE bkT
            rw [bk_old F (nI w) k hb]
            exact I2.2.1 b hb
          · rw [PSn.eq_2, Bool.eq_false_iff.mpr c, Bool.false_and, Bool.false_or]
            exact I2.2.2 v hv
    · have c : ¬ cnts F 2 (nI w) k i = true := fun q => s2 (cnts_iff.mp q).1
      refine ⟨g, ?_, I1, ?_⟩
      · simp only [f_X6_gather_L18.eq_2]
        simp (disch := (first | assumption | (simp only [FX_si, FX_sj, FX_sr]; assumption) | omega | decide)) only [reduceCtorEq, gf, rf, c3, s2, gq, ↓reduceIte, if_true, if_false, i10, i01, eq_self, bd_some, b1_some, b2_some, b3_some, b4_some, c1_eq, elim_inl, elim_inr, zok0, zok1, getQ_si, getQ_sj, getQ_sr, q8_0, q8_1, q8_2, q8_4, q8_7, q8_8, q8_9, q8_10, q8_11, q9_0, q9_3, q9_4, q9_8, q17_0, q17_1, q17_2, q17_4, q17_5, q17_6, q17_9, q17_10, q17_11, q27_4, q27_5, q27_6, q27_7, q27_8, q27_11, q45_0, q45_1, q45_11, q45_12, q45_13, q45_14, q45_15, q45_16, q45_17, q45_18, q45_19, q45_20, q45_21, q45_22, q45_23, q45_24, q45_30, q45_31, q45_32, q45_33, q45_34, q45_35, q45_36, q45_37, q45_38, q45_39, q45_43, q45_44, q45_45, q45_46, q45_47, q45_48, q45_52, q45_53, q45_54, q45_59, q45_60, q45_61, q45_62, q45_65, q45_67, q45_68, gi8, gj8, pi8, pz8, pj8, rc8, gi9, gj9, pi9, pz9, pj9, rc9, gi17, gj17, pi17, pz17, pj17, rc17, gi27, gj27, pi27, pz27, pj27, rc27, gi45, gj45, pi45, pz45, pj45, rc45, aln_si, aln_sj, aln_sq, rc_si, rc_sj, rc_sq, n0, n1, n10, n11, n12, n13, n14, n15, n16, n18, n19, n20, n21, n22, n23, n24, n25, n26, n29, n30, n31, n32, n33, n34, n35, n36, n37, n38, n39, n40, n42, n43, n44, n46, n47, n48, n49, n50, n51, n52, n53, n54, n55, n56, n57, n58, n59, n60, n61, n62, n63, n64, n65, n66, n67, n68, n69, n70, n71, n72, n73, n74, n75, n76, n77, n78, n79, n80, n81, n82, n83, n84, n85, n86, n87, r0, r1, r10, r11, r12, r13, r14, r15, r16, r18, r19, r20, r21, r22, r23, r24, r25, r26, r29, r30, r31, r32, r33, r34, r35, r36, r37, r38, r39, r40, r42, r43, r44, r46, r47, r48, r49, r50, r51, r52, r53, r54, r55, r56, r57, r58, r59, r60, r61, r62, r63, r64, r65, r66, r67, r68, r69, r70, r71, r72, r73, r74, r75, r76, r77, r78, r79, r80, r81, r82, r83, r84, r85, r86, r87, w10, w11, w12, w13, w18, w19, w20, w21, w22, w23, w24, w25, w26, w30, w31, w32, w33, w34, w35, w36, w38, w39, w40, w43, w44, w46, w47, w48, w49, w50, w51, w52, w53, w54, w55, w56, w57, w58, w59, w60, w61, w62, w63, w64, w65, w66, w67, w68, w69, w70, w71, w72, w73, w74, w75, w76, w77, w78, w79, w80, w81, w82, w83, w84, w85, w86, w87, hi_hit, hi_row, hi_col, hj_hit, hj_row, hj_col, hi_sj, hj_si, hq_si, hq_sj, hi_sq, hj_sq, hi_srh, hi_srm]
      · unfold GI
        rw [bkc_s, if_neg c]
        refine ⟨I2.1, fun b hb => ?_, fun v hv => ?_⟩
        · unfold bkA bkE bkT
          rw [bk_old F (nI w) k hb]
          exact I2.2.1 b hb
        · rw [PSn.eq_2, Bool.eq_false_iff.mpr c, Bool.false_and, Bool.false_or]
          exact I2.2.2 v hv
theorem c_gather (X : FX h) (W : WX h a) (C : CFx h F nf fa) (R : RG F nw nf) (hnf : nf ≤ 250) (hw : w < nw) (h1 : hq h a 2 = (nx F (nI w) nf 0).map fa) (k : Int32) :
    ∃ g, f_X6_gather 17 (some a) k h = some g ∧ Fr [18, 19, 20, 21] [(17, 3)] h g ∧ GI F (nI w) k nf g := by
  have fr1 : Fr [18, 19, 20, 21] [(17, 3)] h (si h 17 3 0) := Fr.fld (by decide)
  have X1 := fr1.fx X
  obtain ⟨g2, a1, a2, a3⟩ := fill_of (X1.kd (a := 21) (by decide) (by decide) rfl) (by decide) (by decide) (-1 : Int32)
  have fr2 := fr1.trans (a2.wk (A' := [18, 19, 20, 21]) (B' := [(17, 3)]) (by decide) (by decide))
  have C2 : CFx g2 F nf fa := C.fr fr2 (fun f hf q => by have := (C f hf).1; simp at q; omega) (fun f k hf hk' q => by have := (C f hf).1; simp at q; omega)
  have W2 := W.fr fr2
  obtain ⟨g3, b1', b2', b3'⟩ := c_gather18 (w := w) (fr2.fx X) C2 R hnf hw k (by rw [a2.ei 3 (by decide) (by decide), hi_hit]) a3
  refine ⟨g3, ?_, fr2.trans b2', b3'⟩
  have e2 : hq g2 a 2 = (nx F (nI w) nf 0).map fa := by rw [fr2.2.1]; exact h1
  unfold f_X6_gather
  simp (disch := (first | assumption | (simp only [FX_si, FX_sj, FX_sr]; assumption) | omega | decide)) only [a1, getQ_of 2 W2.2.1, e2, b1', ↓reduceIte, if_true, if_false, i10, i01, eq_self, bd_some, b1_some, b2_some, b3_some, b4_some, c1_eq, elim_inl, elim_inr, zok0, zok1, getQ_si, getQ_sj, getQ_sr, q8_0, q8_1, q8_2, q8_4, q8_7, q8_8, q8_9, q8_10, q8_11, q9_0, q9_3, q9_4, q9_8, q17_0, q17_1, q17_2, q17_4, q17_5, q17_6, q17_9, q17_10, q17_11, q27_4, q27_5, q27_6, q27_7, q27_8, q27_11, q45_0, q45_1, q45_11, q45_12, q45_13, q45_14, q45_15, q45_16, q45_17, q45_18, q45_19, q45_20, q45_21, q45_22, q45_23, q45_24, q45_30, q45_31, q45_32, q45_33, q45_34, q45_35, q45_36, q45_37, q45_38, q45_39, q45_43, q45_44, q45_45, q45_46, q45_47, q45_48, q45_52, q45_53, q45_54, q45_59, q45_60, q45_61, q45_62, q45_65, q45_67, q45_68, gi8, gj8, pi8, pz8, pj8, rc8, gi9, gj9, pi9, pz9, pj9, rc9, gi17, gj17, pi17, pz17, pj17, rc17, gi27, gj27, pi27, pz27, pj27, rc27, gi45, gj45, pi45, pz45, pj45, rc45, aln_si, aln_sj, aln_sq, rc_si, rc_sj, rc_sq, n0, n1, n10, n11, n12, n13, n14, n15, n16, n18, n19, n20, n21, n22, n23, n24, n25, n26, n29, n30, n31, n32, n33, n34, n35, n36, n37, n38, n39, n40, n42, n43, n44, n46, n47, n48, n49, n50, n51, n52, n53, n54, n55, n56, n57, n58, n59, n60, n61, n62, n63, n64, n65, n66, n67, n68, n69, n70, n71, n72, n73, n74, n75, n76, n77, n78, n79, n80, n81, n82, n83, n84, n85, n86, n87, r0, r1, r10, r11, r12, r13, r14, r15, r16, r18, r19, r20, r21, r22, r23, r24, r25, r26, r29, r30, r31, r32, r33, r34, r35, r36, r37, r38, r39, r40, r42, r43, r44, r46, r47, r48, r49, r50, r51, r52, r53, r54, r55, r56, r57, r58, r59, r60, r61, r62, r63, r64, r65, r66, r67, r68, r69, r70, r71, r72, r73, r74, r75, r76, r77, r78, r79, r80, r81, r82, r83, r84, r85, r86, r87, w10, w11, w12, w13, w18, w19, w20, w21, w22, w23, w24, w25, w26, w30, w31, w32, w33, w34, w35, w36, w38, w39, w40, w43, w44, w46, w47, w48, w49, w50, w51, w52, w53, w54, w55, w56, w57, w58, w59, w60, w61, w62, w63, w64, w65, w66, w67, w68, w69, w70, w71, w72, w73, w74, w75, w76, w77, w78, w79, w80, w81, w82, w83, w84, w85, w86, w87, hi_hit, hi_row, hi_col, hj_hit, hj_row, hj_col, hi_sj, hj_si, hq_si, hq_sj, hi_sq, hj_sq, hi_srh, hi_srm]
end Ga
