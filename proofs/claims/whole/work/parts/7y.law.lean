/-! The law's loop. -/
theorem flg (x : Int32) (g : Hp) : (if x = (0 : Int32) then some (0, g) else some (1, g) : Option (Int32 × Hp)) = some (bI (!decide (x = 0)), g) := by
  by_cases q : x = 0
  · rw [if_pos q, decide_eq_true q]
    rfl
  · rw [if_neg q, decide_eq_false q]
    rfl
theorem lgs (v : Int64) : lg_cmp v v = 0 := (lgc_eq v v).mpr rfl
section Lw
variable {h : Hp} {L i : Nat}
theorem rdS (e : hk h 2 = some (10, L)) (hL : L ≤ 3072) {j : Nat} (hj : j < L) : rdI h (some 2) 10 (nI j) = some (hi h 2 j) := rdI_eq e hj (by omega)
theorem rdS5 (e : hk h 2 = some (10, L)) (hL : L ≤ 3072) (h6 : i + 6 ≤ L) : rdI h (some 2) 10 (nI i + 1) = some (hi h 2 (i + 1)) ∧ rdI h (some 2) 10 (nI i + 2) = some (hi h 2 (i + 2)) ∧ rdI h (some 2) 10 (nI i + 3) = some (hi h 2 (i + 3)) ∧ rdI h (some 2) 10 (nI i + 4) = some (hi h 2 (i + 4)) ∧ rdI h (some 2) 10 (nI i + 5) = some (hi h 2 (i + 5)) :=
  ⟨by rw [show nI i + 1 = nI (i + 1) from nI_add i 1]; exact rdS e hL (by omega), by rw [show nI i + 2 = nI (i + 2) from nI_add i 2]; exact rdS e hL (by omega), by rw [show nI i + 3 = nI (i + 3) from nI_add i 3]; exact rdS e hL (by omega), by rw [show nI i + 4 = nI (i + 4) from nI_add i 4]; exact rdS e hL (by omega), by rw [show nI i + 5 = nI (i + 5) from nI_add i 5]; exact rdS e hL (by omega)⟩
theorem not_end (h6 : i + 6 ≤ L) (hL : L ≤ 3072) : ¬ nI L - 6 < nI i := by
  rw [show (6 : Int32) = nI 6 from rfl, pk_sub (by omega), nI_ltI (by omega) (by omega)]
  omega
theorem lw_feed (I : INV h) (X : FX h) (e : hk h 2 = some (10, L)) (h6 : i + 6 ≤ L) (hL : L ≤ 3072) (eo : hi h 2 i &&& 31 = 0) (n : Nat) : ∃ h', f_L_law_L18 (n + 1) (some 2) (some 8) (some 45) (nI i) h = f_L_law_L18 n (some 2) (some 8) (some 45) (nI (i + 6)) h' ∧ INV h' ∧ KS h h' := by
  obtain ⟨v, h1, h2, a1, a2, J, k1, k2⟩ := ag_feed (hi h 2 (i + 1)) (hi h 2 (i + 2)) (hi h 2 (i + 3)) (hi h 2 (i + 4)) (hi h 2 (i + 5)) h I
  simp only at a1 a2
  have X1 := k1.1
  obtain ⟨r1, r2, r3, r4, r5⟩ := rdS5 e hL h6
  obtain ⟨s1, s2, s3, s4, s5⟩ := rdS5 (h := h1) (k1.2.1.trans e) hL h6
  simp only [k1.2.2] at s1 s2 s3 s4 s5
  have n6 : nI i + 6 = nI (i + 6) := nI_add i 6
  refine ⟨h2, ?_, J, k2⟩
  rw [f_L_law_L18.eq_2, aln_eq e, bd_some, if_neg (not_end h6 hL), rdS e hL (by omega), bd_some, eo, if_neg (show ¬ ((0 : Int32).toInt < 0 ∨ 28 < (0 : Int32).toInt) by decide), if_pos (show (0 : Int32) = 0 from rfl)]
  simp only [r1, r2, r3, r4, r5, s1, s2, s3, s4, s5, bd_some, b1_some, flg, rc8 X, rc45 X1, a1, a2, lgs, n6, if_true, eq_self]
theorem lw_end (I : INV h) (X : FX h) (e : hk h 2 = some (10, L)) (h6 : i + 6 ≤ L) (hL : L ≤ 3072) (eo : hi h 2 i &&& 31 = 1) (n : Nat) : ∃ h', f_L_law_L18 (n + 1) (some 2) (some 8) (some 45) (nI i) h = f_L_law_L18 n (some 2) (some 8) (some 45) (nI (i + 6)) h' ∧ INV h' ∧ KS h h' := by
  obtain ⟨v, h1, h2, a1, a2, J, k1, k2⟩ := ag_end (hi h 2 (i + 1)) h I
  simp only at a1 a2
  have X1 := k1.1
  obtain ⟨r1, r2, r3, r4, r5⟩ := rdS5 e hL h6
  obtain ⟨s1, s2, s3, s4, s5⟩ := rdS5 (h := h1) (k1.2.1.trans e) hL h6
  simp only [k1.2.2] at s1 s2 s3 s4 s5
  have n6 : nI i + 6 = nI (i + 6) := nI_add i 6
  refine ⟨h2, ?_, J, k2⟩
  rw [f_L_law_L18.eq_2, aln_eq e, bd_some, if_neg (not_end h6 hL), rdS e hL (by omega), bd_some, eo, if_neg (show ¬ ((1 : Int32).toInt < 0 ∨ 28 < (1 : Int32).toInt) by decide), if_neg (show ¬ (1 : Int32) = 0 by decide), if_pos (show (1 : Int32) = 1 from rfl)]
  simp only [r1, r2, r3, r4, r5, s1, s2, s3, s4, s5, bd_some, b1_some, flg, rc8 X, rc45 X1, a1, a2, lgs, n6, if_true, eq_self]
theorem lw_act (ha : ∀ v, AG (fun h => f_X8_act 8 v h) (fun h => f_X9_act 45 v h)) (I : INV h) (X : FX h) (e : hk h 2 = some (10, L)) (h6 : i + 6 ≤ L) (hL : L ≤ 3072) (eo : hi h 2 i &&& 31 = 2) (n : Nat) : ∃ h', f_L_law_L18 (n + 1) (some 2) (some 8) (some 45) (nI i) h = f_L_law_L18 n (some 2) (some 8) (some 45) (nI (i + 6)) h' ∧ INV h' ∧ KS h h' := by
  obtain ⟨v, h1, h2, a1, a2, J, k1, k2⟩ := ha (hi h 2 (i + 1)) h I
  simp only at a1 a2
  have X1 := k1.1
  obtain ⟨r1, r2, r3, r4, r5⟩ := rdS5 e hL h6
  obtain ⟨s1, s2, s3, s4, s5⟩ := rdS5 (h := h1) (k1.2.1.trans e) hL h6
  simp only [k1.2.2] at s1 s2 s3 s4 s5
  have n6 : nI i + 6 = nI (i + 6) := nI_add i 6
  refine ⟨h2, ?_, J, k2⟩
  rw [f_L_law_L18.eq_2, aln_eq e, bd_some, if_neg (not_end h6 hL), rdS e hL (by omega), bd_some, eo, if_neg (show ¬ ((2 : Int32).toInt < 0 ∨ 28 < (2 : Int32).toInt) by decide), if_neg (show ¬ (2 : Int32) = 0 by decide), if_neg (show ¬ (2 : Int32) = 1 by decide), if_pos (show (2 : Int32) = 2 from rfl)]
  simp only [r1, r2, r3, r4, r5, s1, s2, s3, s4, s5, bd_some, b1_some, flg, rc8 X, rc45 X1, a1, a2, lgs, n6, if_true, eq_self]
theorem lw_fault (I : INV h) (X : FX h) (e : hk h 2 = some (10, L)) (h6 : i + 6 ≤ L) (hL : L ≤ 3072) (eo : hi h 2 i &&& 31 = 3) (n : Nat) : ∃ h', f_L_law_L18 (n + 1) (some 2) (some 8) (some 45) (nI i) h = f_L_law_L18 n (some 2) (some 8) (some 45) (nI (i + 6)) h' ∧ INV h' ∧ KS h h' := by
  obtain ⟨v, h1, h2, a1, a2, J, k1, k2⟩ := ag_fault (hi h 2 (i + 1)) h I
  simp only at a1 a2
  have X1 := k1.1
  obtain ⟨r1, r2, r3, r4, r5⟩ := rdS5 e hL h6
  obtain ⟨s1, s2, s3, s4, s5⟩ := rdS5 (h := h1) (k1.2.1.trans e) hL h6
  simp only [k1.2.2] at s1 s2 s3 s4 s5
  have n6 : nI i + 6 = nI (i + 6) := nI_add i 6
  refine ⟨h2, ?_, J, k2⟩
  rw [f_L_law_L18.eq_2, aln_eq e, bd_some, if_neg (not_end h6 hL), rdS e hL (by omega), bd_some, eo, if_neg (show ¬ ((3 : Int32).toInt < 0 ∨ 28 < (3 : Int32).toInt) by decide), if_neg (show ¬ (3 : Int32) = 0 by decide), if_neg (show ¬ (3 : Int32) = 1 by decide), if_neg (show ¬ (3 : Int32) = 2 by decide), if_pos (show (3 : Int32) = 3 from rfl)]
  simp only [r1, r2, r3, r4, r5, s1, s2, s3, s4, s5, bd_some, b1_some, flg, rc8 X, rc45 X1, a1, a2, lgs, n6, if_true, eq_self]
theorem lw_worker (I : INV h) (X : FX h) (e : hk h 2 = some (10, L)) (h6 : i + 6 ≤ L) (hL : L ≤ 3072) (eo : hi h 2 i &&& 31 = 4) (n : Nat) : ∃ h', f_L_law_L18 (n + 1) (some 2) (some 8) (some 45) (nI i) h = f_L_law_L18 n (some 2) (some 8) (some 45) (nI (i + 6)) h' ∧ INV h' ∧ KS h h' := by
  obtain ⟨v, h1, h2, a1, a2, J, k1, k2⟩ := ag_worker (hi h 2 (i + 1)) (!decide (hi h 2 (i + 2) = 0)) h I
  simp only at a1 a2
  have X1 := k1.1
  obtain ⟨r1, r2, r3, r4, r5⟩ := rdS5 e hL h6
  obtain ⟨s1, s2, s3, s4, s5⟩ := rdS5 (h := h1) (k1.2.1.trans e) hL h6
  simp only [k1.2.2] at s1 s2 s3 s4 s5
  have n6 : nI i + 6 = nI (i + 6) := nI_add i 6
  refine ⟨h2, ?_, J, k2⟩
  rw [f_L_law_L18.eq_2, aln_eq e, bd_some, if_neg (not_end h6 hL), rdS e hL (by omega), bd_some, eo, if_neg (show ¬ ((4 : Int32).toInt < 0 ∨ 28 < (4 : Int32).toInt) by decide), if_neg (show ¬ (4 : Int32) = 0 by decide), if_neg (show ¬ (4 : Int32) = 1 by decide), if_neg (show ¬ (4 : Int32) = 2 by decide), if_neg (show ¬ (4 : Int32) = 3 by decide), if_pos (show (4 : Int32) = 4 from rfl)]
  simp only [r1, r2, r3, r4, r5, s1, s2, s3, s4, s5, bd_some, b1_some, flg, rc8 X, rc45 X1, a1, a2, lgs, n6, if_true, eq_self]
theorem lw_pay (I : INV h) (X : FX h) (e : hk h 2 = some (10, L)) (h6 : i + 6 ≤ L) (hL : L ≤ 3072) (eo : hi h 2 i &&& 31 = 5) (n : Nat) : ∃ h', f_L_law_L18 (n + 1) (some 2) (some 8) (some 45) (nI i) h = f_L_law_L18 n (some 2) (some 8) (some 45) (nI (i + 6)) h' ∧ INV h' ∧ KS h h' := by
  obtain ⟨v, h1, h2, a1, a2, J, k1, k2⟩ := ag_pay (hi h 2 (i + 1)) (hi h 2 (i + 2)) (hi h 2 (i + 3)) (hi h 2 (i + 4)) h I
  simp only at a1 a2
  have X1 := k1.1
  obtain ⟨r1, r2, r3, r4, r5⟩ := rdS5 e hL h6
  obtain ⟨s1, s2, s3, s4, s5⟩ := rdS5 (h := h1) (k1.2.1.trans e) hL h6
  simp only [k1.2.2] at s1 s2 s3 s4 s5
  have n6 : nI i + 6 = nI (i + 6) := nI_add i 6
  refine ⟨h2, ?_, J, k2⟩
  rw [f_L_law_L18.eq_2, aln_eq e, bd_some, if_neg (not_end h6 hL), rdS e hL (by omega), bd_some, eo, if_neg (show ¬ ((5 : Int32).toInt < 0 ∨ 28 < (5 : Int32).toInt) by decide), if_neg (show ¬ (5 : Int32) = 0 by decide), if_neg (show ¬ (5 : Int32) = 1 by decide), if_neg (show ¬ (5 : Int32) = 2 by decide), if_neg (show ¬ (5 : Int32) = 3 by decide), if_neg (show ¬ (5 : Int32) = 4 by decide), if_pos (show (5 : Int32) = 5 from rfl)]
  simp only [r1, r2, r3, r4, r5, s1, s2, s3, s4, s5, bd_some, b1_some, flg, rc8 X, rc45 X1, a1, a2, lgs, n6, if_true, eq_self]
theorem lw_lost (I : INV h) (X : FX h) (e : hk h 2 = some (10, L)) (h6 : i + 6 ≤ L) (hL : L ≤ 3072) (eo : hi h 2 i &&& 31 = 6) (n : Nat) : ∃ h', f_L_law_L18 (n + 1) (some 2) (some 8) (some 45) (nI i) h = f_L_law_L18 n (some 2) (some 8) (some 45) (nI (i + 6)) h' ∧ INV h' ∧ KS h h' := by
  obtain ⟨v, h1, h2, a1, a2, J, k1, k2⟩ := ag_lost (hi h 2 (i + 1)) (hi h 2 (i + 2)) h I
  simp only at a1 a2
  have X1 := k1.1
  obtain ⟨r1, r2, r3, r4, r5⟩ := rdS5 e hL h6
  obtain ⟨s1, s2, s3, s4, s5⟩ := rdS5 (h := h1) (k1.2.1.trans e) hL h6
  simp only [k1.2.2] at s1 s2 s3 s4 s5
  have n6 : nI i + 6 = nI (i + 6) := nI_add i 6
  refine ⟨h2, ?_, J, k2⟩
  rw [f_L_law_L18.eq_2, aln_eq e, bd_some, if_neg (not_end h6 hL), rdS e hL (by omega), bd_some, eo, if_neg (show ¬ ((6 : Int32).toInt < 0 ∨ 28 < (6 : Int32).toInt) by decide), if_neg (show ¬ (6 : Int32) = 0 by decide), if_neg (show ¬ (6 : Int32) = 1 by decide), if_neg (show ¬ (6 : Int32) = 2 by decide), if_neg (show ¬ (6 : Int32) = 3 by decide), if_neg (show ¬ (6 : Int32) = 4 by decide), if_neg (show ¬ (6 : Int32) = 5 by decide), if_pos (show (6 : Int32) = 6 from rfl)]
  simp only [r1, r2, r3, r4, r5, s1, s2, s3, s4, s5, bd_some, b1_some, flg, rc8 X, rc45 X1, a1, a2, lgs, n6, if_true, eq_self]
theorem lw_bank (I : INV h) (X : FX h) (e : hk h 2 = some (10, L)) (h6 : i + 6 ≤ L) (hL : L ≤ 3072) (eo : hi h 2 i &&& 31 = 7) (n : Nat) : ∃ h', f_L_law_L18 (n + 1) (some 2) (some 8) (some 45) (nI i) h = f_L_law_L18 n (some 2) (some 8) (some 45) (nI (i + 6)) h' ∧ INV h' ∧ KS h h' := by
  obtain ⟨v, h1, h2, a1, a2, J, k1, k2⟩ := ag_bank (hi h 2 (i + 1)) (hi h 2 (i + 2)) (hi h 2 (i + 3)) (hi h 2 (i + 4)) h I
  simp only at a1 a2
  have X1 := k1.1
  obtain ⟨r1, r2, r3, r4, r5⟩ := rdS5 e hL h6
  obtain ⟨s1, s2, s3, s4, s5⟩ := rdS5 (h := h1) (k1.2.1.trans e) hL h6
  simp only [k1.2.2] at s1 s2 s3 s4 s5
  have n6 : nI i + 6 = nI (i + 6) := nI_add i 6
  refine ⟨h2, ?_, J, k2⟩
  rw [f_L_law_L18.eq_2, aln_eq e, bd_some, if_neg (not_end h6 hL), rdS e hL (by omega), bd_some, eo, if_neg (show ¬ ((7 : Int32).toInt < 0 ∨ 28 < (7 : Int32).toInt) by decide), if_neg (show ¬ (7 : Int32) = 0 by decide), if_neg (show ¬ (7 : Int32) = 1 by decide), if_neg (show ¬ (7 : Int32) = 2 by decide), if_neg (show ¬ (7 : Int32) = 3 by decide), if_neg (show ¬ (7 : Int32) = 4 by decide), if_neg (show ¬ (7 : Int32) = 5 by decide), if_neg (show ¬ (7 : Int32) = 6 by decide), if_pos (show (7 : Int32) = 7 from rfl)]
  simp only [r1, r2, r3, r4, r5, s1, s2, s3, s4, s5, bd_some, b1_some, flg, rc8 X, rc45 X1, a1, a2, lgs, n6, if_true, eq_self]
theorem lw_holiday (I : INV h) (X : FX h) (e : hk h 2 = some (10, L)) (h6 : i + 6 ≤ L) (hL : L ≤ 3072) (eo : hi h 2 i &&& 31 = 8) (n : Nat) : ∃ h', f_L_law_L18 (n + 1) (some 2) (some 8) (some 45) (nI i) h = f_L_law_L18 n (some 2) (some 8) (some 45) (nI (i + 6)) h' ∧ INV h' ∧ KS h h' := by
  obtain ⟨v, h1, h2, a1, a2, J, k1, k2⟩ := ag_holiday (hi h 2 (i + 1)) (hi h 2 (i + 2)) (hi h 2 (i + 3)) (hi h 2 (i + 4)) h I
  simp only at a1 a2
  have X1 := k1.1
  obtain ⟨r1, r2, r3, r4, r5⟩ := rdS5 e hL h6
  obtain ⟨s1, s2, s3, s4, s5⟩ := rdS5 (h := h1) (k1.2.1.trans e) hL h6
  simp only [k1.2.2] at s1 s2 s3 s4 s5
  have n6 : nI i + 6 = nI (i + 6) := nI_add i 6
  refine ⟨h2, ?_, J, k2⟩
  rw [f_L_law_L18.eq_2, aln_eq e, bd_some, if_neg (not_end h6 hL), rdS e hL (by omega), bd_some, eo, if_neg (show ¬ ((8 : Int32).toInt < 0 ∨ 28 < (8 : Int32).toInt) by decide), if_neg (show ¬ (8 : Int32) = 0 by decide), if_neg (show ¬ (8 : Int32) = 1 by decide), if_neg (show ¬ (8 : Int32) = 2 by decide), if_neg (show ¬ (8 : Int32) = 3 by decide), if_neg (show ¬ (8 : Int32) = 4 by decide), if_neg (show ¬ (8 : Int32) = 5 by decide), if_neg (show ¬ (8 : Int32) = 6 by decide), if_neg (show ¬ (8 : Int32) = 7 by decide), if_pos (show (8 : Int32) = 8 from rfl)]
  simp only [r1, r2, r3, r4, r5, s1, s2, s3, s4, s5, bd_some, b1_some, flg, rc8 X, rc45 X1, a1, a2, lgs, n6, if_true, eq_self]
theorem lw_settle (I : INV h) (X : FX h) (e : hk h 2 = some (10, L)) (h6 : i + 6 ≤ L) (hL : L ≤ 3072) (eo : hi h 2 i &&& 31 = 9) (n : Nat) : ∃ h', f_L_law_L18 (n + 1) (some 2) (some 8) (some 45) (nI i) h = f_L_law_L18 n (some 2) (some 8) (some 45) (nI (i + 6)) h' ∧ INV h' ∧ KS h h' := by
  obtain ⟨v, h1, h2, a1, a2, J, k1, k2⟩ := ag_settle (hi h 2 (i + 1)) (hi h 2 (i + 2)) (hi h 2 (i + 3)) h I
  simp only at a1 a2
  have X1 := k1.1
  obtain ⟨r1, r2, r3, r4, r5⟩ := rdS5 e hL h6
  obtain ⟨s1, s2, s3, s4, s5⟩ := rdS5 (h := h1) (k1.2.1.trans e) hL h6
  simp only [k1.2.2] at s1 s2 s3 s4 s5
  have n6 : nI i + 6 = nI (i + 6) := nI_add i 6
  refine ⟨h2, ?_, J, k2⟩
  rw [f_L_law_L18.eq_2, aln_eq e, bd_some, if_neg (not_end h6 hL), rdS e hL (by omega), bd_some, eo, if_neg (show ¬ ((9 : Int32).toInt < 0 ∨ 28 < (9 : Int32).toInt) by decide), if_neg (show ¬ (9 : Int32) = 0 by decide), if_neg (show ¬ (9 : Int32) = 1 by decide), if_neg (show ¬ (9 : Int32) = 2 by decide), if_neg (show ¬ (9 : Int32) = 3 by decide), if_neg (show ¬ (9 : Int32) = 4 by decide), if_neg (show ¬ (9 : Int32) = 5 by decide), if_neg (show ¬ (9 : Int32) = 6 by decide), if_neg (show ¬ (9 : Int32) = 7 by decide), if_neg (show ¬ (9 : Int32) = 8 by decide), if_pos (show (9 : Int32) = 9 from rfl)]
  simp only [r1, r2, r3, r4, r5, s1, s2, s3, s4, s5, bd_some, b1_some, flg, rc8 X, rc45 X1, a1, a2, lgs, n6, if_true, eq_self]
theorem lw_claim (I : INV h) (X : FX h) (e : hk h 2 = some (10, L)) (h6 : i + 6 ≤ L) (hL : L ≤ 3072) (eo : hi h 2 i &&& 31 = 10) (n : Nat) : ∃ h', f_L_law_L18 (n + 1) (some 2) (some 8) (some 45) (nI i) h = f_L_law_L18 n (some 2) (some 8) (some 45) (nI (i + 6)) h' ∧ INV h' ∧ KS h h' := by
  obtain ⟨v, h1, h2, a1, a2, J, k1, k2⟩ := ag_claim (hi h 2 (i + 1)) (hi h 2 (i + 2)) h I
  simp only at a1 a2
  have X1 := k1.1
  obtain ⟨r1, r2, r3, r4, r5⟩ := rdS5 e hL h6
  obtain ⟨s1, s2, s3, s4, s5⟩ := rdS5 (h := h1) (k1.2.1.trans e) hL h6
  simp only [k1.2.2] at s1 s2 s3 s4 s5
  have n6 : nI i + 6 = nI (i + 6) := nI_add i 6
  refine ⟨h2, ?_, J, k2⟩
  rw [f_L_law_L18.eq_2, aln_eq e, bd_some, if_neg (not_end h6 hL), rdS e hL (by omega), bd_some, eo, if_neg (show ¬ ((10 : Int32).toInt < 0 ∨ 28 < (10 : Int32).toInt) by decide), if_neg (show ¬ (10 : Int32) = 0 by decide), if_neg (show ¬ (10 : Int32) = 1 by decide), if_neg (show ¬ (10 : Int32) = 2 by decide), if_neg (show ¬ (10 : Int32) = 3 by decide), if_neg (show ¬ (10 : Int32) = 4 by decide), if_neg (show ¬ (10 : Int32) = 5 by decide), if_neg (show ¬ (10 : Int32) = 6 by decide), if_neg (show ¬ (10 : Int32) = 7 by decide), if_neg (show ¬ (10 : Int32) = 8 by decide), if_neg (show ¬ (10 : Int32) = 9 by decide), if_pos (show (10 : Int32) = 10 from rfl)]
  simp only [r1, r2, r3, r4, r5, s1, s2, s3, s4, s5, bd_some, b1_some, flg, rc8 X, rc45 X1, a1, a2, lgs, n6, if_true, eq_self]
theorem lw_untell (I : INV h) (X : FX h) (e : hk h 2 = some (10, L)) (h6 : i + 6 ≤ L) (hL : L ≤ 3072) (eo : hi h 2 i &&& 31 = 11) (n : Nat) : ∃ h', f_L_law_L18 (n + 1) (some 2) (some 8) (some 45) (nI i) h = f_L_law_L18 n (some 2) (some 8) (some 45) (nI (i + 6)) h' ∧ INV h' ∧ KS h h' := by
  obtain ⟨v, h1, h2, a1, a2, J, k1, k2⟩ := ag_untell (hi h 2 (i + 1)) h I
  simp only at a1 a2
  have X1 := k1.1
  obtain ⟨r1, r2, r3, r4, r5⟩ := rdS5 e hL h6
  obtain ⟨s1, s2, s3, s4, s5⟩ := rdS5 (h := h1) (k1.2.1.trans e) hL h6
  simp only [k1.2.2] at s1 s2 s3 s4 s5
  have n6 : nI i + 6 = nI (i + 6) := nI_add i 6
  refine ⟨h2, ?_, J, k2⟩
  rw [f_L_law_L18.eq_2, aln_eq e, bd_some, if_neg (not_end h6 hL), rdS e hL (by omega), bd_some, eo, if_neg (show ¬ ((11 : Int32).toInt < 0 ∨ 28 < (11 : Int32).toInt) by decide), if_neg (show ¬ (11 : Int32) = 0 by decide), if_neg (show ¬ (11 : Int32) = 1 by decide), if_neg (show ¬ (11 : Int32) = 2 by decide), if_neg (show ¬ (11 : Int32) = 3 by decide), if_neg (show ¬ (11 : Int32) = 4 by decide), if_neg (show ¬ (11 : Int32) = 5 by decide), if_neg (show ¬ (11 : Int32) = 6 by decide), if_neg (show ¬ (11 : Int32) = 7 by decide), if_neg (show ¬ (11 : Int32) = 8 by decide), if_neg (show ¬ (11 : Int32) = 9 by decide), if_neg (show ¬ (11 : Int32) = 10 by decide), if_pos (show (11 : Int32) = 11 from rfl)]
  simp only [r1, r2, r3, r4, r5, s1, s2, s3, s4, s5, bd_some, b1_some, flg, rc8 X, rc45 X1, a1, a2, lgs, n6, if_true, eq_self]
theorem lw_later (I : INV h) (X : FX h) (e : hk h 2 = some (10, L)) (h6 : i + 6 ≤ L) (hL : L ≤ 3072) (eo : hi h 2 i &&& 31 = 12) (n : Nat) : ∃ h', f_L_law_L18 (n + 1) (some 2) (some 8) (some 45) (nI i) h = f_L_law_L18 n (some 2) (some 8) (some 45) (nI (i + 6)) h' ∧ INV h' ∧ KS h h' := by
  obtain ⟨v, h1, h2, a1, a2, J, k1, k2⟩ := ag_later (hi h 2 (i + 1)) h I
  simp only at a1 a2
  have X1 := k1.1
  obtain ⟨r1, r2, r3, r4, r5⟩ := rdS5 e hL h6
  obtain ⟨s1, s2, s3, s4, s5⟩ := rdS5 (h := h1) (k1.2.1.trans e) hL h6
  simp only [k1.2.2] at s1 s2 s3 s4 s5
  have n6 : nI i + 6 = nI (i + 6) := nI_add i 6
  refine ⟨h2, ?_, J, k2⟩
  rw [f_L_law_L18.eq_2, aln_eq e, bd_some, if_neg (not_end h6 hL), rdS e hL (by omega), bd_some, eo, if_neg (show ¬ ((12 : Int32).toInt < 0 ∨ 28 < (12 : Int32).toInt) by decide), if_neg (show ¬ (12 : Int32) = 0 by decide), if_neg (show ¬ (12 : Int32) = 1 by decide), if_neg (show ¬ (12 : Int32) = 2 by decide), if_neg (show ¬ (12 : Int32) = 3 by decide), if_neg (show ¬ (12 : Int32) = 4 by decide), if_neg (show ¬ (12 : Int32) = 5 by decide), if_neg (show ¬ (12 : Int32) = 6 by decide), if_neg (show ¬ (12 : Int32) = 7 by decide), if_neg (show ¬ (12 : Int32) = 8 by decide), if_neg (show ¬ (12 : Int32) = 9 by decide), if_neg (show ¬ (12 : Int32) = 10 by decide), if_neg (show ¬ (12 : Int32) = 11 by decide), if_pos (show (12 : Int32) = 12 from rfl)]
  simp only [r1, r2, r3, r4, r5, s1, s2, s3, s4, s5, bd_some, b1_some, flg, rc8 X, rc45 X1, a1, a2, lgs, n6, if_true, eq_self]
theorem lw_span (I : INV h) (X : FX h) (e : hk h 2 = some (10, L)) (h6 : i + 6 ≤ L) (hL : L ≤ 3072) (eo : hi h 2 i &&& 31 = 13) (n : Nat) : ∃ h', f_L_law_L18 (n + 1) (some 2) (some 8) (some 45) (nI i) h = f_L_law_L18 n (some 2) (some 8) (some 45) (nI (i + 6)) h' ∧ INV h' ∧ KS h h' := by
  obtain ⟨v, h1, h2, a1, a2, J, k1, k2⟩ := ag_span (hi h 2 (i + 1)) (hi h 2 (i + 2)) (hi h 2 (i + 4)) (!decide (hi h 2 (i + 3) = 0)) h I
  simp only at a1 a2
  have X1 := k1.1
  obtain ⟨r1, r2, r3, r4, r5⟩ := rdS5 e hL h6
  obtain ⟨s1, s2, s3, s4, s5⟩ := rdS5 (h := h1) (k1.2.1.trans e) hL h6
  simp only [k1.2.2] at s1 s2 s3 s4 s5
  have n6 : nI i + 6 = nI (i + 6) := nI_add i 6
  refine ⟨h2, ?_, J, k2⟩
  rw [f_L_law_L18.eq_2, aln_eq e, bd_some, if_neg (not_end h6 hL), rdS e hL (by omega), bd_some, eo, if_neg (show ¬ ((13 : Int32).toInt < 0 ∨ 28 < (13 : Int32).toInt) by decide), if_neg (show ¬ (13 : Int32) = 0 by decide), if_neg (show ¬ (13 : Int32) = 1 by decide), if_neg (show ¬ (13 : Int32) = 2 by decide), if_neg (show ¬ (13 : Int32) = 3 by decide), if_neg (show ¬ (13 : Int32) = 4 by decide), if_neg (show ¬ (13 : Int32) = 5 by decide), if_neg (show ¬ (13 : Int32) = 6 by decide), if_neg (show ¬ (13 : Int32) = 7 by decide), if_neg (show ¬ (13 : Int32) = 8 by decide), if_neg (show ¬ (13 : Int32) = 9 by decide), if_neg (show ¬ (13 : Int32) = 10 by decide), if_neg (show ¬ (13 : Int32) = 11 by decide), if_neg (show ¬ (13 : Int32) = 12 by decide), if_pos (show (13 : Int32) = 13 from rfl)]
  simp only [r1, r2, r3, r4, r5, s1, s2, s3, s4, s5, bd_some, b1_some, flg, rc8 X, rc45 X1, a1, a2, lgs, n6, if_true, eq_self]
theorem lw_quarrel (I : INV h) (X : FX h) (e : hk h 2 = some (10, L)) (h6 : i + 6 ≤ L) (hL : L ≤ 3072) (eo : hi h 2 i &&& 31 = 14) (n : Nat) : ∃ h', f_L_law_L18 (n + 1) (some 2) (some 8) (some 45) (nI i) h = f_L_law_L18 n (some 2) (some 8) (some 45) (nI (i + 6)) h' ∧ INV h' ∧ KS h h' := by
  obtain ⟨v, h1, h2, a1, a2, J, k1, k2⟩ := ag_quarrel (hi h 2 (i + 1)) (hi h 2 (i + 2)) h I
  simp only at a1 a2
  have X1 := k1.1
  obtain ⟨r1, r2, r3, r4, r5⟩ := rdS5 e hL h6
  obtain ⟨s1, s2, s3, s4, s5⟩ := rdS5 (h := h1) (k1.2.1.trans e) hL h6
  simp only [k1.2.2] at s1 s2 s3 s4 s5
  have n6 : nI i + 6 = nI (i + 6) := nI_add i 6
  refine ⟨h2, ?_, J, k2⟩
  rw [f_L_law_L18.eq_2, aln_eq e, bd_some, if_neg (not_end h6 hL), rdS e hL (by omega), bd_some, eo, if_neg (show ¬ ((14 : Int32).toInt < 0 ∨ 28 < (14 : Int32).toInt) by decide), if_neg (show ¬ (14 : Int32) = 0 by decide), if_neg (show ¬ (14 : Int32) = 1 by decide), if_neg (show ¬ (14 : Int32) = 2 by decide), if_neg (show ¬ (14 : Int32) = 3 by decide), if_neg (show ¬ (14 : Int32) = 4 by decide), if_neg (show ¬ (14 : Int32) = 5 by decide), if_neg (show ¬ (14 : Int32) = 6 by decide), if_neg (show ¬ (14 : Int32) = 7 by decide), if_neg (show ¬ (14 : Int32) = 8 by decide), if_neg (show ¬ (14 : Int32) = 9 by decide), if_neg (show ¬ (14 : Int32) = 10 by decide), if_neg (show ¬ (14 : Int32) = 11 by decide), if_neg (show ¬ (14 : Int32) = 12 by decide), if_neg (show ¬ (14 : Int32) = 13 by decide), if_pos (show (14 : Int32) = 14 from rfl)]
  simp only [r1, r2, r3, r4, r5, s1, s2, s3, s4, s5, bd_some, b1_some, flg, rc8 X, rc45 X1, a1, a2, lgs, n6, if_true, eq_self]
theorem lw_counted (I : INV h) (X : FX h) (e : hk h 2 = some (10, L)) (h6 : i + 6 ≤ L) (hL : L ≤ 3072) (eo : hi h 2 i &&& 31 = 15) (n : Nat) : ∃ h', f_L_law_L18 (n + 1) (some 2) (some 8) (some 45) (nI i) h = f_L_law_L18 n (some 2) (some 8) (some 45) (nI (i + 6)) h' ∧ INV h' ∧ KS h h' := by
  obtain ⟨v, h1, h2, a1, a2, J, k1, k2⟩ := ag_counted (hi h 2 (i + 1)) (hi h 2 (i + 2)) (hi h 2 (i + 3)) (hi h 2 (i + 5)) (!decide (hi h 2 (i + 4) = 0)) h I
  simp only at a1 a2
  have X1 := k1.1
  obtain ⟨r1, r2, r3, r4, r5⟩ := rdS5 e hL h6
  obtain ⟨s1, s2, s3, s4, s5⟩ := rdS5 (h := h1) (k1.2.1.trans e) hL h6
  simp only [k1.2.2] at s1 s2 s3 s4 s5
  have n6 : nI i + 6 = nI (i + 6) := nI_add i 6
  refine ⟨h2, ?_, J, k2⟩
  rw [f_L_law_L18.eq_2, aln_eq e, bd_some, if_neg (not_end h6 hL), rdS e hL (by omega), bd_some, eo, if_neg (show ¬ ((15 : Int32).toInt < 0 ∨ 28 < (15 : Int32).toInt) by decide), if_neg (show ¬ (15 : Int32) = 0 by decide), if_neg (show ¬ (15 : Int32) = 1 by decide), if_neg (show ¬ (15 : Int32) = 2 by decide), if_neg (show ¬ (15 : Int32) = 3 by decide), if_neg (show ¬ (15 : Int32) = 4 by decide), if_neg (show ¬ (15 : Int32) = 5 by decide), if_neg (show ¬ (15 : Int32) = 6 by decide), if_neg (show ¬ (15 : Int32) = 7 by decide), if_neg (show ¬ (15 : Int32) = 8 by decide), if_neg (show ¬ (15 : Int32) = 9 by decide), if_neg (show ¬ (15 : Int32) = 10 by decide), if_neg (show ¬ (15 : Int32) = 11 by decide), if_neg (show ¬ (15 : Int32) = 12 by decide), if_neg (show ¬ (15 : Int32) = 13 by decide), if_neg (show ¬ (15 : Int32) = 14 by decide), if_pos (show (15 : Int32) = 15 from rfl)]
  simp only [r1, r2, r3, r4, r5, s1, s2, s3, s4, s5, bd_some, b1_some, flg, rc8 X, rc45 X1, a1, a2, lgs, n6, if_true, eq_self]
theorem lw_empty (I : INV h) (X : FX h) (e : hk h 2 = some (10, L)) (h6 : i + 6 ≤ L) (hL : L ≤ 3072) (eo : hi h 2 i &&& 31 = 16) (n : Nat) : ∃ h', f_L_law_L18 (n + 1) (some 2) (some 8) (some 45) (nI i) h = f_L_law_L18 n (some 2) (some 8) (some 45) (nI (i + 6)) h' ∧ INV h' ∧ KS h h' := by
  obtain ⟨v, h1, h2, a1, a2, J, k1, k2⟩ := ag_empty (hi h 2 (i + 1)) (hi h 2 (i + 2)) (hi h 2 (i + 3)) (hi h 2 (i + 5)) (!decide (hi h 2 (i + 4) = 0)) h I
  simp only at a1 a2
  have X1 := k1.1
  obtain ⟨r1, r2, r3, r4, r5⟩ := rdS5 e hL h6
  obtain ⟨s1, s2, s3, s4, s5⟩ := rdS5 (h := h1) (k1.2.1.trans e) hL h6
  simp only [k1.2.2] at s1 s2 s3 s4 s5
  have n6 : nI i + 6 = nI (i + 6) := nI_add i 6
  refine ⟨h2, ?_, J, k2⟩
  rw [f_L_law_L18.eq_2, aln_eq e, bd_some, if_neg (not_end h6 hL), rdS e hL (by omega), bd_some, eo, if_neg (show ¬ ((16 : Int32).toInt < 0 ∨ 28 < (16 : Int32).toInt) by decide), if_neg (show ¬ (16 : Int32) = 0 by decide), if_neg (show ¬ (16 : Int32) = 1 by decide), if_neg (show ¬ (16 : Int32) = 2 by decide), if_neg (show ¬ (16 : Int32) = 3 by decide), if_neg (show ¬ (16 : Int32) = 4 by decide), if_neg (show ¬ (16 : Int32) = 5 by decide), if_neg (show ¬ (16 : Int32) = 6 by decide), if_neg (show ¬ (16 : Int32) = 7 by decide), if_neg (show ¬ (16 : Int32) = 8 by decide), if_neg (show ¬ (16 : Int32) = 9 by decide), if_neg (show ¬ (16 : Int32) = 10 by decide), if_neg (show ¬ (16 : Int32) = 11 by decide), if_neg (show ¬ (16 : Int32) = 12 by decide), if_neg (show ¬ (16 : Int32) = 13 by decide), if_neg (show ¬ (16 : Int32) = 14 by decide), if_neg (show ¬ (16 : Int32) = 15 by decide), if_pos (show (16 : Int32) = 16 from rfl)]
  simp only [r1, r2, r3, r4, r5, s1, s2, s3, s4, s5, bd_some, b1_some, flg, rc8 X, rc45 X1, a1, a2, lgs, n6, if_true, eq_self]
theorem lw_average (I : INV h) (X : FX h) (e : hk h 2 = some (10, L)) (h6 : i + 6 ≤ L) (hL : L ≤ 3072) (eo : hi h 2 i &&& 31 = 17) (n : Nat) : ∃ h', f_L_law_L18 (n + 1) (some 2) (some 8) (some 45) (nI i) h = f_L_law_L18 n (some 2) (some 8) (some 45) (nI (i + 6)) h' ∧ INV h' ∧ KS h h' := by
  obtain ⟨v, h1, h2, a1, a2, J, k1, k2⟩ := ag_average (hi h 2 (i + 1)) (hi h 2 (i + 2)) (hi h 2 (i + 4)) (!decide (hi h 2 (i + 3) = 0)) h I
  simp only at a1 a2
  have X1 := k1.1
  obtain ⟨r1, r2, r3, r4, r5⟩ := rdS5 e hL h6
  obtain ⟨s1, s2, s3, s4, s5⟩ := rdS5 (h := h1) (k1.2.1.trans e) hL h6
  simp only [k1.2.2] at s1 s2 s3 s4 s5
  have n6 : nI i + 6 = nI (i + 6) := nI_add i 6
  refine ⟨h2, ?_, J, k2⟩
  rw [f_L_law_L18.eq_2, aln_eq e, bd_some, if_neg (not_end h6 hL), rdS e hL (by omega), bd_some, eo, if_neg (show ¬ ((17 : Int32).toInt < 0 ∨ 28 < (17 : Int32).toInt) by decide), if_neg (show ¬ (17 : Int32) = 0 by decide), if_neg (show ¬ (17 : Int32) = 1 by decide), if_neg (show ¬ (17 : Int32) = 2 by decide), if_neg (show ¬ (17 : Int32) = 3 by decide), if_neg (show ¬ (17 : Int32) = 4 by decide), if_neg (show ¬ (17 : Int32) = 5 by decide), if_neg (show ¬ (17 : Int32) = 6 by decide), if_neg (show ¬ (17 : Int32) = 7 by decide), if_neg (show ¬ (17 : Int32) = 8 by decide), if_neg (show ¬ (17 : Int32) = 9 by decide), if_neg (show ¬ (17 : Int32) = 10 by decide), if_neg (show ¬ (17 : Int32) = 11 by decide), if_neg (show ¬ (17 : Int32) = 12 by decide), if_neg (show ¬ (17 : Int32) = 13 by decide), if_neg (show ¬ (17 : Int32) = 14 by decide), if_neg (show ¬ (17 : Int32) = 15 by decide), if_neg (show ¬ (17 : Int32) = 16 by decide), if_pos (show (17 : Int32) = 17 from rfl)]
  simp only [r1, r2, r3, r4, r5, s1, s2, s3, s4, s5, bd_some, b1_some, flg, rc8 X, rc45 X1, a1, a2, lgs, n6, if_true, eq_self]
theorem lw_weeks (I : INV h) (X : FX h) (e : hk h 2 = some (10, L)) (h6 : i + 6 ≤ L) (hL : L ≤ 3072) (eo : hi h 2 i &&& 31 = 18) (n : Nat) : ∃ h', f_L_law_L18 (n + 1) (some 2) (some 8) (some 45) (nI i) h = f_L_law_L18 n (some 2) (some 8) (some 45) (nI (i + 6)) h' ∧ INV h' ∧ KS h h' := by
  obtain ⟨v, h1, h2, a1, a2, J, k1, k2⟩ := ag_weeks (hi h 2 (i + 1)) (hi h 2 (i + 2)) (hi h 2 (i + 4)) (!decide (hi h 2 (i + 3) = 0)) h I
  simp only at a1 a2
  have X1 := k1.1
  obtain ⟨r1, r2, r3, r4, r5⟩ := rdS5 e hL h6
  obtain ⟨s1, s2, s3, s4, s5⟩ := rdS5 (h := h1) (k1.2.1.trans e) hL h6
  simp only [k1.2.2] at s1 s2 s3 s4 s5
  have n6 : nI i + 6 = nI (i + 6) := nI_add i 6
  refine ⟨h2, ?_, J, k2⟩
  rw [f_L_law_L18.eq_2, aln_eq e, bd_some, if_neg (not_end h6 hL), rdS e hL (by omega), bd_some, eo, if_neg (show ¬ ((18 : Int32).toInt < 0 ∨ 28 < (18 : Int32).toInt) by decide), if_neg (show ¬ (18 : Int32) = 0 by decide), if_neg (show ¬ (18 : Int32) = 1 by decide), if_neg (show ¬ (18 : Int32) = 2 by decide), if_neg (show ¬ (18 : Int32) = 3 by decide), if_neg (show ¬ (18 : Int32) = 4 by decide), if_neg (show ¬ (18 : Int32) = 5 by decide), if_neg (show ¬ (18 : Int32) = 6 by decide), if_neg (show ¬ (18 : Int32) = 7 by decide), if_neg (show ¬ (18 : Int32) = 8 by decide), if_neg (show ¬ (18 : Int32) = 9 by decide), if_neg (show ¬ (18 : Int32) = 10 by decide), if_neg (show ¬ (18 : Int32) = 11 by decide), if_neg (show ¬ (18 : Int32) = 12 by decide), if_neg (show ¬ (18 : Int32) = 13 by decide), if_neg (show ¬ (18 : Int32) = 14 by decide), if_neg (show ¬ (18 : Int32) = 15 by decide), if_neg (show ¬ (18 : Int32) = 16 by decide), if_neg (show ¬ (18 : Int32) = 17 by decide), if_pos (show (18 : Int32) = 18 from rfl)]
  simp only [r1, r2, r3, r4, r5, s1, s2, s3, s4, s5, bd_some, b1_some, flg, rc8 X, rc45 X1, a1, a2, lgs, n6, if_true, eq_self]
theorem lw_owed (I : INV h) (X : FX h) (e : hk h 2 = some (10, L)) (h6 : i + 6 ≤ L) (hL : L ≤ 3072) (eo : hi h 2 i &&& 31 = 19) (n : Nat) : ∃ h', f_L_law_L18 (n + 1) (some 2) (some 8) (some 45) (nI i) h = f_L_law_L18 n (some 2) (some 8) (some 45) (nI (i + 6)) h' ∧ INV h' ∧ KS h h' := by
  obtain ⟨v, h1, h2, a1, a2, J, k1, k2⟩ := ag_owed (hi h 2 (i + 1)) (hi h 2 (i + 2)) (hi h 2 (i + 4)) (!decide (hi h 2 (i + 3) = 0)) h I
  simp only at a1 a2
  have X1 := k1.1
  obtain ⟨r1, r2, r3, r4, r5⟩ := rdS5 e hL h6
  obtain ⟨s1, s2, s3, s4, s5⟩ := rdS5 (h := h1) (k1.2.1.trans e) hL h6
  simp only [k1.2.2] at s1 s2 s3 s4 s5
  have n6 : nI i + 6 = nI (i + 6) := nI_add i 6
  refine ⟨h2, ?_, J, k2⟩
  rw [f_L_law_L18.eq_2, aln_eq e, bd_some, if_neg (not_end h6 hL), rdS e hL (by omega), bd_some, eo, if_neg (show ¬ ((19 : Int32).toInt < 0 ∨ 28 < (19 : Int32).toInt) by decide), if_neg (show ¬ (19 : Int32) = 0 by decide), if_neg (show ¬ (19 : Int32) = 1 by decide), if_neg (show ¬ (19 : Int32) = 2 by decide), if_neg (show ¬ (19 : Int32) = 3 by decide), if_neg (show ¬ (19 : Int32) = 4 by decide), if_neg (show ¬ (19 : Int32) = 5 by decide), if_neg (show ¬ (19 : Int32) = 6 by decide), if_neg (show ¬ (19 : Int32) = 7 by decide), if_neg (show ¬ (19 : Int32) = 8 by decide), if_neg (show ¬ (19 : Int32) = 9 by decide), if_neg (show ¬ (19 : Int32) = 10 by decide), if_neg (show ¬ (19 : Int32) = 11 by decide), if_neg (show ¬ (19 : Int32) = 12 by decide), if_neg (show ¬ (19 : Int32) = 13 by decide), if_neg (show ¬ (19 : Int32) = 14 by decide), if_neg (show ¬ (19 : Int32) = 15 by decide), if_neg (show ¬ (19 : Int32) = 16 by decide), if_neg (show ¬ (19 : Int32) = 17 by decide), if_neg (show ¬ (19 : Int32) = 18 by decide), if_pos (show (19 : Int32) = 19 from rfl)]
  simp only [r1, r2, r3, r4, r5, s1, s2, s3, s4, s5, bd_some, b1_some, flg, rc8 X, rc45 X1, a1, a2, lgs, n6, if_true, eq_self]
theorem lw_chain (I : INV h) (X : FX h) (e : hk h 2 = some (10, L)) (h6 : i + 6 ≤ L) (hL : L ≤ 3072) (eo : hi h 2 i &&& 31 = 20) (n : Nat) : ∃ h', f_L_law_L18 (n + 1) (some 2) (some 8) (some 45) (nI i) h = f_L_law_L18 n (some 2) (some 8) (some 45) (nI (i + 6)) h' ∧ INV h' ∧ KS h h' := by
  obtain ⟨v, h1, h2, a1, a2, J, k1, k2⟩ := ag_chain (hi h 2 (i + 1)) (hi h 2 (i + 2)) (hi h 2 (i + 4)) (!decide (hi h 2 (i + 3) = 0)) h I
  simp only at a1 a2
  have X1 := k1.1
  obtain ⟨r1, r2, r3, r4, r5⟩ := rdS5 e hL h6
  obtain ⟨s1, s2, s3, s4, s5⟩ := rdS5 (h := h1) (k1.2.1.trans e) hL h6
  simp only [k1.2.2] at s1 s2 s3 s4 s5
  have n6 : nI i + 6 = nI (i + 6) := nI_add i 6
  refine ⟨h2, ?_, J, k2⟩
  rw [f_L_law_L18.eq_2, aln_eq e, bd_some, if_neg (not_end h6 hL), rdS e hL (by omega), bd_some, eo, if_neg (show ¬ ((20 : Int32).toInt < 0 ∨ 28 < (20 : Int32).toInt) by decide), if_neg (show ¬ (20 : Int32) = 0 by decide), if_neg (show ¬ (20 : Int32) = 1 by decide), if_neg (show ¬ (20 : Int32) = 2 by decide), if_neg (show ¬ (20 : Int32) = 3 by decide), if_neg (show ¬ (20 : Int32) = 4 by decide), if_neg (show ¬ (20 : Int32) = 5 by decide), if_neg (show ¬ (20 : Int32) = 6 by decide), if_neg (show ¬ (20 : Int32) = 7 by decide), if_neg (show ¬ (20 : Int32) = 8 by decide), if_neg (show ¬ (20 : Int32) = 9 by decide), if_neg (show ¬ (20 : Int32) = 10 by decide), if_neg (show ¬ (20 : Int32) = 11 by decide), if_neg (show ¬ (20 : Int32) = 12 by decide), if_neg (show ¬ (20 : Int32) = 13 by decide), if_neg (show ¬ (20 : Int32) = 14 by decide), if_neg (show ¬ (20 : Int32) = 15 by decide), if_neg (show ¬ (20 : Int32) = 16 by decide), if_neg (show ¬ (20 : Int32) = 17 by decide), if_neg (show ¬ (20 : Int32) = 18 by decide), if_neg (show ¬ (20 : Int32) = 19 by decide), if_pos (show (20 : Int32) = 20 from rfl)]
  simp only [r1, r2, r3, r4, r5, s1, s2, s3, s4, s5, bd_some, b1_some, flg, rc8 X, rc45 X1, a1, a2, lgs, n6, if_true, eq_self]
theorem lw_link (I : INV h) (X : FX h) (e : hk h 2 = some (10, L)) (h6 : i + 6 ≤ L) (hL : L ≤ 3072) (eo : hi h 2 i &&& 31 = 21) (n : Nat) : ∃ h', f_L_law_L18 (n + 1) (some 2) (some 8) (some 45) (nI i) h = f_L_law_L18 n (some 2) (some 8) (some 45) (nI (i + 6)) h' ∧ INV h' ∧ KS h h' := by
  obtain ⟨v, h1, h2, a1, a2, J, k1, k2⟩ := ag_link (hi h 2 (i + 1)) (hi h 2 (i + 2)) (hi h 2 (i + 3)) (hi h 2 (i + 5)) (!decide (hi h 2 (i + 4) = 0)) h I
  simp only at a1 a2
  have X1 := k1.1
  obtain ⟨r1, r2, r3, r4, r5⟩ := rdS5 e hL h6
  obtain ⟨s1, s2, s3, s4, s5⟩ := rdS5 (h := h1) (k1.2.1.trans e) hL h6
  simp only [k1.2.2] at s1 s2 s3 s4 s5
  have n6 : nI i + 6 = nI (i + 6) := nI_add i 6
  refine ⟨h2, ?_, J, k2⟩
  rw [f_L_law_L18.eq_2, aln_eq e, bd_some, if_neg (not_end h6 hL), rdS e hL (by omega), bd_some, eo, if_neg (show ¬ ((21 : Int32).toInt < 0 ∨ 28 < (21 : Int32).toInt) by decide), if_neg (show ¬ (21 : Int32) = 0 by decide), if_neg (show ¬ (21 : Int32) = 1 by decide), if_neg (show ¬ (21 : Int32) = 2 by decide), if_neg (show ¬ (21 : Int32) = 3 by decide), if_neg (show ¬ (21 : Int32) = 4 by decide), if_neg (show ¬ (21 : Int32) = 5 by decide), if_neg (show ¬ (21 : Int32) = 6 by decide), if_neg (show ¬ (21 : Int32) = 7 by decide), if_neg (show ¬ (21 : Int32) = 8 by decide), if_neg (show ¬ (21 : Int32) = 9 by decide), if_neg (show ¬ (21 : Int32) = 10 by decide), if_neg (show ¬ (21 : Int32) = 11 by decide), if_neg (show ¬ (21 : Int32) = 12 by decide), if_neg (show ¬ (21 : Int32) = 13 by decide), if_neg (show ¬ (21 : Int32) = 14 by decide), if_neg (show ¬ (21 : Int32) = 15 by decide), if_neg (show ¬ (21 : Int32) = 16 by decide), if_neg (show ¬ (21 : Int32) = 17 by decide), if_neg (show ¬ (21 : Int32) = 18 by decide), if_neg (show ¬ (21 : Int32) = 19 by decide), if_neg (show ¬ (21 : Int32) = 20 by decide), if_pos (show (21 : Int32) = 21 from rfl)]
  simp only [r1, r2, r3, r4, r5, s1, s2, s3, s4, s5, bd_some, b1_some, flg, rc8 X, rc45 X1, a1, a2, lgs, n6, if_true, eq_self]
theorem lw_due (I : INV h) (X : FX h) (e : hk h 2 = some (10, L)) (h6 : i + 6 ≤ L) (hL : L ≤ 3072) (eo : hi h 2 i &&& 31 = 22) (n : Nat) : ∃ h', f_L_law_L18 (n + 1) (some 2) (some 8) (some 45) (nI i) h = f_L_law_L18 n (some 2) (some 8) (some 45) (nI (i + 6)) h' ∧ INV h' ∧ KS h h' := by
  obtain ⟨v, h1, h2, a1, a2, J, k1, k2⟩ := ag_due (hi h 2 (i + 1)) (hi h 2 (i + 2)) (hi h 2 (i + 4)) (!decide (hi h 2 (i + 3) = 0)) h I
  simp only at a1 a2
  have X1 := k1.1
  obtain ⟨r1, r2, r3, r4, r5⟩ := rdS5 e hL h6
  obtain ⟨s1, s2, s3, s4, s5⟩ := rdS5 (h := h1) (k1.2.1.trans e) hL h6
  simp only [k1.2.2] at s1 s2 s3 s4 s5
  have n6 : nI i + 6 = nI (i + 6) := nI_add i 6
  refine ⟨h2, ?_, J, k2⟩
  rw [f_L_law_L18.eq_2, aln_eq e, bd_some, if_neg (not_end h6 hL), rdS e hL (by omega), bd_some, eo, if_neg (show ¬ ((22 : Int32).toInt < 0 ∨ 28 < (22 : Int32).toInt) by decide), if_neg (show ¬ (22 : Int32) = 0 by decide), if_neg (show ¬ (22 : Int32) = 1 by decide), if_neg (show ¬ (22 : Int32) = 2 by decide), if_neg (show ¬ (22 : Int32) = 3 by decide), if_neg (show ¬ (22 : Int32) = 4 by decide), if_neg (show ¬ (22 : Int32) = 5 by decide), if_neg (show ¬ (22 : Int32) = 6 by decide), if_neg (show ¬ (22 : Int32) = 7 by decide), if_neg (show ¬ (22 : Int32) = 8 by decide), if_neg (show ¬ (22 : Int32) = 9 by decide), if_neg (show ¬ (22 : Int32) = 10 by decide), if_neg (show ¬ (22 : Int32) = 11 by decide), if_neg (show ¬ (22 : Int32) = 12 by decide), if_neg (show ¬ (22 : Int32) = 13 by decide), if_neg (show ¬ (22 : Int32) = 14 by decide), if_neg (show ¬ (22 : Int32) = 15 by decide), if_neg (show ¬ (22 : Int32) = 16 by decide), if_neg (show ¬ (22 : Int32) = 17 by decide), if_neg (show ¬ (22 : Int32) = 18 by decide), if_neg (show ¬ (22 : Int32) = 19 by decide), if_neg (show ¬ (22 : Int32) = 20 by decide), if_neg (show ¬ (22 : Int32) = 21 by decide), if_pos (show (22 : Int32) = 22 from rfl)]
  simp only [r1, r2, r3, r4, r5, s1, s2, s3, s4, s5, bd_some, b1_some, flg, rc8 X, rc45 X1, a1, a2, lgs, n6, if_true, eq_self]
theorem lw_payout (I : INV h) (X : FX h) (e : hk h 2 = some (10, L)) (h6 : i + 6 ≤ L) (hL : L ≤ 3072) (eo : hi h 2 i &&& 31 = 23) (n : Nat) : ∃ h', f_L_law_L18 (n + 1) (some 2) (some 8) (some 45) (nI i) h = f_L_law_L18 n (some 2) (some 8) (some 45) (nI (i + 6)) h' ∧ INV h' ∧ KS h h' := by
  obtain ⟨v, h1, h2, a1, a2, J, k1, k2⟩ := ag_payout (hi h 2 (i + 1)) (hi h 2 (i + 2)) (hi h 2 (i + 4)) (!decide (hi h 2 (i + 3) = 0)) h I
  simp only at a1 a2
  have X1 := k1.1
  obtain ⟨r1, r2, r3, r4, r5⟩ := rdS5 e hL h6
  obtain ⟨s1, s2, s3, s4, s5⟩ := rdS5 (h := h1) (k1.2.1.trans e) hL h6
  simp only [k1.2.2] at s1 s2 s3 s4 s5
  have n6 : nI i + 6 = nI (i + 6) := nI_add i 6
  refine ⟨h2, ?_, J, k2⟩
  rw [f_L_law_L18.eq_2, aln_eq e, bd_some, if_neg (not_end h6 hL), rdS e hL (by omega), bd_some, eo, if_neg (show ¬ ((23 : Int32).toInt < 0 ∨ 28 < (23 : Int32).toInt) by decide), if_neg (show ¬ (23 : Int32) = 0 by decide), if_neg (show ¬ (23 : Int32) = 1 by decide), if_neg (show ¬ (23 : Int32) = 2 by decide), if_neg (show ¬ (23 : Int32) = 3 by decide), if_neg (show ¬ (23 : Int32) = 4 by decide), if_neg (show ¬ (23 : Int32) = 5 by decide), if_neg (show ¬ (23 : Int32) = 6 by decide), if_neg (show ¬ (23 : Int32) = 7 by decide), if_neg (show ¬ (23 : Int32) = 8 by decide), if_neg (show ¬ (23 : Int32) = 9 by decide), if_neg (show ¬ (23 : Int32) = 10 by decide), if_neg (show ¬ (23 : Int32) = 11 by decide), if_neg (show ¬ (23 : Int32) = 12 by decide), if_neg (show ¬ (23 : Int32) = 13 by decide), if_neg (show ¬ (23 : Int32) = 14 by decide), if_neg (show ¬ (23 : Int32) = 15 by decide), if_neg (show ¬ (23 : Int32) = 16 by decide), if_neg (show ¬ (23 : Int32) = 17 by decide), if_neg (show ¬ (23 : Int32) = 18 by decide), if_neg (show ¬ (23 : Int32) = 19 by decide), if_neg (show ¬ (23 : Int32) = 20 by decide), if_neg (show ¬ (23 : Int32) = 21 by decide), if_neg (show ¬ (23 : Int32) = 22 by decide), if_pos (show (23 : Int32) = 23 from rfl)]
  simp only [r1, r2, r3, r4, r5, s1, s2, s3, s4, s5, bd_some, b1_some, flg, rc8 X, rc45 X1, a1, a2, lgs, n6, if_true, eq_self]
theorem lw_quarrels (I : INV h) (X : FX h) (e : hk h 2 = some (10, L)) (h6 : i + 6 ≤ L) (hL : L ≤ 3072) (eo : hi h 2 i &&& 31 = 24) (n : Nat) : ∃ h', f_L_law_L18 (n + 1) (some 2) (some 8) (some 45) (nI i) h = f_L_law_L18 n (some 2) (some 8) (some 45) (nI (i + 6)) h' ∧ INV h' ∧ KS h h' := by
  obtain ⟨v, h1, h2, a1, a2, J, k1, k2⟩ := ag_quarrels (hi h 2 (i + 1)) (hi h 2 (i + 2)) (hi h 2 (i + 4)) (!decide (hi h 2 (i + 3) = 0)) h I
  simp only at a1 a2
  have X1 := k1.1
  obtain ⟨r1, r2, r3, r4, r5⟩ := rdS5 e hL h6
  obtain ⟨s1, s2, s3, s4, s5⟩ := rdS5 (h := h1) (k1.2.1.trans e) hL h6
  simp only [k1.2.2] at s1 s2 s3 s4 s5
  have n6 : nI i + 6 = nI (i + 6) := nI_add i 6
  refine ⟨h2, ?_, J, k2⟩
  rw [f_L_law_L18.eq_2, aln_eq e, bd_some, if_neg (not_end h6 hL), rdS e hL (by omega), bd_some, eo, if_neg (show ¬ ((24 : Int32).toInt < 0 ∨ 28 < (24 : Int32).toInt) by decide), if_neg (show ¬ (24 : Int32) = 0 by decide), if_neg (show ¬ (24 : Int32) = 1 by decide), if_neg (show ¬ (24 : Int32) = 2 by decide), if_neg (show ¬ (24 : Int32) = 3 by decide), if_neg (show ¬ (24 : Int32) = 4 by decide), if_neg (show ¬ (24 : Int32) = 5 by decide), if_neg (show ¬ (24 : Int32) = 6 by decide), if_neg (show ¬ (24 : Int32) = 7 by decide), if_neg (show ¬ (24 : Int32) = 8 by decide), if_neg (show ¬ (24 : Int32) = 9 by decide), if_neg (show ¬ (24 : Int32) = 10 by decide), if_neg (show ¬ (24 : Int32) = 11 by decide), if_neg (show ¬ (24 : Int32) = 12 by decide), if_neg (show ¬ (24 : Int32) = 13 by decide), if_neg (show ¬ (24 : Int32) = 14 by decide), if_neg (show ¬ (24 : Int32) = 15 by decide), if_neg (show ¬ (24 : Int32) = 16 by decide), if_neg (show ¬ (24 : Int32) = 17 by decide), if_neg (show ¬ (24 : Int32) = 18 by decide), if_neg (show ¬ (24 : Int32) = 19 by decide), if_neg (show ¬ (24 : Int32) = 20 by decide), if_neg (show ¬ (24 : Int32) = 21 by decide), if_neg (show ¬ (24 : Int32) = 22 by decide), if_neg (show ¬ (24 : Int32) = 23 by decide), if_pos (show (24 : Int32) = 24 from rfl)]
  simp only [r1, r2, r3, r4, r5, s1, s2, s3, s4, s5, bd_some, b1_some, flg, rc8 X, rc45 X1, a1, a2, lgs, n6, if_true, eq_self]
theorem lw_marks (I : INV h) (X : FX h) (e : hk h 2 = some (10, L)) (h6 : i + 6 ≤ L) (hL : L ≤ 3072) (eo : hi h 2 i &&& 31 = 25) (n : Nat) : ∃ h', f_L_law_L18 (n + 1) (some 2) (some 8) (some 45) (nI i) h = f_L_law_L18 n (some 2) (some 8) (some 45) (nI (i + 6)) h' ∧ INV h' ∧ KS h h' := by
  obtain ⟨v, h1, h2, a1, a2, J, k1, k2⟩ := ag_marks (hi h 2 (i + 1)) (hi h 2 (i + 2)) (hi h 2 (i + 4)) (!decide (hi h 2 (i + 3) = 0)) h I
  simp only at a1 a2
  have X1 := k1.1
  obtain ⟨r1, r2, r3, r4, r5⟩ := rdS5 e hL h6
  obtain ⟨s1, s2, s3, s4, s5⟩ := rdS5 (h := h1) (k1.2.1.trans e) hL h6
  simp only [k1.2.2] at s1 s2 s3 s4 s5
  have n6 : nI i + 6 = nI (i + 6) := nI_add i 6
  refine ⟨h2, ?_, J, k2⟩
  rw [f_L_law_L18.eq_2, aln_eq e, bd_some, if_neg (not_end h6 hL), rdS e hL (by omega), bd_some, eo, if_neg (show ¬ ((25 : Int32).toInt < 0 ∨ 28 < (25 : Int32).toInt) by decide), if_neg (show ¬ (25 : Int32) = 0 by decide), if_neg (show ¬ (25 : Int32) = 1 by decide), if_neg (show ¬ (25 : Int32) = 2 by decide), if_neg (show ¬ (25 : Int32) = 3 by decide), if_neg (show ¬ (25 : Int32) = 4 by decide), if_neg (show ¬ (25 : Int32) = 5 by decide), if_neg (show ¬ (25 : Int32) = 6 by decide), if_neg (show ¬ (25 : Int32) = 7 by decide), if_neg (show ¬ (25 : Int32) = 8 by decide), if_neg (show ¬ (25 : Int32) = 9 by decide), if_neg (show ¬ (25 : Int32) = 10 by decide), if_neg (show ¬ (25 : Int32) = 11 by decide), if_neg (show ¬ (25 : Int32) = 12 by decide), if_neg (show ¬ (25 : Int32) = 13 by decide), if_neg (show ¬ (25 : Int32) = 14 by decide), if_neg (show ¬ (25 : Int32) = 15 by decide), if_neg (show ¬ (25 : Int32) = 16 by decide), if_neg (show ¬ (25 : Int32) = 17 by decide), if_neg (show ¬ (25 : Int32) = 18 by decide), if_neg (show ¬ (25 : Int32) = 19 by decide), if_neg (show ¬ (25 : Int32) = 20 by decide), if_neg (show ¬ (25 : Int32) = 21 by decide), if_neg (show ¬ (25 : Int32) = 22 by decide), if_neg (show ¬ (25 : Int32) = 23 by decide), if_neg (show ¬ (25 : Int32) = 24 by decide), if_pos (show (25 : Int32) = 25 from rfl)]
  simp only [r1, r2, r3, r4, r5, s1, s2, s3, s4, s5, bd_some, b1_some, flg, rc8 X, rc45 X1, a1, a2, lgs, n6, if_true, eq_self]
theorem lw_tests (I : INV h) (X : FX h) (e : hk h 2 = some (10, L)) (h6 : i + 6 ≤ L) (hL : L ≤ 3072) (eo : hi h 2 i &&& 31 = 26) (n : Nat) : ∃ h', f_L_law_L18 (n + 1) (some 2) (some 8) (some 45) (nI i) h = f_L_law_L18 n (some 2) (some 8) (some 45) (nI (i + 6)) h' ∧ INV h' ∧ KS h h' := by
  obtain ⟨v, h1, h2, a1, a2, J, k1, k2⟩ := ag_tests (hi h 2 (i + 1)) (hi h 2 (i + 2)) (hi h 2 (i + 4)) (!decide (hi h 2 (i + 3) = 0)) h I
  simp only at a1 a2
  have X1 := k1.1
  obtain ⟨r1, r2, r3, r4, r5⟩ := rdS5 e hL h6
  obtain ⟨s1, s2, s3, s4, s5⟩ := rdS5 (h := h1) (k1.2.1.trans e) hL h6
  simp only [k1.2.2] at s1 s2 s3 s4 s5
  have n6 : nI i + 6 = nI (i + 6) := nI_add i 6
  refine ⟨h2, ?_, J, k2⟩
  rw [f_L_law_L18.eq_2, aln_eq e, bd_some, if_neg (not_end h6 hL), rdS e hL (by omega), bd_some, eo, if_neg (show ¬ ((26 : Int32).toInt < 0 ∨ 28 < (26 : Int32).toInt) by decide), if_neg (show ¬ (26 : Int32) = 0 by decide), if_neg (show ¬ (26 : Int32) = 1 by decide), if_neg (show ¬ (26 : Int32) = 2 by decide), if_neg (show ¬ (26 : Int32) = 3 by decide), if_neg (show ¬ (26 : Int32) = 4 by decide), if_neg (show ¬ (26 : Int32) = 5 by decide), if_neg (show ¬ (26 : Int32) = 6 by decide), if_neg (show ¬ (26 : Int32) = 7 by decide), if_neg (show ¬ (26 : Int32) = 8 by decide), if_neg (show ¬ (26 : Int32) = 9 by decide), if_neg (show ¬ (26 : Int32) = 10 by decide), if_neg (show ¬ (26 : Int32) = 11 by decide), if_neg (show ¬ (26 : Int32) = 12 by decide), if_neg (show ¬ (26 : Int32) = 13 by decide), if_neg (show ¬ (26 : Int32) = 14 by decide), if_neg (show ¬ (26 : Int32) = 15 by decide), if_neg (show ¬ (26 : Int32) = 16 by decide), if_neg (show ¬ (26 : Int32) = 17 by decide), if_neg (show ¬ (26 : Int32) = 18 by decide), if_neg (show ¬ (26 : Int32) = 19 by decide), if_neg (show ¬ (26 : Int32) = 20 by decide), if_neg (show ¬ (26 : Int32) = 21 by decide), if_neg (show ¬ (26 : Int32) = 22 by decide), if_neg (show ¬ (26 : Int32) = 23 by decide), if_neg (show ¬ (26 : Int32) = 24 by decide), if_neg (show ¬ (26 : Int32) = 25 by decide), if_pos (show (26 : Int32) = 26 from rfl)]
  simp only [r1, r2, r3, r4, r5, s1, s2, s3, s4, s5, bd_some, b1_some, flg, rc8 X, rc45 X1, a1, a2, lgs, n6, if_true, eq_self]
theorem lw_settles (I : INV h) (X : FX h) (e : hk h 2 = some (10, L)) (h6 : i + 6 ≤ L) (hL : L ≤ 3072) (eo : hi h 2 i &&& 31 = 27) (n : Nat) : ∃ h', f_L_law_L18 (n + 1) (some 2) (some 8) (some 45) (nI i) h = f_L_law_L18 n (some 2) (some 8) (some 45) (nI (i + 6)) h' ∧ INV h' ∧ KS h h' := by
  obtain ⟨v, h1, h2, a1, a2, J, k1, k2⟩ := ag_settles (hi h 2 (i + 1)) (hi h 2 (i + 2)) (hi h 2 (i + 4)) (!decide (hi h 2 (i + 3) = 0)) h I
  simp only at a1 a2
  have X1 := k1.1
  obtain ⟨r1, r2, r3, r4, r5⟩ := rdS5 e hL h6
  obtain ⟨s1, s2, s3, s4, s5⟩ := rdS5 (h := h1) (k1.2.1.trans e) hL h6
  simp only [k1.2.2] at s1 s2 s3 s4 s5
  have n6 : nI i + 6 = nI (i + 6) := nI_add i 6
  refine ⟨h2, ?_, J, k2⟩
  rw [f_L_law_L18.eq_2, aln_eq e, bd_some, if_neg (not_end h6 hL), rdS e hL (by omega), bd_some, eo, if_neg (show ¬ ((27 : Int32).toInt < 0 ∨ 28 < (27 : Int32).toInt) by decide), if_neg (show ¬ (27 : Int32) = 0 by decide), if_neg (show ¬ (27 : Int32) = 1 by decide), if_neg (show ¬ (27 : Int32) = 2 by decide), if_neg (show ¬ (27 : Int32) = 3 by decide), if_neg (show ¬ (27 : Int32) = 4 by decide), if_neg (show ¬ (27 : Int32) = 5 by decide), if_neg (show ¬ (27 : Int32) = 6 by decide), if_neg (show ¬ (27 : Int32) = 7 by decide), if_neg (show ¬ (27 : Int32) = 8 by decide), if_neg (show ¬ (27 : Int32) = 9 by decide), if_neg (show ¬ (27 : Int32) = 10 by decide), if_neg (show ¬ (27 : Int32) = 11 by decide), if_neg (show ¬ (27 : Int32) = 12 by decide), if_neg (show ¬ (27 : Int32) = 13 by decide), if_neg (show ¬ (27 : Int32) = 14 by decide), if_neg (show ¬ (27 : Int32) = 15 by decide), if_neg (show ¬ (27 : Int32) = 16 by decide), if_neg (show ¬ (27 : Int32) = 17 by decide), if_neg (show ¬ (27 : Int32) = 18 by decide), if_neg (show ¬ (27 : Int32) = 19 by decide), if_neg (show ¬ (27 : Int32) = 20 by decide), if_neg (show ¬ (27 : Int32) = 21 by decide), if_neg (show ¬ (27 : Int32) = 22 by decide), if_neg (show ¬ (27 : Int32) = 23 by decide), if_neg (show ¬ (27 : Int32) = 24 by decide), if_neg (show ¬ (27 : Int32) = 25 by decide), if_neg (show ¬ (27 : Int32) = 26 by decide), if_pos (show (27 : Int32) = 27 from rfl)]
  simp only [r1, r2, r3, r4, r5, s1, s2, s3, s4, s5, bd_some, b1_some, flg, rc8 X, rc45 X1, a1, a2, lgs, n6, if_true, eq_self]
theorem lw_about (I : INV h) (X : FX h) (e : hk h 2 = some (10, L)) (h6 : i + 6 ≤ L) (hL : L ≤ 3072) (eo : hi h 2 i &&& 31 = 28) (n : Nat) : ∃ h', f_L_law_L18 (n + 1) (some 2) (some 8) (some 45) (nI i) h = f_L_law_L18 n (some 2) (some 8) (some 45) (nI (i + 6)) h' ∧ INV h' ∧ KS h h' := by
  obtain ⟨v, h1, h2, a1, a2, J, k1, k2⟩ := ag_about (hi h 2 (i + 1)) h I
  simp only at a1 a2
  have X1 := k1.1
  obtain ⟨r1, r2, r3, r4, r5⟩ := rdS5 e hL h6
  obtain ⟨s1, s2, s3, s4, s5⟩ := rdS5 (h := h1) (k1.2.1.trans e) hL h6
  simp only [k1.2.2] at s1 s2 s3 s4 s5
  have n6 : nI i + 6 = nI (i + 6) := nI_add i 6
  refine ⟨h2, ?_, J, k2⟩
  rw [f_L_law_L18.eq_2, aln_eq e, bd_some, if_neg (not_end h6 hL), rdS e hL (by omega), bd_some, eo, if_neg (show ¬ ((28 : Int32).toInt < 0 ∨ 28 < (28 : Int32).toInt) by decide), if_neg (show ¬ (28 : Int32) = 0 by decide), if_neg (show ¬ (28 : Int32) = 1 by decide), if_neg (show ¬ (28 : Int32) = 2 by decide), if_neg (show ¬ (28 : Int32) = 3 by decide), if_neg (show ¬ (28 : Int32) = 4 by decide), if_neg (show ¬ (28 : Int32) = 5 by decide), if_neg (show ¬ (28 : Int32) = 6 by decide), if_neg (show ¬ (28 : Int32) = 7 by decide), if_neg (show ¬ (28 : Int32) = 8 by decide), if_neg (show ¬ (28 : Int32) = 9 by decide), if_neg (show ¬ (28 : Int32) = 10 by decide), if_neg (show ¬ (28 : Int32) = 11 by decide), if_neg (show ¬ (28 : Int32) = 12 by decide), if_neg (show ¬ (28 : Int32) = 13 by decide), if_neg (show ¬ (28 : Int32) = 14 by decide), if_neg (show ¬ (28 : Int32) = 15 by decide), if_neg (show ¬ (28 : Int32) = 16 by decide), if_neg (show ¬ (28 : Int32) = 17 by decide), if_neg (show ¬ (28 : Int32) = 18 by decide), if_neg (show ¬ (28 : Int32) = 19 by decide), if_neg (show ¬ (28 : Int32) = 20 by decide), if_neg (show ¬ (28 : Int32) = 21 by decide), if_neg (show ¬ (28 : Int32) = 22 by decide), if_neg (show ¬ (28 : Int32) = 23 by decide), if_neg (show ¬ (28 : Int32) = 24 by decide), if_neg (show ¬ (28 : Int32) = 25 by decide), if_neg (show ¬ (28 : Int32) = 26 by decide), if_neg (show ¬ (28 : Int32) = 27 by decide), if_pos (show (28 : Int32) = 28 from rfl)]
  simp only [r1, r2, r3, r4, r5, s1, s2, s3, s4, s5, bd_some, b1_some, flg, rc8 X, rc45 X1, a1, a2, lgs, n6, if_true, eq_self]
end Lw
