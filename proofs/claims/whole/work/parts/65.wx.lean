/-! A worker's cells and a fact's cell as rewriting rules; the posts from the banks. -/
def FK (h : Hp) (b : Nat) : Prop := hk h b = some (1, 0)
section Wg
variable {h : Hp} {a b : Nat}
theorem WX_si {c k : Nat} {v : Int32} : WX (si h c k v) a ↔ WX h a := Iff.rfl
theorem WX_sj {c k : Nat} {v : Int64} : WX (sj h c k v) a ↔ WX h a := Iff.rfl
theorem WX_sr {c : Nat} {f : Nat → Int32} : WX (sr h c f) a ↔ WX h a := Iff.rfl
theorem FK_si {c k : Nat} {v : Int32} : FK (si h c k v) b ↔ FK h b := Iff.rfl
theorem FK_sj {c k : Nat} {v : Int64} : FK (sj h c k v) b ↔ FK h b := Iff.rfl
theorem FK_sr {c : Nat} {f : Nat → Int32} : FK (sr h c f) b ↔ FK h b := Iff.rfl
theorem wq7 (W : WX h a) : getQ h (some a) 6 7 = some (some (a + 1)) := by rw [getQ_of 7 W.2.1, W.2.2.2.2.2.2.1]
theorem wq8 (W : WX h a) : getQ h (some a) 6 8 = some (some (a + 2)) := by rw [getQ_of 8 W.2.1, W.2.2.2.2.2.2.2.1]
theorem wq9 (W : WX h a) : getQ h (some a) 6 9 = some (some (a + 3)) := by rw [getQ_of 9 W.2.1, W.2.2.2.2.2.2.2.2.1]
theorem wq10 (W : WX h a) : getQ h (some a) 6 10 = some (some (a + 4)) := by rw [getQ_of 10 W.2.1, W.2.2.2.2.2.2.2.2.2]
theorem wrc (W : WX h a) : rc h (some a) 6 = some a := rc_eq W.2.1
theorem wgi (W : WX h a) (k : Nat) : getI h (some a) 6 k = some (hi h a k) := getI_of k W.2.1
theorem wpi (W : WX h a) (k : Nat) (v : Int32) : putI h (some a) 6 k v = some (si h a k v) := putI_of k v W.2.1
theorem wpz (W : WX h a) (k : Nat) {v : Int32} (hv : v = 0 ∨ v = 1) : putZ h (some a) 6 k v = some (si h a k v) := putZ_of k W.2.1 hv
theorem wn1 (W : WX h a) : aln h (some (a + 1)) 10 = some (nI 624) := aln_eq W.2.2.1
theorem wn2 (W : WX h a) : aln h (some (a + 2)) 10 = some (nI 104) := aln_eq W.2.2.2.1
theorem wn3 (W : WX h a) : aln h (some (a + 3)) 10 = some (nI 104) := aln_eq W.2.2.2.2.1
theorem wn4 (W : WX h a) : aln h (some (a + 4)) 10 = some (nI 104) := aln_eq W.2.2.2.2.2.1
theorem wr1 (W : WX h a) {i : Nat} (hi' : i < 624) : rdI h (some (a + 1)) 10 (nI i) = some (hi h (a + 1) i) := rdI_eq W.2.2.1 hi' (by decide)
theorem wr2 (W : WX h a) {i : Nat} (hi' : i < 104) : rdI h (some (a + 2)) 10 (nI i) = some (hi h (a + 2) i) := rdI_eq W.2.2.2.1 hi' (by decide)
theorem wr3 (W : WX h a) {i : Nat} (hi' : i < 104) : rdI h (some (a + 3)) 10 (nI i) = some (hi h (a + 3) i) := rdI_eq W.2.2.2.2.1 hi' (by decide)
theorem wr4 (W : WX h a) {i : Nat} (hi' : i < 104) : rdI h (some (a + 4)) 10 (nI i) = some (hi h (a + 4) i) := rdI_eq W.2.2.2.2.2.1 hi' (by decide)
theorem ww1 (W : WX h a) {i : Nat} (hi' : i < 624) (v : Int32) : wrI h (some (a + 1)) (nI i) v = some (si h (a + 1) i v) := wrI_eq v W.2.2.1 (by have := W.1; omega) hi' (by decide)
theorem ww2 (W : WX h a) {i : Nat} (hi' : i < 104) (v : Int32) : wrI h (some (a + 2)) (nI i) v = some (si h (a + 2) i v) := wrI_eq v W.2.2.2.1 (by have := W.1; omega) hi' (by decide)
theorem ww3 (W : WX h a) {i : Nat} (hi' : i < 104) (v : Int32) : wrI h (some (a + 3)) (nI i) v = some (si h (a + 3) i v) := wrI_eq v W.2.2.2.2.1 (by have := W.1; omega) hi' (by decide)
theorem ww4 (W : WX h a) {i : Nat} (hi' : i < 104) (v : Int32) : wrI h (some (a + 4)) (nI i) v = some (si h (a + 4) i v) := wrI_eq v W.2.2.2.2.2.1 (by have := W.1; omega) hi' (by decide)
theorem wat1 (W : WX h a) {i : Nat} (hi' : i < 624) : f_X8_at (some (a + 1)) (nI i) h = some (hi h (a + 1) i, h) := at_in W.2.2.1 hi' (by decide)
theorem wat2 (W : WX h a) {i : Nat} (hi' : i < 104) : f_X8_at (some (a + 2)) (nI i) h = some (hi h (a + 2) i, h) := at_in W.2.2.2.1 hi' (by decide)
theorem wat3 (W : WX h a) {i : Nat} (hi' : i < 104) : f_X8_at (some (a + 3)) (nI i) h = some (hi h (a + 3) i, h) := at_in W.2.2.2.2.1 hi' (by decide)
theorem wat4 (W : WX h a) {i : Nat} (hi' : i < 104) : f_X8_at (some (a + 4)) (nI i) h = some (hi h (a + 4) i, h) := at_in W.2.2.2.2.2.1 hi' (by decide)
theorem fgi (K : FK h b) (k : Nat) : getI h (some b) 1 k = some (hi h b k) := getI_of k K
theorem fgq (K : FK h b) (k : Nat) : getQ h (some b) 1 k = some (hq h b k) := getQ_of k K
theorem fpi (K : FK h b) (k : Nat) (v : Int32) : putI h (some b) 1 k v = some (si h b k v) := putI_of k v K
theorem frc (K : FK h b) : rc h (some b) 1 = some b := rc_eq K
theorem at18 (F : FX h) {i : Nat} (hi' : i < 10) : f_X8_at (some 18) (nI i) h = some (hi h 18 i, h) := at_in (F.kd (a := 18) (by decide) (by decide) rfl) hi' (by decide)
theorem at19 (F : FX h) {i : Nat} (hi' : i < 10) : f_X8_at (some 19) (nI i) h = some (hi h 19 i, h) := at_in (F.kd (a := 19) (by decide) (by decide) rfl) hi' (by decide)
theorem at21 (F : FX h) {i : Nat} (hi' : i < 105) : f_X8_at (some 21) (nI i) h = some (hi h 21 i, h) := at_in (F.kd (a := 21) (by decide) (by decide) rfl) hi' (by decide)
theorem at22 (F : FX h) {i : Nat} (hi' : i < 20) : f_X8_at (some 22) (nI i) h = some (hi h 22 i, h) := at_in (F.kd (a := 22) (by decide) (by decide) rfl) hi' (by decide)
theorem at23 (F : FX h) {i : Nat} (hi' : i < 20) : f_X8_at (some 23) (nI i) h = some (hi h 23 i, h) := at_in (F.kd (a := 23) (by decide) (by decide) rfl) hi' (by decide)
theorem at24 (F : FX h) {i : Nat} (hi' : i < 20) : f_X8_at (some 24) (nI i) h = some (hi h 24 i, h) := at_in (F.kd (a := 24) (by decide) (by decide) rfl) hi' (by decide)
theorem at25 (F : FX h) {i : Nat} (hi' : i < 20) : f_X8_at (some 25) (nI i) h = some (hi h 25 i, h) := at_in (F.kd (a := 25) (by decide) (by decide) rfl) hi' (by decide)
theorem at26 (F : FX h) {i : Nat} (hi' : i < 20) : f_X8_at (some 26) (nI i) h = some (hi h 26 i, h) := at_in (F.kd (a := 26) (by decide) (by decide) rfl) hi' (by decide)
end Wg
theorem ct'_s (p : Nat → Bool) (n : Nat) : ct' p (n + 1) = ct' p n + (if p n = true then 1 else 0) := rfl
theorem ct'_up (p : Nat → Bool) {a b : Nat} (h : a ≤ b) : ct' p a ≤ ct' p b := by
  induction b with
  | zero => rw [Nat.le_zero.mp h]; exact Nat.le_refl _
  | succ b ih =>
    rcases Nat.lt_or_ge b a with q | q
    · rw [show a = b + 1 by omega]; exact Nat.le_refl _
    · have := ih q
      rw [ct'_s]
      omega
theorem ct'_hit {p : Nat → Bool} {w v : Nat} (hp : p w = true) (h : w < v) : ct' p w + 1 ≤ ct' p v := by
  have := ct'_up p (show w + 1 ≤ v from h)
  rw [ct'_s, if_pos hp] at this
  exact this
/-- where the i-th stands -/
def psv (p : Nat → Bool) : Nat → Nat → Nat
  | 0, _ => 0
  | n + 1, i => if p n = true ∧ ct' p n = i then n else psv p n i
theorem psv_s (p : Nat → Bool) (n i : Nat) : psv p (n + 1) i = if p n = true ∧ ct' p n = i then n else psv p n i := rfl
theorem psv_at {p : Nat → Bool} {n w : Nat} (hp : p w = true) (hw : w < n) : psv p n (ct' p w) = w := by
  induction n with
  | zero => exact absurd hw (Nat.not_lt_zero _)
  | succ n ih =>
    rw [psv_s]
    by_cases e : w = n
    · subst e; rw [if_pos ⟨hp, rfl⟩]
    · have := ct'_hit hp (show w < n by omega)
      rw [if_neg (fun q => by have := q.2; omega)]
      exact ih (by omega)
theorem psv_ex {p : Nat → Bool} {n i : Nat} (h : i < ct' p n) : ∃ w, w < n ∧ p w = true ∧ ct' p w = i ∧ psv p n i = w := by
  induction n with
  | zero => exact absurd h (Nat.not_lt_zero _)
  | succ n ih =>
    rw [ct'_s] at h
    by_cases hp : p n = true
    · rw [if_pos hp] at h
      by_cases e : ct' p n = i
      · exact ⟨n, by omega, hp, e, by rw [psv_s, if_pos ⟨hp, e⟩]⟩
      · obtain ⟨w, a, b, c, d⟩ := ih (by omega)
        exact ⟨w, by omega, b, c, by rw [psv_s, if_neg (fun q => e q.2)]; exact d⟩
    · rw [if_neg hp] at h
      obtain ⟨w, a, b, c, d⟩ := ih (by omega)
      exact ⟨w, by omega, b, c, by rw [psv_s, if_neg (fun q => hp q.1)]; exact d⟩
theorem ct'_or {p q : Nat → Bool} (x : Nat) : ∀ n, (∀ v, v < n → q v = true → p v = true ∨ v = x) → ct' q n ≤ ct' p n + (if x < n then 1 else 0)
  | 0, _ => Nat.le_refl _
  | n + 1, h => by
    have ih := ct'_or x n (fun v hv => h v (by omega))
    rw [ct'_s, ct'_s]
    by_cases hq : q n = true
    · rcases h n (by omega) hq with z | z
      · rw [if_pos hq, if_pos z]
        split at ih <;> (repeat' split) <;> omega
      · subst z
        rw [if_neg (Nat.lt_irrefl n)] at ih
        rw [if_pos hq, if_pos (Nat.lt_succ_self n)]
        omega
    · rw [if_neg hq]
      split at ih <;> (repeat' split) <;> omega
theorem PSn_ct (F : Nat → Nat → Int32) (wk k : Int32) (n : Nat) : ct' (PSn F wk k n) 105 ≤ 2 * bkc F wk k n := by
  induction n with
  | zero =>
    have z : ∀ m, ct' (PSn F wk k 0) m = 0 := fun m => by
      induction m with
      | zero => rfl
      | succ m ih => rw [ct'_s, ih]; rfl
    rw [z]
    omega
  | succ n ih =>
    rw [bkc_s]
    by_cases c : cnts F 2 wk k n = true
    · rw [if_pos c]
      have h1 := ct'_or (p := PSn F wk k n) (q := fun v => PSn F wk k n v || decide (v = (F 2 n).toNatClampNeg)) (F 2 n).toNatClampNeg 105 (fun v hv hq => by simpa using hq)
      have h2 := ct'_or (p := fun v => PSn F wk k n v || decide (v = (F 2 n).toNatClampNeg)) (q := PSn F wk k (n + 1)) (F 3 n + 1).toNatClampNeg 105 (fun v hv hq => by
        rw [PSn.eq_2, c, Bool.true_and] at hq
        simp only [Bool.or_eq_true, decide_eq_true_eq] at hq ⊢
        rcases hq with (q | q) | q
        · exact Or.inl (Or.inr (by rw [q, nI_tn (by omega)]))
        · exact Or.inr (by rw [q, nI_tn (by omega)])
        · exact Or.inl (Or.inl q))
      split at h1 <;> split at h2 <;> omega
    · rw [if_neg c]
      have e : PSn F wk k (n + 1) = PSn F wk k n := funext fun v => by rw [PSn.eq_2, Bool.eq_false_iff.mpr c, Bool.false_and, Bool.false_or]
      rw [e]
      exact ih
theorem PSn_bk {F : Nat → Nat → Int32} {wk k : Int32} : ∀ {n f : Nat}, f ∈ BKn F wk k n → ∀ v, (F 2 f = nI v ∨ F 3 f + 1 = nI v) → PSn F wk k n v = true
  | 0, _, h, _, _ => absurd h List.not_mem_nil
  | n + 1, f, h, v, hv => by
    rw [PSn.eq_2]
    unfold BKn at h
    split at h
    · rename_i c
      rcases List.mem_append.mp h with q | q
      · rw [PSn_bk q v hv, Bool.or_true]
      · rw [List.mem_singleton] at q
        subst q
        rw [c]
        rcases hv with z | z <;> simp [z]
    · rw [PSn_bk h v hv, Bool.or_true]
def rmh (g : Hp) (i : Nat) : Int := (hi g 23 i).toInt
theorem psm_add (f : Nat → Int) (c : Prop) [Decidable c] (j : Nat) (x : Int) : ∀ n, psm (fun i => f i + (if c ∧ i = j then x else 0)) n = psm f n + (if c ∧ j < n then x else 0)
  | 0 => by show (0 : Int) = 0 + _; rw [if_neg (fun q => Nat.not_lt_zero _ q.2)]; rfl
  | n + 1 => by
    show psm _ n + (f n + (if c ∧ n = j then x else 0)) = psm f n + f n + (if c ∧ j < n + 1 then x else 0)
    rw [psm_add f c j x n]
    by_cases hc : c
    · by_cases e : n = j
      · subst e
        rw [if_neg (fun q => Nat.lt_irrefl _ q.2), if_pos ⟨hc, rfl⟩, if_pos ⟨hc, Nat.lt_succ_self _⟩]
        omega
      · by_cases z : j < n
        · rw [if_pos ⟨hc, z⟩, if_neg (fun q => e q.2), if_pos ⟨hc, by omega⟩]; omega
        · rw [if_neg (fun q => z q.2), if_neg (fun q => e q.2), if_neg (fun q => by have := q.2; omega)]; omega
    · rw [if_neg (fun q => hc q.1), if_neg (fun q => hc q.1), if_neg (fun q => hc q.1)]; omega
theorem c_total {g : Hp} {a u : Nat} {pd : Nat → Nat → Int32} (W : WX g a) (hu : u < 104) (hpd : ∀ i u, i < 6 → u < 104 → hi g (a + 1) (i * 104 + u) = pd i u) : f_X7_totalPaid a (nI u) g = some (0 + pd 0 u + pd 1 u + pd 2 u + pd 3 u + pd 4 u, g) := by
  unfold f_X7_totalPaid
  obtain ⟨N, hN⟩ := fu_ex 6 (by omega)
  rw [hN, show N + 6 = N + 1 + 1 + 1 + 1 + 1 + 1 from rfl]
  have st : ∀ (n i : Nat) (s : Int32), i < 5 → f_X7_totalPaid_L4 (n + 1) a (nI u) s (nI i) g = f_X7_totalPaid_L4 n a (nI u) (s + pd i u) (nI (i + 1)) g := by
    intro n i s hi5
    have ei : nI i * 104 + nI u = nI (i * 104 + u) := by rw [show (104 : Int32) = nI 104 from rfl, pk_mul, nI_add]
    rw [f_X7_totalPaid_L4.eq_2, if_neg (by rw [L5, nI_leI (by omega) (by omega)]; omega), ei, nI_1]
    have hx : i * 104 + u < 624 := by omega
    simp (disch := (first | assumption | (simp only [FX_si, FX_sj, FX_sr, WX_si, WX_sj, WX_sr, FK_si, FK_sj, FK_sr]; assumption) | omega | decide)) only [↓reduceIte, if_true, if_false, i10, i01, eq_self, wq7, wq8, wq9, wq10, wrc, wgi, wpi, wpz, wn1, wn2, wn3, wn4, wr1, wr2, wr3, wr4, ww1, ww2, ww3, ww4, fgi, fgq, fpi, frc, at18, at19, at21, at22, at23, at24, at25, at26, at_neg, wat1, wat2, wat3, wat4, reduceCtorEq, bd_some, b1_some, b2_some, b3_some, b4_some, c1_eq, elim_inl, elim_inr, zok0, zok1, getQ_si, getQ_sj, getQ_sr, q8_0, q8_1, q8_2, q8_4, q8_7, q8_8, q8_9, q8_10, q8_11, q9_0, q9_3, q9_4, q9_8, q17_0, q17_1, q17_2, q17_4, q17_5, q17_6, q17_9, q17_10, q17_11, q27_4, q27_5, q27_6, q27_7, q27_8, q27_11, q45_0, q45_1, q45_11, q45_12, q45_13, q45_14, q45_15, q45_16, q45_17, q45_18, q45_19, q45_20, q45_21, q45_22, q45_23, q45_24, q45_30, q45_31, q45_32, q45_33, q45_34, q45_35, q45_36, q45_37, q45_38, q45_39, q45_43, q45_44, q45_45, q45_46, q45_47, q45_48, q45_52, q45_53, q45_54, q45_59, q45_60, q45_61, q45_62, q45_65, q45_67, q45_68, gi8, gj8, pi8, pz8, pj8, rc8, gi9, gj9, pi9, pz9, pj9, rc9, gi17, gj17, pi17, pz17, pj17, rc17, gi27, gj27, pi27, pz27, pj27, rc27, gi45, gj45, pi45, pz45, pj45, rc45, aln_si, aln_sj, aln_sq, rc_si, rc_sj, rc_sq, n0, n1, n10, n11, n12, n13, n14, n15, n16, n18, n19, n20, n21, n22, n23, n24, n25, n26, n29, n30, n31, n32, n33, n34, n35, n36, n37, n38, n39, n40, n42, n43, n44, n46, n47, n48, n49, n50, n51, n52, n53, n54, n55, n56, n57, n58, n59, n60, n61, n62, n63, n64, n65, n66, n67, n68, n69, n70, n71, n72, n73, n74, n75, n76, n77, n78, n79, n80, n81, n82, n83, n84, n85, n86, n87, r0, r1, r10, r11, r12, r13, r14, r15, r16, r18, r19, r20, r21, r22, r23, r24, r25, r26, r29, r30, r31, r32, r33, r34, r35, r36, r37, r38, r39, r40, r42, r43, r44, r46, r47, r48, r49, r50, r51, r52, r53, r54, r55, r56, r57, r58, r59, r60, r61, r62, r63, r64, r65, r66, r67, r68, r69, r70, r71, r72, r73, r74, r75, r76, r77, r78, r79, r80, r81, r82, r83, r84, r85, r86, r87, w10, w11, w12, w13, w18, w19, w20, w21, w22, w23, w24, w25, w26, w30, w31, w32, w33, w34, w35, w36, w38, w39, w40, w43, w44, w46, w47, w48, w49, w50, w51, w52, w53, w54, w55, w56, w57, w58, w59, w60, w61, w62, w63, w64, w65, w66, w67, w68, w69, w70, w71, w72, w73, w74, w75, w76, w77, w78, w79, w80, w81, w82, w83, w84, w85, w86, w87, hi_hit, hi_row, hi_col, hj_hit, hj_row, hj_col, hi_sj, hj_si, hq_si, hq_sj, hi_sq, hj_sq, hi_srh, hi_srm]
    rw [hpd i u (by omega) hu]
  have st0 := st (N + 1 + 1 + 1 + 1 + 1) 0 0 (by omega)
  rw [nI_0] at st0
  rw [st0, st _ 1 _ (by omega), st _ 2 _ (by omega), st _ 3 _ (by omega), st _ 4 _ (by omega), f_X7_totalPaid_L4.eq_2, if_pos (by decide), b1_some]
def sp1 (x16 v2 v3 : Int32) (h : Hp) : Option Hp :=
  if x16 = ((-1) : Int32) then
    some h
  else
    (getI h (some 17) 5 8).bind fun x41 =>
    if x41 < (0 : Int32) then
      some h
    else
      (getI h (some 17) 5 8).bind fun x44 =>
      if (20 : Int32) ≤ x44 then
        some h
      else
        (getQ h (some 17) 5 5).bind fun x47 =>
        (getI h (some 17) 5 8).bind fun x49 =>
        (wrI h x47 x49 v2).bind fun h51 =>
        (getQ h51 (some 17) 5 4).bind fun x53 =>
        (getI h51 (some 17) 5 8).bind fun x55 =>
        (wrI h51 x53 v3 x55).bind fun h57 =>
        (getI h57 (some 17) 5 8).bind fun x59 =>
        (putI h57 (some 17) 5 8 (x59 + (1 : Int32))).bind fun h61 =>
        some h61
def sp2 (x65 v3 : Int32) (q1 : Option Nat) (h63 : Hp) : Option Hp :=
  if x65 ≤ (0 : Int32) then
    some h63
  else
    (getI h63 (some 17) 5 8).bind fun x89 =>
    if (20 : Int32) < x89 then
      some h63
    else
      (getQ h63 q1 6 8).bind fun x92 =>
      b1 (f_X8_at x92 v3 h63) fun x96 h94 =>
      if x96 = (0 : Int32) then
        some h94
      else
        (getQ h94 (some 17) 5 6).bind fun x98 =>
        (getI h94 (some 17) 5 8).bind fun x100 =>
        (rdI h94 x98 10 (x100 - (1 : Int32))).bind fun x102 =>
        (wrI h94 x98 (x100 - (1 : Int32)) (x102 + (9999 : Int32))).bind fun h104 =>
        (getI h104 (some 17) 5 7).bind fun x106 =>
        (putI h104 (some 17) 5 7 (x106 + (9999 : Int32))).bind fun h108 =>
        some h108
def sp3 (v3 : Int32) (q1 : Option Nat) (h110 : Hp) : Option (Int32 × Hp) :=
  if (104 : Int32) ≤ v3 then
    some (0, h110)
  else
    (rc h110 q1 6).bind fun g120 =>
    b1 (f_X7_totalPaid g120 v3 h110) fun x122 h118 =>
    some (x122, h118)
theorem L22_eq (n : Nat) (q1 : Option Nat) (v2 v3 : Int32) (h : Hp) : f_X6_setPosts_L22 (n + 1) 17 q1 v2 v3 h =
    (getQ h (some 17) 5 4).bind fun x9 => (aln h x9 10).bind fun x11 => if x11 ≤ v3 then some h else
      (getQ h (some 17) 5 4).bind fun x14 => (rdI h x14 10 v3).bind fun x16 => Option.bind (sp1 x16 v2 v3 h) fun h63 =>
      (getI h63 (some 17) 5 8).bind fun x65 => Option.bind (sp2 x65 v3 q1 h63) fun h110 =>
      b1 (sp3 v3 q1 h110) fun w123 h124 => f_X6_setPosts_L22 n 17 q1 (v2 + w123) (v3 + 1) h124 := rfl
theorem c_sp1 {g : Hp} (X : FX g) {v p : Nat} (hv : v < 105) (b : Bool) (hp : b = true → p < 20) (e8 : hi g 17 8 = nI p) (x : Int32) : sp1 (if b = true then 0 else -1) x (nI v) g = some (if b = true then si (si (si g 22 p x) 21 v (nI p)) 17 8 (nI (p + 1)) else g) := by
  unfold sp1
  cases b with
  | false => rfl
  | true =>
    have hp' := hp rfl
    have n0 : ¬ ((0 : Int32) = -1) := by decide
    have n1 : ¬ nI p < 0 := nI_pos (by omega)
    have n2 : ¬ (20 : Int32) ≤ nI p := by rw [L20, nI_leI (by omega) (by omega)]; omega
    simp (disch := (first | assumption | (simp only [FX_si, FX_sj, FX_sr, WX_si, WX_sj, WX_sr, FK_si, FK_sj, FK_sr]; assumption) | omega | decide)) only [n0, e8, n1, n2, nI_1, ↓reduceIte, if_true, if_false, i10, i01, eq_self, wq7, wq8, wq9, wq10, wrc, wgi, wpi, wpz, wn1, wn2, wn3, wn4, wr1, wr2, wr3, wr4, ww1, ww2, ww3, ww4, fgi, fgq, fpi, frc, at18, at19, at21, at22, at23, at24, at25, at26, at_neg, wat1, wat2, wat3, wat4, reduceCtorEq, bd_some, b1_some, b2_some, b3_some, b4_some, c1_eq, elim_inl, elim_inr, zok0, zok1, getQ_si, getQ_sj, getQ_sr, q8_0, q8_1, q8_2, q8_4, q8_7, q8_8, q8_9, q8_10, q8_11, q9_0, q9_3, q9_4, q9_8, q17_0, q17_1, q17_2, q17_4, q17_5, q17_6, q17_9, q17_10, q17_11, q27_4, q27_5, q27_6, q27_7, q27_8, q27_11, q45_0, q45_1, q45_11, q45_12, q45_13, q45_14, q45_15, q45_16, q45_17, q45_18, q45_19, q45_20, q45_21, q45_22, q45_23, q45_24, q45_30, q45_31, q45_32, q45_33, q45_34, q45_35, q45_36, q45_37, q45_38, q45_39, q45_43, q45_44, q45_45, q45_46, q45_47, q45_48, q45_52, q45_53, q45_54, q45_59, q45_60, q45_61, q45_62, q45_65, q45_67, q45_68, gi8, gj8, pi8, pz8, pj8, rc8, gi9, gj9, pi9, pz9, pj9, rc9, gi17, gj17, pi17, pz17, pj17, rc17, gi27, gj27, pi27, pz27, pj27, rc27, gi45, gj45, pi45, pz45, pj45, rc45, aln_si, aln_sj, aln_sq, rc_si, rc_sj, rc_sq, n0, n1, n10, n11, n12, n13, n14, n15, n16, n18, n19, n20, n21, n22, n23, n24, n25, n26, n29, n30, n31, n32, n33, n34, n35, n36, n37, n38, n39, n40, n42, n43, n44, n46, n47, n48, n49, n50, n51, n52, n53, n54, n55, n56, n57, n58, n59, n60, n61, n62, n63, n64, n65, n66, n67, n68, n69, n70, n71, n72, n73, n74, n75, n76, n77, n78, n79, n80, n81, n82, n83, n84, n85, n86, n87, r0, r1, r10, r11, r12, r13, r14, r15, r16, r18, r19, r20, r21, r22, r23, r24, r25, r26, r29, r30, r31, r32, r33, r34, r35, r36, r37, r38, r39, r40, r42, r43, r44, r46, r47, r48, r49, r50, r51, r52, r53, r54, r55, r56, r57, r58, r59, r60, r61, r62, r63, r64, r65, r66, r67, r68, r69, r70, r71, r72, r73, r74, r75, r76, r77, r78, r79, r80, r81, r82, r83, r84, r85, r86, r87, w10, w11, w12, w13, w18, w19, w20, w21, w22, w23, w24, w25, w26, w30, w31, w32, w33, w34, w35, w36, w38, w39, w40, w43, w44, w46, w47, w48, w49, w50, w51, w52, w53, w54, w55, w56, w57, w58, w59, w60, w61, w62, w63, w64, w65, w66, w67, w68, w69, w70, w71, w72, w73, w74, w75, w76, w77, w78, w79, w80, w81, w82, w83, w84, w85, w86, w87, hi_hit, hi_row, hi_col, hj_hit, hj_row, hj_col, hi_sj, hj_si, hq_si, hq_sj, hi_sq, hj_sq, hi_srh, hi_srm]
theorem c_sp2 {g : Hp} {a v n : Nat} (X : FX g) (W : WX g a) (hn : n ≤ 20) (e8 : hi g 17 8 = nI n) (b : Bool) (ea : f_X8_at (some (a + 2)) (nI v) g = some (if b = true then 1 else 0, g)) :
    sp2 (nI n) (nI v) (some a) g = some (if b = true ∧ 0 < n then si (si g 23 (n - 1) (hi g 23 (n - 1) + 9999)) 17 7 (hi g 17 7 + 9999) else g) := by
  unfold sp2
  rcases Nat.eq_zero_or_pos n with e | e
  · subst e
    rw [if_pos (by decide), if_neg (fun q => Nat.lt_irrefl _ q.2)]
  · obtain ⟨m, rfl⟩ : ∃ m, n = m + 1 := ⟨n - 1, by omega⟩
    have n1 : ¬ nI (m + 1) ≤ 0 := nI_nle (by omega) (by omega)
    have n2 : ¬ (20 : Int32) < nI (m + 1) := by rw [L20, nI_ltI (by omega) (by omega)]; omega
    have hm : m < 20 := by omega
    cases b with
    | false =>
      simp (disch := (first | assumption | (simp only [FX_si, FX_sj, FX_sr, WX_si, WX_sj, WX_sr, FK_si, FK_sj, FK_sr]; assumption) | omega | decide)) only [e8, n1, n2, ea, Bool.false_eq_true, false_and, ↓reduceIte, if_true, if_false, i10, i01, eq_self, wq7, wq8, wq9, wq10, wrc, wgi, wpi, wpz, wn1, wn2, wn3, wn4, wr1, wr2, wr3, wr4, ww1, ww2, ww3, ww4, fgi, fgq, fpi, frc, at18, at19, at21, at22, at23, at24, at25, at26, at_neg, wat1, wat2, wat3, wat4, reduceCtorEq, bd_some, b1_some, b2_some, b3_some, b4_some, c1_eq, elim_inl, elim_inr, zok0, zok1, getQ_si, getQ_sj, getQ_sr, q8_0, q8_1, q8_2, q8_4, q8_7, q8_8, q8_9, q8_10, q8_11, q9_0, q9_3, q9_4, q9_8, q17_0, q17_1, q17_2, q17_4, q17_5, q17_6, q17_9, q17_10, q17_11, q27_4, q27_5, q27_6, q27_7, q27_8, q27_11, q45_0, q45_1, q45_11, q45_12, q45_13, q45_14, q45_15, q45_16, q45_17, q45_18, q45_19, q45_20, q45_21, q45_22, q45_23, q45_24, q45_30, q45_31, q45_32, q45_33, q45_34, q45_35, q45_36, q45_37, q45_38, q45_39, q45_43, q45_44, q45_45, q45_46, q45_47, q45_48, q45_52, q45_53, q45_54, q45_59, q45_60, q45_61, q45_62, q45_65, q45_67, q45_68, gi8, gj8, pi8, pz8, pj8, rc8, gi9, gj9, pi9, pz9, pj9, rc9, gi17, gj17, pi17, pz17, pj17, rc17, gi27, gj27, pi27, pz27, pj27, rc27, gi45, gj45, pi45, pz45, pj45, rc45, aln_si, aln_sj, aln_sq, rc_si, rc_sj, rc_sq, n0, n1, n10, n11, n12, n13, n14, n15, n16, n18, n19, n20, n21, n22, n23, n24, n25, n26, n29, n30, n31, n32, n33, n34, n35, n36, n37, n38, n39, n40, n42, n43, n44, n46, n47, n48, n49, n50, n51, n52, n53, n54, n55, n56, n57, n58, n59, n60, n61, n62, n63, n64, n65, n66, n67, n68, n69, n70, n71, n72, n73, n74, n75, n76, n77, n78, n79, n80, n81, n82, n83, n84, n85, n86, n87, r0, r1, r10, r11, r12, r13, r14, r15, r16, r18, r19, r20, r21, r22, r23, r24, r25, r26, r29, r30, r31, r32, r33, r34, r35, r36, r37, r38, r39, r40, r42, r43, r44, r46, r47, r48, r49, r50, r51, r52, r53, r54, r55, r56, r57, r58, r59, r60, r61, r62, r63, r64, r65, r66, r67, r68, r69, r70, r71, r72, r73, r74, r75, r76, r77, r78, r79, r80, r81, r82, r83, r84, r85, r86, r87, w10, w11, w12, w13, w18, w19, w20, w21, w22, w23, w24, w25, w26, w30, w31, w32, w33, w34, w35, w36, w38, w39, w40, w43, w44, w46, w47, w48, w49, w50, w51, w52, w53, w54, w55, w56, w57, w58, w59, w60, w61, w62, w63, w64, w65, w66, w67, w68, w69, w70, w71, w72, w73, w74, w75, w76, w77, w78, w79, w80, w81, w82, w83, w84, w85, w86, w87, hi_hit, hi_row, hi_col, hj_hit, hj_row, hj_col, hi_sj, hj_si, hq_si, hq_sj, hi_sq, hj_sq, hi_srh, hi_srm]
    | true =>
      have e' : 0 < m + 1 := e
      simp (disch := (first | assumption | (simp only [FX_si, FX_sj, FX_sr, WX_si, WX_sj, WX_sr, FK_si, FK_sj, FK_sr]; assumption) | omega | decide)) only [e8, n1, n2, ea, nI_pred, true_and, e', Nat.add_sub_cancel, ↓reduceIte, if_true, if_false, i10, i01, eq_self, wq7, wq8, wq9, wq10, wrc, wgi, wpi, wpz, wn1, wn2, wn3, wn4, wr1, wr2, wr3, wr4, ww1, ww2, ww3, ww4, fgi, fgq, fpi, frc, at18, at19, at21, at22, at23, at24, at25, at26, at_neg, wat1, wat2, wat3, wat4, reduceCtorEq, bd_some, b1_some, b2_some, b3_some, b4_some, c1_eq, elim_inl, elim_inr, zok0, zok1, getQ_si, getQ_sj, getQ_sr, q8_0, q8_1, q8_2, q8_4, q8_7, q8_8, q8_9, q8_10, q8_11, q9_0, q9_3, q9_4, q9_8, q17_0, q17_1, q17_2, q17_4, q17_5, q17_6, q17_9, q17_10, q17_11, q27_4, q27_5, q27_6, q27_7, q27_8, q27_11, q45_0, q45_1, q45_11, q45_12, q45_13, q45_14, q45_15, q45_16, q45_17, q45_18, q45_19, q45_20, q45_21, q45_22, q45_23, q45_24, q45_30, q45_31, q45_32, q45_33, q45_34, q45_35, q45_36, q45_37, q45_38, q45_39, q45_43, q45_44, q45_45, q45_46, q45_47, q45_48, q45_52, q45_53, q45_54, q45_59, q45_60, q45_61, q45_62, q45_65, q45_67, q45_68, gi8, gj8, pi8, pz8, pj8, rc8, gi9, gj9, pi9, pz9, pj9, rc9, gi17, gj17, pi17, pz17, pj17, rc17, gi27, gj27, pi27, pz27, pj27, rc27, gi45, gj45, pi45, pz45, pj45, rc45, aln_si, aln_sj, aln_sq, rc_si, rc_sj, rc_sq, n0, n1, n10, n11, n12, n13, n14, n15, n16, n18, n19, n20, n21, n22, n23, n24, n25, n26, n29, n30, n31, n32, n33, n34, n35, n36, n37, n38, n39, n40, n42, n43, n44, n46, n47, n48, n49, n50, n51, n52, n53, n54, n55, n56, n57, n58, n59, n60, n61, n62, n63, n64, n65, n66, n67, n68, n69, n70, n71, n72, n73, n74, n75, n76, n77, n78, n79, n80, n81, n82, n83, n84, n85, n86, n87, r0, r1, r10, r11, r12, r13, r14, r15, r16, r18, r19, r20, r21, r22, r23, r24, r25, r26, r29, r30, r31, r32, r33, r34, r35, r36, r37, r38, r39, r40, r42, r43, r44, r46, r47, r48, r49, r50, r51, r52, r53, r54, r55, r56, r57, r58, r59, r60, r61, r62, r63, r64, r65, r66, r67, r68, r69, r70, r71, r72, r73, r74, r75, r76, r77, r78, r79, r80, r81, r82, r83, r84, r85, r86, r87, w10, w11, w12, w13, w18, w19, w20, w21, w22, w23, w24, w25, w26, w30, w31, w32, w33, w34, w35, w36, w38, w39, w40, w43, w44, w46, w47, w48, w49, w50, w51, w52, w53, w54, w55, w56, w57, w58, w59, w60, w61, w62, w63, w64, w65, w66, w67, w68, w69, w70, w71, w72, w73, w74, w75, w76, w77, w78, w79, w80, w81, w82, w83, w84, w85, w86, w87, hi_hit, hi_row, hi_col, hj_hit, hj_row, hj_col, hi_sj, hj_si, hq_si, hq_sj, hi_sq, hj_sq, hi_srh, hi_srm]
theorem c_sp3 {g : Hp} {a v : Nat} {pd : Nat → Nat → Int32} {T : Nat → Int} (W : WX g a) (hv : v < 105) (hpd : ∀ i u, i < 6 → u < 104 → hi g (a + 1) (i * 104 + u) = pd i u)
    (hT : ∀ u, u < 104 → (pd 0 u + pd 1 u + pd 2 u + pd 3 u + pd 4 u).toInt = T u) : ∃ t, sp3 (nI v) (some a) g = some (t, g) ∧ t.toInt = if v < 104 then T v else 0 := by
  unfold sp3
  by_cases c : v < 104
  · refine ⟨0 + pd 0 v + pd 1 v + pd 2 v + pd 3 v + pd 4 v, ?_, by rw [if_pos c, ← hT v c, Int32.zero_add]⟩
    have n1 : ¬ (104 : Int32) ≤ nI v := by rw [L104, nI_leI (by omega) (by omega)]; omega
    have et := c_total W c hpd
    simp (disch := (first | assumption | (simp only [FX_si, FX_sj, FX_sr, WX_si, WX_sj, WX_sr, FK_si, FK_sj, FK_sr]; assumption) | omega | decide)) only [n1, et, ↓reduceIte, if_true, if_false, i10, i01, eq_self, wq7, wq8, wq9, wq10, wrc, wgi, wpi, wpz, wn1, wn2, wn3, wn4, wr1, wr2, wr3, wr4, ww1, ww2, ww3, ww4, fgi, fgq, fpi, frc, at18, at19, at21, at22, at23, at24, at25, at26, at_neg, wat1, wat2, wat3, wat4, reduceCtorEq, bd_some, b1_some, b2_some, b3_some, b4_some, c1_eq, elim_inl, elim_inr, zok0, zok1, getQ_si, getQ_sj, getQ_sr, q8_0, q8_1, q8_2, q8_4, q8_7, q8_8, q8_9, q8_10, q8_11, q9_0, q9_3, q9_4, q9_8, q17_0, q17_1, q17_2, q17_4, q17_5, q17_6, q17_9, q17_10, q17_11, q27_4, q27_5, q27_6, q27_7, q27_8, q27_11, q45_0, q45_1, q45_11, q45_12, q45_13, q45_14, q45_15, q45_16, q45_17, q45_18, q45_19, q45_20, q45_21, q45_22, q45_23, q45_24, q45_30, q45_31, q45_32, q45_33, q45_34, q45_35, q45_36, q45_37, q45_38, q45_39, q45_43, q45_44, q45_45, q45_46, q45_47, q45_48, q45_52, q45_53, q45_54, q45_59, q45_60, q45_61, q45_62, q45_65, q45_67, q45_68, gi8, gj8, pi8, pz8, pj8, rc8, gi9, gj9, pi9, pz9, pj9, rc9, gi17, gj17, pi17, pz17, pj17, rc17, gi27, gj27, pi27, pz27, pj27, rc27, gi45, gj45, pi45, pz45, pj45, rc45, aln_si, aln_sj, aln_sq, rc_si, rc_sj, rc_sq, n0, n1, n10, n11, n12, n13, n14, n15, n16, n18, n19, n20, n21, n22, n23, n24, n25, n26, n29, n30, n31, n32, n33, n34, n35, n36, n37, n38, n39, n40, n42, n43, n44, n46, n47, n48, n49, n50, n51, n52, n53, n54, n55, n56, n57, n58, n59, n60, n61, n62, n63, n64, n65, n66, n67, n68, n69, n70, n71, n72, n73, n74, n75, n76, n77, n78, n79, n80, n81, n82, n83, n84, n85, n86, n87, r0, r1, r10, r11, r12, r13, r14, r15, r16, r18, r19, r20, r21, r22, r23, r24, r25, r26, r29, r30, r31, r32, r33, r34, r35, r36, r37, r38, r39, r40, r42, r43, r44, r46, r47, r48, r49, r50, r51, r52, r53, r54, r55, r56, r57, r58, r59, r60, r61, r62, r63, r64, r65, r66, r67, r68, r69, r70, r71, r72, r73, r74, r75, r76, r77, r78, r79, r80, r81, r82, r83, r84, r85, r86, r87, w10, w11, w12, w13, w18, w19, w20, w21, w22, w23, w24, w25, w26, w30, w31, w32, w33, w34, w35, w36, w38, w39, w40, w43, w44, w46, w47, w48, w49, w50, w51, w52, w53, w54, w55, w56, w57, w58, w59, w60, w61, w62, w63, w64, w65, w66, w67, w68, w69, w70, w71, w72, w73, w74, w75, w76, w77, w78, w79, w80, w81, w82, w83, w84, w85, w86, w87, hi_hit, hi_row, hi_col, hj_hit, hj_row, hj_col, hi_sj, hj_si, hq_si, hq_sj, hi_sq, hj_sq, hi_srh, hi_srm]
  · refine ⟨0, ?_, by rw [if_neg c]; rfl⟩
    rw [if_pos (by rw [L104, nI_leI (by omega) (by omega)]; omega)]
