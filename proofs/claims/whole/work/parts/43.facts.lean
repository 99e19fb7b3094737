/-! Loops by a measure; frames; the facts as the model holds them, and which of them count. -/
theorem whl {σ ρ : Type} (f : Nat → σ → Option ρ) (μ : σ → Nat) (I : σ → Prop) (Q : ρ → Prop)
    (step : ∀ n s, I s → (∃ r, f (n + 1) s = some r ∧ Q r) ∨ ∃ s', f (n + 1) s = f n s' ∧ I s' ∧ μ s' < μ s) :
    ∀ (n : Nat) (s : σ), I s → μ s < n → ∃ r, f n s = some r ∧ Q r := by
  intro n
  induction n with
  | zero => intro s _ hn; exact absurd hn (Nat.not_lt_zero _)
  | succ n ih =>
    intro s hs hn
    rcases step n s hs with h | ⟨s', h1, h2, h3⟩
    · exact h
    · rw [h1]
      exact ih s' h2 (by omega)
theorem fu_ex (m : Nat) (h : m ≤ 1000000) : ∃ n, fu = n + m := ⟨fu - m, by unfold fu; omega⟩
theorem fu_gt {m : Nat} (h : m ≤ 1000000) : m < fu := by unfold fu; omega
theorem i10 : ((1 : Int32) = 0) = False := by decide
theorem i01 : ((0 : Int32) = 1) = False := by decide
/-- a loop that counts up to N -/
theorem forN {σ ρ : Type} (f : Nat → Int32 → σ → Option ρ) (N : Nat) (hN : N ≤ 1000000) (I : Nat → σ → Prop) (Q : ρ → Prop)
    (stop : ∀ n s, I N s → ∃ r, f (n + 1) (nI N) s = some r ∧ Q r)
    (step : ∀ n i s, i < N → I i s → (∃ r, f (n + 1) (nI i) s = some r ∧ Q r) ∨ ∃ s', f (n + 1) (nI i) s = f n (nI (i + 1)) s' ∧ I (i + 1) s')
    {i0 : Nat} {s : σ} (hi0 : i0 ≤ N) (h0 : I i0 s) : ∃ r, f fu (nI i0) s = some r ∧ Q r := by
  refine whl (fun n (p : Nat × σ) => f n (nI p.1) p.2) (fun p => N - p.1) (fun p => p.1 ≤ N ∧ I p.1 p.2) Q ?_ fu (i0, s) ⟨hi0, h0⟩ (fu_gt (by show N - i0 ≤ _; omega))
  rintro n ⟨i, s⟩ ⟨h1, h2⟩
  rcases Nat.lt_or_ge i N with h3 | h3
  · rcases step n i s h3 h2 with h | ⟨s', h4, h5⟩
    · exact Or.inl h
    · exact Or.inr ⟨(i + 1, s'), h4, ⟨h3, h5⟩, by show N - (i + 1) < N - i; omega⟩
  · obtain rfl : i = N := Nat.le_antisymm h1 h3
    exact Or.inl (stop n s h2)
/-- the model's steps: rows A and the object's fields B may change -/
def FrM (A B : List Nat) (h h' : Hp) : Prop := h'.1 = h.1 ∧ (∀ a k, hq h' a k = hq h a k) ∧ (∀ a k, a ∉ A → a ≠ 45 → hi h' a k = hi h a k) ∧ (∀ k, k ∉ B → hi h' 45 k = hi h 45 k) ∧ (∀ a k, a ∉ A → a ≠ 45 → hj h' a k = hj h a k) ∧ ∀ k, k ∉ B → hj h' 45 k = hj h 45 k
section Fr
variable {A B : List Nat} {h h' h'' : Hp}
theorem FrM.rfl : FrM A B h h := ⟨Eq.refl _, fun _ _ => Eq.refl _, fun _ _ _ _ => Eq.refl _, fun _ _ => Eq.refl _, fun _ _ _ _ => Eq.refl _, fun _ _ => Eq.refl _⟩
theorem FrM.trans (a : FrM A B h h') (b : FrM A B h' h'') : FrM A B h h'' :=
  ⟨b.1.trans a.1, fun x k => (b.2.1 x k).trans (a.2.1 x k), fun x k q p => (b.2.2.1 x k q p).trans (a.2.2.1 x k q p), fun k q => (b.2.2.2.1 k q).trans (a.2.2.2.1 k q), fun x k q p => (b.2.2.2.2.1 x k q p).trans (a.2.2.2.2.1 x k q p), fun k q => (b.2.2.2.2.2 k q).trans (a.2.2.2.2.2 k q)⟩
theorem FrM.mono {A' B' : List Nat} (a : FrM A B h h') (hA : ∀ x, x ∈ A → x ∈ A') (hB : ∀ x, x ∈ B → x ∈ B') : FrM A' B' h h' :=
  ⟨a.1, a.2.1, fun x k q p => a.2.2.1 x k (fun z => q (hA x z)) p, fun k q => a.2.2.2.1 k (fun z => q (hB k z)), fun x k q p => a.2.2.2.2.1 x k (fun z => q (hA x z)) p, fun k q => a.2.2.2.2.2 k (fun z => q (hB k z))⟩
/-- to larger lists, by computing -/
theorem FrM.wk {A' B' : List Nat} (a : FrM A B h h') (hA : A.all (fun x => A'.contains x) = true) (hB : B.all (fun x => B'.contains x) = true) : FrM A' B' h h' :=
  a.mono (fun x hx => by have := List.all_eq_true.mp hA x hx; simpa using this) (fun x hx => by have := List.all_eq_true.mp hB x hx; simpa using this)
theorem FrM.fx (a : FrM A B h h') (F : FX h) : FX h' := FX_of F a.1 fun p _ => a.2.1 _ _
theorem FrM.row {a k : Nat} {v : Int32} (ha : a ∈ A) (h45 : a ≠ 45) : FrM A B h (si h a k v) :=
  ⟨Eq.refl _, fun _ _ => Eq.refl _, fun b j q _ => hi_row k j v (fun e => q (e ▸ ha)), fun j _ => hi_row k j v (fun e => h45 e.symm), fun _ _ _ _ => Eq.refl _, fun _ _ => Eq.refl _⟩
theorem FrM.rowJ {a k : Nat} {v : Int64} (ha : a ∈ A) (h45 : a ≠ 45) : FrM A B h (sj h a k v) :=
  ⟨Eq.refl _, fun _ _ => Eq.refl _, fun _ _ _ _ => Eq.refl _, fun _ _ => Eq.refl _, fun b j q _ => hj_row k j v (fun e => q (e ▸ ha)), fun j _ => hj_row k j v (fun e => h45 e.symm)⟩
theorem FrM.fld {k : Nat} {v : Int32} (hk : k ∈ B) : FrM A B h (si h 45 k v) :=
  ⟨Eq.refl _, fun _ _ => Eq.refl _, fun b j _ p => hi_row k j v p, fun j q => hi_col 45 v (fun e => q (e ▸ hk)), fun _ _ _ _ => Eq.refl _, fun _ _ => Eq.refl _⟩
theorem FrM.fldJ {k : Nat} {v : Int64} (hk : k ∈ B) : FrM A B h (sj h 45 k v) :=
  ⟨Eq.refl _, fun _ _ => Eq.refl _, fun _ _ _ _ => Eq.refl _, fun _ _ => Eq.refl _, fun b j _ p => hj_row k j v p, fun j q => hj_col 45 v (fun e => q (e ▸ hk))⟩
theorem FrM.ei (a : FrM A B h h') {x : Nat} (k : Nat) (q : x ∉ A) (p : x ≠ 45) : hi h' x k = hi h x k := a.2.2.1 x k q p
theorem FrM.ef (a : FrM A B h h') {k : Nat} (q : k ∉ B) : hi h' 45 k = hi h 45 k := a.2.2.2.1 k q
theorem FrM.ej (a : FrM A B h h') {x : Nat} (k : Nat) (q : x ∉ A) (p : x ≠ 45) : hj h' x k = hj h x k := a.2.2.2.2.1 x k q p
end Fr
/-- the columns: 0 sort, 1 worker, 2 one, 3 two, 4 three, 5 told, 6 untold -/
def vF (h : Hp) : Nat → Nat → Int32 := fun j f => if j < 7 then hi h (64 + j) f else 0
theorem vF_at (h : Hp) {j : Nat} (f : Nat) (hj : j < 7) : vF h j f = hi h (64 + j) f := if_pos hj
def ctk (F : Nat → Nat → Int32) (k : Int32) (f : Nat) : Bool := decide (¬ k < F 5 f ∧ (F 6 f < 0 ∨ ¬ F 6 f ≤ k))
def cnts (F : Nat → Nat → Int32) (s w k : Int32) (f : Nat) : Bool := decide (F 0 f = s ∧ F 1 f = w) && ctk F k f
theorem cnts_iff {F : Nat → Nat → Int32} {s w k : Int32} {f : Nat} : cnts F s w k f = true ↔ F 0 f = s ∧ F 1 f = w ∧ ctk F k f = true := by
  unfold cnts
  rw [Bool.and_eq_true, decide_eq_true_eq, and_assoc]
theorem vF_row {h : Hp} {a k : Nat} {v : Int32} (n : a < 64 ∨ 70 < a) (j f : Nat) (hj : j < 7) : vF (si h a k v) j f = vF h j f := by
  rw [vF_at _ f hj, vF_at _ f hj]
  exact hi_row _ _ _ (by omega)
section Ma
variable {h : Hp}
theorem m_counts (F : FX h) {f : Nat} (hf : f < 250) (s w k : Int32) : f_X9_counts 45 (nI f) s w k h = some (if cnts (vF h) s w k f then 1 else 0, h) := by
  unfold f_X9_counts
  simp (disch := (first | assumption | (simp only [FX_si, FX_sj, FX_sr]; assumption) | omega | decide)) only [bd_some, b1_some, b2_some, b3_some, b4_some, c1_eq, elim_inl, elim_inr, zok0, zok1, getQ_si, getQ_sj, getQ_sr, q8_0, q8_1, q8_2, q8_4, q8_7, q8_8, q8_9, q8_10, q8_11, q9_0, q9_3, q9_4, q9_8, q17_0, q17_1, q17_2, q17_4, q17_5, q17_6, q17_9, q17_10, q17_11, q27_4, q27_5, q27_6, q27_7, q27_8, q27_11, q45_0, q45_1, q45_11, q45_12, q45_13, q45_14, q45_15, q45_16, q45_17, q45_18, q45_19, q45_20, q45_21, q45_22, q45_23, q45_24, q45_30, q45_31, q45_32, q45_33, q45_34, q45_35, q45_36, q45_37, q45_38, q45_39, q45_43, q45_44, q45_45, q45_46, q45_47, q45_48, q45_52, q45_53, q45_54, q45_59, q45_60, q45_61, q45_62, q45_65, q45_67, q45_68, gi8, gj8, pi8, pz8, pj8, rc8, gi9, gj9, pi9, pz9, pj9, rc9, gi17, gj17, pi17, pz17, pj17, rc17, gi27, gj27, pi27, pz27, pj27, rc27, gi45, gj45, pi45, pz45, pj45, rc45, aln_si, aln_sj, aln_sq, rc_si, rc_sj, rc_sq, n0, n1, n10, n11, n12, n13, n14, n15, n16, n18, n19, n20, n21, n22, n23, n24, n25, n26, n29, n30, n31, n32, n33, n34, n35, n36, n37, n38, n39, n40, n42, n43, n44, n46, n47, n48, n49, n50, n51, n52, n53, n54, n55, n56, n57, n58, n59, n60, n61, n62, n63, n64, n65, n66, n67, n68, n69, n70, n71, n72, n73, n74, n75, n76, n77, n78, n79, n80, n81, n82, n83, n84, n85, n86, n87, r0, r1, r10, r11, r12, r13, r14, r15, r16, r18, r19, r20, r21, r22, r23, r24, r25, r26, r29, r30, r31, r32, r33, r34, r35, r36, r37, r38, r39, r40, r42, r43, r44, r46, r47, r48, r49, r50, r51, r52, r53, r54, r55, r56, r57, r58, r59, r60, r61, r62, r63, r64, r65, r66, r67, r68, r69, r70, r71, r72, r73, r74, r75, r76, r77, r78, r79, r80, r81, r82, r83, r84, r85, r86, r87, w10, w11, w12, w13, w18, w19, w20, w21, w22, w23, w24, w25, w26, w30, w31, w32, w33, w34, w35, w36, w38, w39, w40, w43, w44, w46, w47, w48, w49, w50, w51, w52, w53, w54, w55, w56, w57, w58, w59, w60, w61, w62, w63, w64, w65, w66, w67, w68, w69, w70, w71, w72, w73, w74, w75, w76, w77, w78, w79, w80, w81, w82, w83, w84, w85, w86, w87, hi_hit, hi_row, hi_col, hj_hit, hj_row, hj_col, hi_sj, hj_si, hq_si, hq_sj, hi_sq, hj_sq, hi_srh, hi_srm]
  unfold cnts ctk
  show _ = some (if (decide (hi h 64 f = s ∧ hi h 65 f = w) && decide (¬ k < hi h 69 f ∧ (hi h 70 f < 0 ∨ ¬ hi h 70 f ≤ k))) = true then 1 else 0, h)
  by_cases h1 : hi h 64 f = s
  · by_cases h2 : hi h 65 f = w
    · by_cases h3 : k < hi h 69 f
      · simp [h1, h2, h3, b1, zok]
      · by_cases h4 : hi h 70 f < 0
        · simp [h1, h2, h3, h4, b1, zok]
        · by_cases h5 : hi h 70 f ≤ k
          · simp [h1, h2, h3, h4, h5, b1, zok]
          · simp [h1, h2, h3, h4, h5, b1, zok]
    · simp [h1, h2, b1, zok]
  · simp [h1, b1, zok]
theorem m_totalOf (F : FX h) {w : Nat} (hw : w < 104) : f_X9_totalOf 45 (nI w) h = some (hi h 72 (6 * w) + hi h 72 (6 * w + 1) + hi h 72 (6 * w + 2) + hi h 72 (6 * w + 3) + hi h 72 (6 * w + 4), h) := by
  unfold f_X9_totalOf
  obtain ⟨N, hN⟩ := fu_ex 6 (by omega)
  rw [hN, show N + 6 = N + 1 + 1 + 1 + 1 + 1 + 1 from rfl, show (0 : Int32) = nI 0 from rfl]
  have st : ∀ (n i : Nat) (s : Int32), i < 5 → f_X9_totalOf_L4 (n + 1) 45 (nI w) s (nI i) h = f_X9_totalOf_L4 n 45 (nI w) (s + hi h 72 (6 * w + i)) (nI (i + 1)) h := by
    intro n i s hi5
    rw [f_X9_totalOf_L4.eq_2, if_neg (by rw [L5, nI_leI (by omega) (by omega)]; omega)]
    simp (disch := (first | assumption | (simp only [FX_si, FX_sj, FX_sr]; assumption) | omega | decide)) only [nI_6, nI_1, bd_some, b1_some, b2_some, b3_some, b4_some, c1_eq, elim_inl, elim_inr, zok0, zok1, getQ_si, getQ_sj, getQ_sr, q8_0, q8_1, q8_2, q8_4, q8_7, q8_8, q8_9, q8_10, q8_11, q9_0, q9_3, q9_4, q9_8, q17_0, q17_1, q17_2, q17_4, q17_5, q17_6, q17_9, q17_10, q17_11, q27_4, q27_5, q27_6, q27_7, q27_8, q27_11, q45_0, q45_1, q45_11, q45_12, q45_13, q45_14, q45_15, q45_16, q45_17, q45_18, q45_19, q45_20, q45_21, q45_22, q45_23, q45_24, q45_30, q45_31, q45_32, q45_33, q45_34, q45_35, q45_36, q45_37, q45_38, q45_39, q45_43, q45_44, q45_45, q45_46, q45_47, q45_48, q45_52, q45_53, q45_54, q45_59, q45_60, q45_61, q45_62, q45_65, q45_67, q45_68, gi8, gj8, pi8, pz8, pj8, rc8, gi9, gj9, pi9, pz9, pj9, rc9, gi17, gj17, pi17, pz17, pj17, rc17, gi27, gj27, pi27, pz27, pj27, rc27, gi45, gj45, pi45, pz45, pj45, rc45, aln_si, aln_sj, aln_sq, rc_si, rc_sj, rc_sq, n0, n1, n10, n11, n12, n13, n14, n15, n16, n18, n19, n20, n21, n22, n23, n24, n25, n26, n29, n30, n31, n32, n33, n34, n35, n36, n37, n38, n39, n40, n42, n43, n44, n46, n47, n48, n49, n50, n51, n52, n53, n54, n55, n56, n57, n58, n59, n60, n61, n62, n63, n64, n65, n66, n67, n68, n69, n70, n71, n72, n73, n74, n75, n76, n77, n78, n79, n80, n81, n82, n83, n84, n85, n86, n87, r0, r1, r10, r11, r12, r13, r14, r15, r16, r18, r19, r20, r21, r22, r23, r24, r25, r26, r29, r30, r31, r32, r33, r34, r35, r36, r37, r38, r39, r40, r42, r43, r44, r46, r47, r48, r49, r50, r51, r52, r53, r54, r55, r56, r57, r58, r59, r60, r61, r62, r63, r64, r65, r66, r67, r68, r69, r70, r71, r72, r73, r74, r75, r76, r77, r78, r79, r80, r81, r82, r83, r84, r85, r86, r87, w10, w11, w12, w13, w18, w19, w20, w21, w22, w23, w24, w25, w26, w30, w31, w32, w33, w34, w35, w36, w38, w39, w40, w43, w44, w46, w47, w48, w49, w50, w51, w52, w53, w54, w55, w56, w57, w58, w59, w60, w61, w62, w63, w64, w65, w66, w67, w68, w69, w70, w71, w72, w73, w74, w75, w76, w77, w78, w79, w80, w81, w82, w83, w84, w85, w86, w87, hi_hit, hi_row, hi_col, hj_hit, hj_row, hj_col, hi_sj, hj_si, hq_si, hq_sj, hi_sq, hj_sq, hi_srh, hi_srm]
  rw [st _ 0 _ (by omega), st _ 1 _ (by omega), st _ 2 _ (by omega), st _ 3 _ (by omega), st _ 4 _ (by omega), f_X9_totalOf_L4.eq_2, if_pos (by decide)]
  simp [b1, nI_0]
end Ma
/-! What is known of a worker at a time, from the facts ahead of n. -/
section Sp
variable (F : Nat → Nat → Int32) (wk k : Int32)
def PDn : Nat → Nat → Nat → Int32
  | 0, _, _ => 0
  | n + 1, i, w => if cnts F 0 wk k n = true ∧ F 2 n = nI w ∧ F 3 n = nI i then F 4 n else PDn n i w
def LSn : Nat → Nat → Bool
  | 0, _ => false
  | n + 1, w => (cnts F 1 wk k n && decide (F 2 n = nI w)) || LSn n w
def BKn : Nat → List Nat
  | 0 => []
  | n + 1 => if cnts F 2 wk k n = true then BKn n ++ [n] else BKn n
/-- how many banks were ever told of a worker -/
def BCn : Nat → Nat
  | 0 => 0
  | n + 1 => if F 0 n = 2 ∧ F 1 n = wk then BCn n + 1 else BCn n
theorem BKn_len (n : Nat) : (BKn F wk k n).length ≤ BCn F wk n := by
  induction n with
  | zero => exact Nat.le_refl _
  | succ n ih =>
    unfold BKn BCn
    by_cases h : cnts F 2 wk k n = true
    · rw [if_pos h, if_pos ⟨(cnts_iff.mp h).1, (cnts_iff.mp h).2.1⟩, List.length_append]
      exact Nat.succ_le_succ ih
    · rw [if_neg h]
      split
      · omega
      · exact ih
theorem BKn_lt (n : Nat) : ∀ f ∈ BKn F wk k n, f < n ∧ cnts F 2 wk k f = true := by
  induction n with
  | zero => intro f hf; exact absurd hf List.not_mem_nil
  | succ n ih =>
    intro f hf
    unfold BKn at hf
    split at hf
    · rename_i hc
      rcases List.mem_append.mp hf with q | q
      · exact ⟨Nat.lt_succ_of_lt (ih f q).1, (ih f q).2⟩
      · rw [List.mem_singleton] at q
        subst q
        exact ⟨Nat.lt_succ_self _, hc⟩
    · exact ⟨Nat.lt_succ_of_lt (ih f hf).1, (ih f hf).2⟩
end Sp
/-- what was paid, what is lost being 0 -/
def PD (F : Nat → Nat → Int32) (wk k : Int32) (n i w : Nat) : Int32 := if LSn F wk k n w = true then 0 else PDn F wk k n i w
/-- the facts' numbers are in their ranges -/
def RGf (F : Nat → Nat → Int32) (nw f : Nat) : Prop :=
  (∃ w, w < nw ∧ F 1 f = nI w) ∧
  (F 0 f = 0 → (∃ w, w < 104 ∧ F 2 f = nI w) ∧ (∃ i, i < 6 ∧ F 3 f = nI i) ∧ ∃ v, v ≤ 9999 ∧ F 4 f = nI v) ∧
  (F 0 f = 1 → ∃ w, w < 104 ∧ F 2 f = nI w) ∧
  (F 0 f = 2 → ∃ a b t, a ≤ b ∧ b < 104 ∧ t ≤ 999999 ∧ F 2 f = nI a ∧ F 3 f = nI b ∧ F 4 f = nI t) ∧
  (F 0 f = 3 → ∃ d n p, d < 728 ∧ 1 ≤ n ∧ n ≤ 20 ∧ p ≤ 99999 ∧ F 2 f = nI d ∧ F 3 f = nI n ∧ F 4 f = nI p) ∧
  (F 0 f = 4 → ∃ a b, a ≤ b ∧ b < 728 ∧ F 2 f = nI a ∧ F 3 f = nI b) ∧
  (F 0 f = 5 → ∃ d, d ≤ 999 ∧ F 2 f = nI d) ∧
  (∃ t, t ≤ 100000 ∧ F 5 f = nI t) ∧ (F 6 f = -1 ∨ ∃ t, t ≤ 100000 ∧ F 6 f = nI t)
def RG (F : Nat → Nat → Int32) (nw nf : Nat) : Prop := (∀ f, f < nf → RGf F nw f) ∧ ∀ w, w < nw → BCn F (nI w) nf ≤ 10
