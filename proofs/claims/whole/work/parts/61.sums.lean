/-! The class's sums over posts: lowering, coming to rest. -/
/-- rows A and fields B may change, no reference -/
def Fr (A : List Nat) (B : List (Nat × Nat)) (h h' : Hp) : Prop := h'.1 = h.1 ∧ (∀ a k, hq h' a k = hq h a k) ∧ (∀ a k, a ∉ A → (a, k) ∉ B → hi h' a k = hi h a k) ∧ ∀ a k, a ∉ A → (a, k) ∉ B → hj h' a k = hj h a k
section Fq
variable {A : List Nat} {B : List (Nat × Nat)} {h h' h'' : Hp}
theorem Fr.rfl : Fr A B h h := ⟨Eq.refl _, fun _ _ => Eq.refl _, fun _ _ _ _ => Eq.refl _, fun _ _ _ _ => Eq.refl _⟩
theorem Fr.trans (a : Fr A B h h') (b : Fr A B h' h'') : Fr A B h h'' :=
  ⟨b.1.trans a.1, fun x k => (b.2.1 x k).trans (a.2.1 x k), fun x k q p => (b.2.2.1 x k q p).trans (a.2.2.1 x k q p), fun x k q p => (b.2.2.2 x k q p).trans (a.2.2.2 x k q p)⟩
theorem Fr.mono {A' : List Nat} {B' : List (Nat × Nat)} (a : Fr A B h h') (hA : ∀ x, x ∈ A → x ∈ A') (hB : ∀ x, x ∈ B → x ∈ B') : Fr A' B' h h' :=
  ⟨a.1, a.2.1, fun x k q p => a.2.2.1 x k (fun z => q (hA x z)) (fun z => p (hB _ z)), fun x k q p => a.2.2.2 x k (fun z => q (hA x z)) (fun z => p (hB _ z))⟩
theorem Fr.wk {A' : List Nat} {B' : List (Nat × Nat)} (a : Fr A B h h') (hA : A.all (fun x => A'.contains x) = true) (hB : B.all (fun x => B'.contains x) = true) : Fr A' B' h h' :=
  a.mono (fun x hx => by have := List.all_eq_true.mp hA x hx; simpa using this) (fun x hx => by have := List.all_eq_true.mp hB x hx; simpa using this)
theorem Fr.fx (a : Fr A B h h') (F : FX h) : FX h' := FX_of F a.1 fun p _ => a.2.1 _ _
theorem Fr.row {a k : Nat} {v : Int32} (ha : a ∈ A) : Fr A B h (si h a k v) :=
  ⟨Eq.refl _, fun _ _ => Eq.refl _, fun b j q _ => hi_row k j v (fun e => q (e ▸ ha)), fun _ _ _ _ => Eq.refl _⟩
theorem Fr.rowJ {a k : Nat} {v : Int64} (ha : a ∈ A) : Fr A B h (sj h a k v) :=
  ⟨Eq.refl _, fun _ _ => Eq.refl _, fun _ _ _ _ => Eq.refl _, fun b j q _ => hj_row k j v (fun e => q (e ▸ ha))⟩
theorem Fr.rowR {a : Nat} {f : Nat → Int32} (ha : a ∈ A) : Fr A B h (sr h a f) :=
  ⟨Eq.refl _, fun _ _ => Eq.refl _, fun b j q _ => hi_srm j f (fun e => q (e ▸ ha)), fun _ _ _ _ => Eq.refl _⟩
theorem Fr.fld {a k : Nat} {v : Int32} (hk : (a, k) ∈ B) : Fr A B h (si h a k v) :=
  ⟨Eq.refl _, fun _ _ => Eq.refl _, fun b j _ p => by
    rw [hi_put, if_neg]
    rintro ⟨rfl, rfl⟩
    exact p hk, fun _ _ _ _ => Eq.refl _⟩
theorem Fr.fldJ {a k : Nat} {v : Int64} (hk : (a, k) ∈ B) : Fr A B h (sj h a k v) :=
  ⟨Eq.refl _, fun _ _ => Eq.refl _, fun _ _ _ _ => Eq.refl _, fun b j _ p => by
    show up2 h.2.2.1 a k v b j = _
    unfold up2
    rw [if_neg]
    · rfl
    · rintro ⟨rfl, rfl⟩
      exact p hk⟩
theorem Fr.ei (a : Fr A B h h') {x : Nat} (k : Nat) (q : x ∉ A) (p : B.all (fun y => y.1 != x) = true) : hi h' x k = hi h x k := a.2.2.1 x k q (fun z => by
  have := List.all_eq_true.mp p _ z
  simp at this)
theorem Fr.ef (a : Fr A B h h') {x k : Nat} (q : x ∉ A) (p : (x, k) ∉ B) : hi h' x k = hi h x k := a.2.2.1 x k q p
theorem Fr.ej (a : Fr A B h h') {x : Nat} (k : Nat) (q : x ∉ A) (p : B.all (fun y => y.1 != x) = true) : hj h' x k = hj h x k := a.2.2.2 x k q (fun z => by
  have := List.all_eq_true.mp p _ z
  simp at this)
theorem Fr.ejf (a : Fr A B h h') {x k : Nat} (q : x ∉ A) (p : (x, k) ∉ B) : hj h' x k = hj h x k := a.2.2.2 x k q p
end Fq
def psm (rm : Nat → Int) : Nat → Int
  | 0 => 0
  | n + 1 => psm rm n + rm n
/-- edges between neighbours, up and down -/
def GE (rm : Nat → Int) : Nat → List Ed
  | 0 => []
  | n + 1 => GE rm n ++ [(n, n + 1, rm n)]
def GB : Nat → List Ed
  | 0 => []
  | n + 1 => (n + 1, n, 0) :: GB n
theorem GE_st (rm : Nat → Int) (n : Nat) (S : Nat → Int) : St' (GE rm n) S ↔ ∀ i, i < n → S (i + 1) ≤ S i + rm i := by
  induction n with
  | zero => exact ⟨fun _ w hw => absurd hw (Nat.not_lt_zero _), fun _ e he => absurd he List.not_mem_nil⟩
  | succ n ih =>
    show St' (GE rm n ++ [(n, n + 1, rm n)]) S ↔ _
    rw [St'_app, ih]
    constructor
    · rintro ⟨h1, h2⟩ i hi'
      rcases Nat.lt_or_ge i n with q | q
      · exact h1 i q
      · rw [show i = n by omega]
        exact h2 _ List.mem_cons_self
    · intro h
      refine ⟨fun i hi' => h i (by omega), fun e he => ?_⟩
      rw [List.mem_singleton] at he
      subst he
      exact h n (by omega)
theorem GB_st (n : Nat) (S : Nat → Int) : St' (GB n) S ↔ ∀ i, i < n → S i ≤ S (i + 1) := by
  induction n with
  | zero => exact ⟨fun _ w hw => absurd hw (Nat.not_lt_zero _), fun _ e he => absurd he List.not_mem_nil⟩
  | succ n ih =>
    constructor
    · intro h i hi'
      rcases Nat.lt_or_ge i n with q | q
      · exact ih.mp (fun e he => h e (List.mem_cons_of_mem _ he)) i q
      · rw [show i = n by omega]
        have := h _ List.mem_cons_self
        simp only at this
        omega
    · intro h e he
      rcases List.mem_cons.mp he with rfl | q
      · have := h n (by omega)
        simp only
        omega
      · exact ih.mpr (fun i hi' => h i (by omega)) e q
theorem GE_in (rm : Nat → Int) (n : Nat) : ∀ e ∈ GE rm n, e.1 < n + 1 ∧ e.2.1 < n + 1 := by
  induction n with
  | zero => intro e he; exact absurd he List.not_mem_nil
  | succ n ih =>
    intro e he
    rcases List.mem_append.mp he with q | q
    · have := ih e q; omega
    · rw [List.mem_singleton] at q; subst q; simp only; omega
theorem GB_in (n : Nat) : ∀ e ∈ GB n, e.1 < n + 1 ∧ e.2.1 < n + 1 := by
  induction n with
  | zero => intro e he; exact absurd he List.not_mem_nil
  | succ n ih =>
    intro e he
    rcases List.mem_cons.mp he with rfl | q
    · simp only; omega
    · have := ih e q; omega
def PED (P : Nat) (rm : Nat → Int) (sA sE : Nat → Nat) (sR : Nat → Int) (bc : Nat) (out : Nat → Bool) : List Ed := (GE rm (P - 1) ++ GB (P - 1)) ++ BE sA sE sR out bc
theorem PED_st (P : Nat) (rm : Nat → Int) (sA sE : Nat → Nat) (sR : Nat → Int) (bc : Nat) (out : Nat → Bool) (y : Nat → Int) : St' (PED P rm sA sE sR bc out) y ↔ PWAY P rm sA sE sR bc out y := by
  unfold PED PWAY
  rw [St'_app, St'_app, GE_st, GB_st, BE_st]
  constructor
  · rintro ⟨⟨h1, h2⟩, h3⟩
    exact ⟨fun i hi' => ⟨h2 i (by omega), h1 i (by omega)⟩, h3⟩
  · rintro ⟨h1, h3⟩
    exact ⟨⟨fun i hi' => (h1 i (by omega)).2, fun i hi' => (h1 i (by omega)).1⟩, h3⟩
/-- a pass downwards leaves the first one the least -/
theorem GB_min {B : Int} : ∀ (n : Nat) (f : Nat → Int), (∀ j, j ≤ n → f j < B) → ∀ j, j ≤ n → rd B (GB n) f 0 ≤ rd B (GB n) f j
  | 0, f, _, j, hj => by rw [Nat.le_zero.mp hj]; exact Int.le_refl _
  | n + 1, f, hB, j, hj => by
    show rd B (GB n) (rl B f (n + 1, n, 0)) 0 ≤ rd B (GB n) (rl B f (n + 1, n, 0)) j
    have hB' : ∀ j, j ≤ n → rl B f (n + 1, n, 0) j < B := fun j hj => by
      have := rl_le B f (n + 1, n, 0) j
      have := hB j (by omega)
      omega
    rcases Nat.lt_or_ge j (n + 1) with q | q
    · exact GB_min n _ hB' j (by omega)
    · obtain rfl : j = n + 1 := by omega
      have h1 := GB_min n _ hB' n (Nat.le_refl _)
      have h2 := rd_le B (GB n) (rl B f (n + 1, n, 0)) n
      have h3 : rl B f (n + 1, n, 0) n ≤ f (n + 1) := by
        have := hB (n + 1) (Nat.le_refl _)
        unfold rl
        rw [if_neg (by simp only; omega)]
        split
        · show (if n = n then _ else _) ≤ _
          rw [if_pos rfl]
          simp only
          omega
        · rename_i q2
          simp only at q2
          omega
      have h4 : rd B (GB n) (rl B f (n + 1, n, 0)) (n + 1) = f (n + 1) := by
        have stay : ∀ (m : Nat) (f : Nat → Int) (v : Nat), m ≤ v → rd B (GB m) f v = f v := by
          intro m
          induction m with
          | zero => intro f v _; rfl
          | succ m ih =>
            intro f v hv
            show rd B (GB m) (rl B f (m + 1, m, 0)) v = _
            rw [ih _ v (by omega)]
            unfold rl
            split
            · rfl
            · split
              · show (if v = m then _ else _) = _
                rw [if_neg (by omega)]
              · rfl
        rw [stay n _ (n + 1) (by omega)]
        unfold rl
        split
        · rfl
        · split
          · show (if n + 1 = n then _ else _) = _
            rw [if_neg (by omega)]
          · rfl
      omega
def SMC (N : Nat) (g : Hp) (R : Nat → Int) (M : Int) : Prop := ∀ j, j < N → (hi g 24 j).toInt = R j ∧ -M ≤ R j ∧ R j ≤ 30000000
def FLc (R0 R : Nat → Int) (fl : Int32) : Prop := (fl = 0 ∧ R = R0) ∨ (fl = 1 ∧ ∃ j, R j < R0 j)
abbrev BB : Int := 1000000000000
theorem FLc_same {R0 R R' : Nat → Int} {fl : Int32} (h : FLc R0 R fl) (e : R' = R) : FLc R0 R' fl := by rw [e]; exact h
theorem FLc_low {R0 R R' : Nat → Int} {fl : Int32} (h : FLc R0 R fl) (h1 : ∀ j, R' j ≤ R j) {v : Nat} (h2 : R' v < R v) : FLc R0 R' 1 := by
  refine Or.inr ⟨rfl, ?_⟩
  rcases h with ⟨-, e⟩ | ⟨-, j, e⟩
  · exact ⟨v, by rw [← e]; exact h2⟩
  · exact ⟨j, by have := h1 j; omega⟩
theorem low1 {N : Nat} {g : Hp} {R : Nat → Int} {M M' : Int} {u v : Nat} {wI : Int} {z : Int32} (hR : SMC N g R M) (hu : u < N) (hv : v < N) (hz : z.toInt = R u + wI) (h1 : M ≤ M') (h2 : M - wI ≤ M') :
    (hi g 24 v ≤ z ∧ rl BB R (u, v, wI) = R ∧ SMC N g R M') ∨ (¬ hi g 24 v ≤ z ∧ SMC N (si g 24 v z) (rl BB R (u, v, wI)) M' ∧ (∀ j, rl BB R (u, v, wI) j ≤ R j) ∧ rl BB R (u, v, wI) v < R v) := by
  obtain ⟨a1, a2, a3⟩ := hR u hu
  obtain ⟨b1, b2, b3⟩ := hR v hv
  have nb : ¬ BB ≤ R u := by unfold BB; omega
  have wk : SMC N g R M' := fun j hj => by have := hR j hj; exact ⟨this.1, by omega, this.2.2⟩
  by_cases c : hi g 24 v ≤ z
  · left
    refine ⟨c, ?_, wk⟩
    rw [Int32.le_iff_toInt_le, hz, b1] at c
    unfold rl
    rw [if_neg (show ¬ BB ≤ R (u, v, wI).1 from nb), if_neg (by show ¬ R u + wI < R v; omega)]
  · right
    have c' := c
    rw [Int32.le_iff_toInt_le, hz, b1] at c'
    have e : rl BB R (u, v, wI) = fun j => if j = v then R u + wI else R j := by
      unfold rl
      rw [if_neg (show ¬ BB ≤ R (u, v, wI).1 from nb), if_pos (by show R u + wI < R v; omega)]
    refine ⟨c, fun j hj => ?_, fun j => rl_le _ _ _ j, ?_⟩
    · rw [e]
      simp only
      by_cases q : j = v
      · subst q
        rw [hi_hit, if_pos rfl, hz]
        exact ⟨rfl, by omega, by omega⟩
      · rw [hi_col 24 _ q, if_neg q]
        exact wk j hj
    · rw [e]
      show (if v = v then R u + wI else R v) < R v
      rw [if_pos rfl]
      omega
/-- what the sums look at -/
def DXC (g : Hp) (P : Nat) (rm : Nat → Int) (bc : Nat) (sA sE : Nat → Nat) (sR : Nat → Int) (al : Int) : Prop :=
  FX g ∧ P ≤ 20 ∧ hi g 17 8 = nI P ∧ (hi g 17 7).toInt = al ∧ 0 ≤ al ∧ al ≤ 1050000 ∧ bc ≤ 10 ∧ hi g 17 3 = nI bc ∧ (∀ i, i < 20 → (hi g 23 i).toInt = rm i ∧ 0 ≤ rm i ∧ rm i ≤ 1050000) ∧
  (∀ b, b < bc → hi g 18 b = nI (sA b) ∧ hi g 19 b = nI (sE b) ∧ (hi g 20 b).toInt = sR b ∧ sA b < sE b ∧ sE b < P ∧ -6200000 ≤ sR b ∧ sR b ≤ 1000000) ∧ ∀ n, n ≤ 20 → psm rm n ≤ al
theorem r24_0 {h : Hp} (F : FX h) : rdI h (some 24) 10 0 = some (hi h 24 0) := r24 (i := 0) F (by omega)
section Cs
variable {N : Nat} {g : Hp} {P : Nat} {rm : Nat → Int} {bc : Nat} {sA sE : Nat → Nat} {sR : Nat → Int} {al : Int}
theorem DXC.fr {A : List Nat} {B : List (Nat × Nat)} {g' : Hp} (D : DXC g P rm bc sA sE sR al) (fr : Fr A B g g') (hA : [17, 18, 19, 20, 23].all (fun x => !A.contains x) = true) (hB : B.all (fun x => x.1 != 17 && x.1 != 18 && x.1 != 19 && x.1 != 20 && x.1 != 23) = true) : DXC g' P rm bc sA sE sR al := by
  obtain ⟨D1, D2, D3, D4, D5, D6, D7, D8, D9, D10, D11⟩ := D
  have nA : ∀ x, x ∈ [17, 18, 19, 20, 23] → ∀ k, hi g' x k = hi g x k := fun x hx k => by
    refine fr.ei k (fun q => ?_) ?_
    · have := List.all_eq_true.mp hA x hx
      simp at this
      exact this q
    · rw [List.all_eq_true] at hB ⊢
      intro y hy
      have := hB y hy
      simp only [List.mem_cons, List.not_mem_nil, or_false] at hx
      rcases hx with rfl | rfl | rfl | rfl | rfl <;> simp_all
  refine ⟨fr.fx D1, D2, (nA 17 (by decide) 8).trans D3, by rw [nA 17 (by decide)]; exact D4, D5, D6, D7, (nA 17 (by decide) 3).trans D8, fun i hi' => by rw [nA 23 (by decide)]; exact D9 i hi', fun b hb => ?_, D11⟩
  rw [nA 18 (by decide), nA 19 (by decide), nA 20 (by decide)]
  exact D10 b hb
theorem c_gaps4 (D : DXC g P rm bc sA sE sR al) (hPN : P ≤ N) {R : Nat → Int} {M : Int} (hR : SMC N g R M) (hM : M ≤ 1000000000) (hP : 0 < P) :
    ∃ r, f_X6_lowerByGaps_L4 fu 17 0 1 g = some r ∧ Fr [24] [] g r.2 ∧ SMC N r.2 (rd BB (GE rm (P - 1)) R) M ∧ FLc R (rd BB (GE rm (P - 1)) R) r.1 := by
  have hP20 := D.2.1
  refine forN (fun n v (p : Int32 × Hp) => f_X6_lowerByGaps_L4 n 17 p.1 v p.2) P (by omega) (fun i p => 0 < i ∧ Fr [24] [] g p.2 ∧ SMC N p.2 (rd BB (GE rm (i - 1)) R) M ∧ FLc R (rd BB (GE rm (i - 1)) R) p.1)
    (fun p => Fr [24] [] g p.2 ∧ SMC N p.2 (rd BB (GE rm (P - 1)) R) M ∧ FLc R (rd BB (GE rm (P - 1)) R) p.1) ?_ ?_ (i0 := 1) (s := (0, g)) hP ⟨by omega, Fr.rfl, hR, Or.inl ⟨rfl, rfl⟩⟩
  · rintro n ⟨fl, g1⟩ ⟨I0, I1, I2, I3⟩
    simp only at I1 I2 I3
    have F1 := I1.fx D.1
    have D1 := D.fr I1 (by decide) (by decide)
    refine ⟨(fl, g1), ?_, I1, I2, I3⟩
    simp only [f_X6_lowerByGaps_L4.eq_2]
    simp (disch := (first | assumption | (simp only [FX_si, FX_sj, FX_sr]; assumption) | omega | decide)) only [D1.2.2.1, ↓reduceIte, if_true, if_false, i10, i01, eq_self, bd_some, b1_some, b2_some, b3_some, b4_some, c1_eq, elim_inl, elim_inr, zok0, zok1, getQ_si, getQ_sj, getQ_sr, q8_0, q8_1, q8_2, q8_4, q8_7, q8_8, q8_9, q8_10, q8_11, q9_0, q9_3, q9_4, q9_8, q17_0, q17_1, q17_2, q17_4, q17_5, q17_6, q17_9, q17_10, q17_11, q27_4, q27_5, q27_6, q27_7, q27_8, q27_11, q45_0, q45_1, q45_11, q45_12, q45_13, q45_14, q45_15, q45_16, q45_17, q45_18, q45_19, q45_20, q45_21, q45_22, q45_23, q45_24, q45_30, q45_31, q45_32, q45_33, q45_34, q45_35, q45_36, q45_37, q45_38, q45_39, q45_43, q45_44, q45_45, q45_46, q45_47, q45_48, q45_52, q45_53, q45_54, q45_59, q45_60, q45_61, q45_62, q45_65, q45_67, q45_68, gi8, gj8, pi8, pz8, pj8, rc8, gi9, gj9, pi9, pz9, pj9, rc9, gi17, gj17, pi17, pz17, pj17, rc17, gi27, gj27, pi27, pz27, pj27, rc27, gi45, gj45, pi45, pz45, pj45, rc45, aln_si, aln_sj, aln_sq, rc_si, rc_sj, rc_sq, n0, n1, n10, n11, n12, n13, n14, n15, n16, n18, n19, n20, n21, n22, n23, n24, n25, n26, n29, n30, n31, n32, n33, n34, n35, n36, n37, n38, n39, n40, n42, n43, n44, n46, n47, n48, n49, n50, n51, n52, n53, n54, n55, n56, n57, n58, n59, n60, n61, n62, n63, n64, n65, n66, n67, n68, n69, n70, n71, n72, n73, n74, n75, n76, n77, n78, n79, n80, n81, n82, n83, n84, n85, n86, n87, r0, r1, r10, r11, r12, r13, r14, r15, r16, r18, r19, r20, r21, r22, r23, r24, r25, r26, r29, r30, r31, r32, r33, r34, r35, r36, r37, r38, r39, r40, r42, r43, r44, r46, r47, r48, r49, r50, r51, r52, r53, r54, r55, r56, r57, r58, r59, r60, r61, r62, r63, r64, r65, r66, r67, r68, r69, r70, r71, r72, r73, r74, r75, r76, r77, r78, r79, r80, r81, r82, r83, r84, r85, r86, r87, w10, w11, w12, w13, w18, w19, w20, w21, w22, w23, w24, w25, w26, w30, w31, w32, w33, w34, w35, w36, w38, w39, w40, w43, w44, w46, w47, w48, w49, w50, w51, w52, w53, w54, w55, w56, w57, w58, w59, w60, w61, w62, w63, w64, w65, w66, w67, w68, w69, w70, w71, w72, w73, w74, w75, w76, w77, w78, w79, w80, w81, w82, w83, w84, w85, w86, w87, hi_hit, hi_row, hi_col, hj_hit, hj_row, hj_col, hi_sj, hj_si, hq_si, hq_sj, hi_sq, hj_sq, hi_srh, hi_srm]
    rw [if_pos (Int32.le_refl _)]
  · rintro n i ⟨fl, g1⟩ hi' ⟨I0, I1, I2, I3⟩
    simp only at I1 I2 I3
    obtain ⟨j, rfl⟩ : ∃ j, i = j + 1 := ⟨i - 1, by omega⟩
    have D1 := D.fr I1 (by decide) (by decide)
    have F1 := D1.1
    have e8 := D1.2.2.1
    have n1 : ¬ nI P ≤ nI (j + 1) := by rw [nI_leI (by omega) (by omega)]; omega
    have n2 : ¬ (20 : Int32) ≤ nI (j + 1) := by rw [L20, nI_leI (by omega) (by omega)]; omega
    obtain ⟨q1, q2, q3⟩ := D1.2.2.2.2.2.2.2.2.1 j (by omega)
    rw [Nat.add_sub_cancel] at I2 I3
    obtain ⟨u1, u2, u3⟩ := I2 j (by omega)
    have hz : (hi g1 24 j + hi g1 23 j).toInt = rd BB (GE rm j) R j + rm j := by rw [i_add (by omega) (by omega), u1, q1]
    have e : rd BB (GE rm (j + 1)) R = rl BB (rd BB (GE rm j) R) (j, j + 1, rm j) := by rw [GE, rd_app]; rfl
    right
    rcases low1 I2 (u := j) (v := j + 1) (M' := M) (by omega) (by omega) hz (Int.le_refl _) (by omega) with ⟨k1, k2, k3⟩ | ⟨k1, k2, k3, k4⟩
    · refine ⟨(fl, g1), ?_, by omega, I1, ?_, ?_⟩
      · simp only [f_X6_lowerByGaps_L4.eq_2]
        simp (disch := (first | assumption | (simp only [FX_si, FX_sj, FX_sr]; assumption) | omega | decide)) only [e8, n1, n2, nI_pred, nI_1, k1, ↓reduceIte, if_true, if_false, i10, i01, eq_self, bd_some, b1_some, b2_some, b3_some, b4_some, c1_eq, elim_inl, elim_inr, zok0, zok1, getQ_si, getQ_sj, getQ_sr, q8_0, q8_1, q8_2, q8_4, q8_7, q8_8, q8_9, q8_10, q8_11, q9_0, q9_3, q9_4, q9_8, q17_0, q17_1, q17_2, q17_4, q17_5, q17_6, q17_9, q17_10, q17_11, q27_4, q27_5, q27_6, q27_7, q27_8, q27_11, q45_0, q45_1, q45_11, q45_12, q45_13, q45_14, q45_15, q45_16, q45_17, q45_18, q45_19, q45_20, q45_21, q45_22, q45_23, q45_24, q45_30, q45_31, q45_32, q45_33, q45_34, q45_35, q45_36, q45_37, q45_38, q45_39, q45_43, q45_44, q45_45, q45_46, q45_47, q45_48, q45_52, q45_53, q45_54, q45_59, q45_60, q45_61, q45_62, q45_65, q45_67, q45_68, gi8, gj8, pi8, pz8, pj8, rc8, gi9, gj9, pi9, pz9, pj9, rc9, gi17, gj17, pi17, pz17, pj17, rc17, gi27, gj27, pi27, pz27, pj27, rc27, gi45, gj45, pi45, pz45, pj45, rc45, aln_si, aln_sj, aln_sq, rc_si, rc_sj, rc_sq, n0, n1, n10, n11, n12, n13, n14, n15, n16, n18, n19, n20, n21, n22, n23, n24, n25, n26, n29, n30, n31, n32, n33, n34, n35, n36, n37, n38, n39, n40, n42, n43, n44, n46, n47, n48, n49, n50, n51, n52, n53, n54, n55, n56, n57, n58, n59, n60, n61, n62, n63, n64, n65, n66, n67, n68, n69, n70, n71, n72, n73, n74, n75, n76, n77, n78, n79, n80, n81, n82, n83, n84, n85, n86, n87, r0, r1, r10, r11, r12, r13, r14, r15, r16, r18, r19, r20, r21, r22, r23, r24, r25, r26, r29, r30, r31, r32, r33, r34, r35, r36, r37, r38, r39, r40, r42, r43, r44, r46, r47, r48, r49, r50, r51, r52, r53, r54, r55, r56, r57, r58, r59, r60, r61, r62, r63, r64, r65, r66, r67, r68, r69, r70, r71, r72, r73, r74, r75, r76, r77, r78, r79, r80, r81, r82, r83, r84, r85, r86, r87, w10, w11, w12, w13, w18, w19, w20, w21, w22, w23, w24, w25, w26, w30, w31, w32, w33, w34, w35, w36, w38, w39, w40, w43, w44, w46, w47, w48, w49, w50, w51, w52, w53, w54, w55, w56, w57, w58, w59, w60, w61, w62, w63, w64, w65, w66, w67, w68, w69, w70, w71, w72, w73, w74, w75, w76, w77, w78, w79, w80, w81, w82, w83, w84, w85, w86, w87, hi_hit, hi_row, hi_col, hj_hit, hj_row, hj_col, hi_sj, hj_si, hq_si, hq_sj, hi_sq, hj_sq, hi_srh, hi_srm]
      · rw [Nat.add_sub_cancel, e, k2]; exact k3
      · rw [Nat.add_sub_cancel, e, k2]; exact I3
    · refine ⟨(1, si g1 24 (j + 1) (hi g1 24 j + hi g1 23 j)), ?_, by omega, I1.trans (Fr.row (by decide)), ?_, ?_⟩
      · simp only [f_X6_lowerByGaps_L4.eq_2]
        simp (disch := (first | assumption | (simp only [FX_si, FX_sj, FX_sr]; assumption) | omega | decide)) only [e8, n1, n2, nI_pred, nI_1, k1, ↓reduceIte, if_true, if_false, i10, i01, eq_self, bd_some, b1_some, b2_some, b3_some, b4_some, c1_eq, elim_inl, elim_inr, zok0, zok1, getQ_si, getQ_sj, getQ_sr, q8_0, q8_1, q8_2, q8_4, q8_7, q8_8, q8_9, q8_10, q8_11, q9_0, q9_3, q9_4, q9_8, q17_0, q17_1, q17_2, q17_4, q17_5, q17_6, q17_9, q17_10, q17_11, q27_4, q27_5, q27_6, q27_7, q27_8, q27_11, q45_0, q45_1, q45_11, q45_12, q45_13, q45_14, q45_15, q45_16, q45_17, q45_18, q45_19, q45_20, q45_21, q45_22, q45_23, q45_24, q45_30, q45_31, q45_32, q45_33, q45_34, q45_35, q45_36, q45_37, q45_38, q45_39, q45_43, q45_44, q45_45, q45_46, q45_47, q45_48, q45_52, q45_53, q45_54, q45_59, q45_60, q45_61, q45_62, q45_65, q45_67, q45_68, gi8, gj8, pi8, pz8, pj8, rc8, gi9, gj9, pi9, pz9, pj9, rc9, gi17, gj17, pi17, pz17, pj17, rc17, gi27, gj27, pi27, pz27, pj27, rc27, gi45, gj45, pi45, pz45, pj45, rc45, aln_si, aln_sj, aln_sq, rc_si, rc_sj, rc_sq, n0, n1, n10, n11, n12, n13, n14, n15, n16, n18, n19, n20, n21, n22, n23, n24, n25, n26, n29, n30, n31, n32, n33, n34, n35, n36, n37, n38, n39, n40, n42, n43, n44, n46, n47, n48, n49, n50, n51, n52, n53, n54, n55, n56, n57, n58, n59, n60, n61, n62, n63, n64, n65, n66, n67, n68, n69, n70, n71, n72, n73, n74, n75, n76, n77, n78, n79, n80, n81, n82, n83, n84, n85, n86, n87, r0, r1, r10, r11, r12, r13, r14, r15, r16, r18, r19, r20, r21, r22, r23, r24, r25, r26, r29, r30, r31, r32, r33, r34, r35, r36, r37, r38, r39, r40, r42, r43, r44, r46, r47, r48, r49, r50, r51, r52, r53, r54, r55, r56, r57, r58, r59, r60, r61, r62, r63, r64, r65, r66, r67, r68, r69, r70, r71, r72, r73, r74, r75, r76, r77, r78, r79, r80, r81, r82, r83, r84, r85, r86, r87, w10, w11, w12, w13, w18, w19, w20, w21, w22, w23, w24, w25, w26, w30, w31, w32, w33, w34, w35, w36, w38, w39, w40, w43, w44, w46, w47, w48, w49, w50, w51, w52, w53, w54, w55, w56, w57, w58, w59, w60, w61, w62, w63, w64, w65, w66, w67, w68, w69, w70, w71, w72, w73, w74, w75, w76, w77, w78, w79, w80, w81, w82, w83, w84, w85, w86, w87, hi_hit, hi_row, hi_col, hj_hit, hj_row, hj_col, hi_sj, hj_si, hq_si, hq_sj, hi_sq, hj_sq, hi_srh, hi_srm]
      · rw [Nat.add_sub_cancel, e]; exact k2
      · rw [Nat.add_sub_cancel, e]; exact FLc_low I3 k3 k4
/-- downwards: a loop that counts down to 0 -/
theorem forD {σ ρ : Type} (f : Nat → Int32 → σ → Option ρ) (I : Nat → σ → Prop) (Q : ρ → Prop)
    (stop : ∀ n s, I 0 s → ∃ r, f (n + 1) (nI 0) s = some r ∧ Q r)
    (step : ∀ n i s, I (i + 1) s → (∃ r, f (n + 1) (nI (i + 1)) s = some r ∧ Q r) ∨ ∃ s', f (n + 1) (nI (i + 1)) s = f n (nI i) s' ∧ I i s')
    {i0 : Nat} {s : σ} (hi0 : i0 ≤ 1000000) (h0 : I i0 s) : ∃ r, f fu (nI i0) s = some r ∧ Q r := by
  refine whl (fun n (p : Nat × σ) => f n (nI p.1) p.2) (fun p => p.1) (fun p => I p.1 p.2) Q ?_ fu (i0, s) h0 (fu_gt (by show i0 ≤ _; omega))
  rintro n ⟨i, s⟩ h2
  cases i with
  | zero => exact Or.inl (stop n s h2)
  | succ i =>
    rcases step n i s h2 with h | ⟨s', h4, h5⟩
    · exact Or.inl h
    · exact Or.inr ⟨(i, s'), h4, h5, by show i < i + 1; omega⟩
theorem c_gaps68 (D : DXC g P rm bc sA sE sR al) (hN20 : N ≤ 20) {R R0 : Nat → Int} {M : Int} (hR : SMC N g R M) (hM : M ≤ 1000000000) {m : Nat} (hm : m < N) {fl : Int32} (hf : FLc R0 R fl) :
    ∃ r, f_X6_lowerByGaps_L68 fu 17 fl (nI m) g = some r ∧ Fr [24] [] g r.2 ∧ SMC N r.2 (rd BB (GB m) R) M ∧ FLc R0 (rd BB (GB m) R) r.1 := by
  refine forD (fun n v (p : Int32 × Hp) => f_X6_lowerByGaps_L68 n 17 p.1 v p.2) (fun i p => i < N ∧ ∃ R', rd BB (GB i) R' = rd BB (GB m) R ∧ Fr [24] [] g p.2 ∧ SMC N p.2 R' M ∧ FLc R0 R' p.1)
    (fun p => Fr [24] [] g p.2 ∧ SMC N p.2 (rd BB (GB m) R) M ∧ FLc R0 (rd BB (GB m) R) p.1) ?_ ?_ (i0 := m) (s := (fl, g)) (by omega) ⟨hm, R, rfl, Fr.rfl, hR, hf⟩
  · rintro n ⟨fl, g1⟩ ⟨-, R', I0, I1, I2, I3⟩
    simp only at I1 I2 I3
    refine ⟨(fl, g1), ?_, I1, ?_, ?_⟩
    · simp only [f_X6_lowerByGaps_L68.eq_2]
      rw [if_pos (by decide)]
    · rw [← I0]; exact I2
    · rw [← I0]; exact I3
  · rintro n i ⟨fl, g1⟩ ⟨h20, R', I0, I1, I2, I3⟩
    simp only at I1 I2 I3
    have F1 := I1.fx D.1
    have n1 : ¬ nI (i + 1) ≤ 0 := nI_nle (by omega) (by omega)
    have n2 : ¬ (20 : Int32) ≤ nI (i + 1) := by rw [L20, nI_leI (by omega) (by omega)]; omega
    obtain ⟨u1, u2, u3⟩ := I2 (i + 1) (by omega)
    have hz : (hi g1 24 (i + 1)).toInt = R' (i + 1) + 0 := by rw [u1]; omega
    have e : rd BB (GB (i + 1)) R' = rd BB (GB i) (rl BB R' (i + 1, i, 0)) := rfl
    right
    rcases low1 I2 (u := i + 1) (v := i) (M' := M) (by omega) (by omega) hz (Int.le_refl _) (by omega) with ⟨k1, k2, k3⟩ | ⟨k1, k2, k3, k4⟩
    · refine ⟨(fl, g1), ?_, by omega, R', ?_, I1, k3, I3⟩
      · simp only [f_X6_lowerByGaps_L68.eq_2]
        simp (disch := (first | assumption | (simp only [FX_si, FX_sj, FX_sr]; assumption) | omega | decide)) only [n1, n2, nI_pred, pk_m1, k1, ↓reduceIte, if_true, if_false, i10, i01, eq_self, bd_some, b1_some, b2_some, b3_some, b4_some, c1_eq, elim_inl, elim_inr, zok0, zok1, getQ_si, getQ_sj, getQ_sr, q8_0, q8_1, q8_2, q8_4, q8_7, q8_8, q8_9, q8_10, q8_11, q9_0, q9_3, q9_4, q9_8, q17_0, q17_1, q17_2, q17_4, q17_5, q17_6, q17_9, q17_10, q17_11, q27_4, q27_5, q27_6, q27_7, q27_8, q27_11, q45_0, q45_1, q45_11, q45_12, q45_13, q45_14, q45_15, q45_16, q45_17, q45_18, q45_19, q45_20, q45_21, q45_22, q45_23, q45_24, q45_30, q45_31, q45_32, q45_33, q45_34, q45_35, q45_36, q45_37, q45_38, q45_39, q45_43, q45_44, q45_45, q45_46, q45_47, q45_48, q45_52, q45_53, q45_54, q45_59, q45_60, q45_61, q45_62, q45_65, q45_67, q45_68, gi8, gj8, pi8, pz8, pj8, rc8, gi9, gj9, pi9, pz9, pj9, rc9, gi17, gj17, pi17, pz17, pj17, rc17, gi27, gj27, pi27, pz27, pj27, rc27, gi45, gj45, pi45, pz45, pj45, rc45, aln_si, aln_sj, aln_sq, rc_si, rc_sj, rc_sq, n0, n1, n10, n11, n12, n13, n14, n15, n16, n18, n19, n20, n21, n22, n23, n24, n25, n26, n29, n30, n31, n32, n33, n34, n35, n36, n37, n38, n39, n40, n42, n43, n44, n46, n47, n48, n49, n50, n51, n52, n53, n54, n55, n56, n57, n58, n59, n60, n61, n62, n63, n64, n65, n66, n67, n68, n69, n70, n71, n72, n73, n74, n75, n76, n77, n78, n79, n80, n81, n82, n83, n84, n85, n86, n87, r0, r1, r10, r11, r12, r13, r14, r15, r16, r18, r19, r20, r21, r22, r23, r24, r25, r26, r29, r30, r31, r32, r33, r34, r35, r36, r37, r38, r39, r40, r42, r43, r44, r46, r47, r48, r49, r50, r51, r52, r53, r54, r55, r56, r57, r58, r59, r60, r61, r62, r63, r64, r65, r66, r67, r68, r69, r70, r71, r72, r73, r74, r75, r76, r77, r78, r79, r80, r81, r82, r83, r84, r85, r86, r87, w10, w11, w12, w13, w18, w19, w20, w21, w22, w23, w24, w25, w26, w30, w31, w32, w33, w34, w35, w36, w38, w39, w40, w43, w44, w46, w47, w48, w49, w50, w51, w52, w53, w54, w55, w56, w57, w58, w59, w60, w61, w62, w63, w64, w65, w66, w67, w68, w69, w70, w71, w72, w73, w74, w75, w76, w77, w78, w79, w80, w81, w82, w83, w84, w85, w86, w87, hi_hit, hi_row, hi_col, hj_hit, hj_row, hj_col, hi_sj, hj_si, hq_si, hq_sj, hi_sq, hj_sq, hi_srh, hi_srm]
      · rw [← I0, e, k2]
    · refine ⟨(1, si g1 24 i (hi g1 24 (i + 1))), ?_, by omega, _, ?_, I1.trans (Fr.row (by decide)), k2, FLc_low I3 k3 k4⟩
      · simp only [f_X6_lowerByGaps_L68.eq_2]
        simp (disch := (first | assumption | (simp only [FX_si, FX_sj, FX_sr]; assumption) | omega | decide)) only [n1, n2, nI_pred, pk_m1, k1, ↓reduceIte, if_true, if_false, i10, i01, eq_self, bd_some, b1_some, b2_some, b3_some, b4_some, c1_eq, elim_inl, elim_inr, zok0, zok1, getQ_si, getQ_sj, getQ_sr, q8_0, q8_1, q8_2, q8_4, q8_7, q8_8, q8_9, q8_10, q8_11, q9_0, q9_3, q9_4, q9_8, q17_0, q17_1, q17_2, q17_4, q17_5, q17_6, q17_9, q17_10, q17_11, q27_4, q27_5, q27_6, q27_7, q27_8, q27_11, q45_0, q45_1, q45_11, q45_12, q45_13, q45_14, q45_15, q45_16, q45_17, q45_18, q45_19, q45_20, q45_21, q45_22, q45_23, q45_24, q45_30, q45_31, q45_32, q45_33, q45_34, q45_35, q45_36, q45_37, q45_38, q45_39, q45_43, q45_44, q45_45, q45_46, q45_47, q45_48, q45_52, q45_53, q45_54, q45_59, q45_60, q45_61, q45_62, q45_65, q45_67, q45_68, gi8, gj8, pi8, pz8, pj8, rc8, gi9, gj9, pi9, pz9, pj9, rc9, gi17, gj17, pi17, pz17, pj17, rc17, gi27, gj27, pi27, pz27, pj27, rc27, gi45, gj45, pi45, pz45, pj45, rc45, aln_si, aln_sj, aln_sq, rc_si, rc_sj, rc_sq, n0, n1, n10, n11, n12, n13, n14, n15, n16, n18, n19, n20, n21, n22, n23, n24, n25, n26, n29, n30, n31, n32, n33, n34, n35, n36, n37, n38, n39, n40, n42, n43, n44, n46, n47, n48, n49, n50, n51, n52, n53, n54, n55, n56, n57, n58, n59, n60, n61, n62, n63, n64, n65, n66, n67, n68, n69, n70, n71, n72, n73, n74, n75, n76, n77, n78, n79, n80, n81, n82, n83, n84, n85, n86, n87, r0, r1, r10, r11, r12, r13, r14, r15, r16, r18, r19, r20, r21, r22, r23, r24, r25, r26, r29, r30, r31, r32, r33, r34, r35, r36, r37, r38, r39, r40, r42, r43, r44, r46, r47, r48, r49, r50, r51, r52, r53, r54, r55, r56, r57, r58, r59, r60, r61, r62, r63, r64, r65, r66, r67, r68, r69, r70, r71, r72, r73, r74, r75, r76, r77, r78, r79, r80, r81, r82, r83, r84, r85, r86, r87, w10, w11, w12, w13, w18, w19, w20, w21, w22, w23, w24, w25, w26, w30, w31, w32, w33, w34, w35, w36, w38, w39, w40, w43, w44, w46, w47, w48, w49, w50, w51, w52, w53, w54, w55, w56, w57, w58, w59, w60, w61, w62, w63, w64, w65, w66, w67, w68, w69, w70, w71, w72, w73, w74, w75, w76, w77, w78, w79, w80, w81, w82, w83, w84, w85, w86, w87, hi_hit, hi_row, hi_col, hj_hit, hj_row, hj_col, hi_sj, hj_si, hq_si, hq_sj, hi_sq, hj_sq, hi_srh, hi_srm]
      · rw [← I0, e]
theorem FLc_01 {R0 R : Nat → Int} {fl : Int32} (h : FLc R0 R fl) : fl = 0 ∨ fl = 1 := h.elim (fun q => Or.inl q.1) (fun q => Or.inr q.1)
theorem zok01 {v : Int32} (h : v = 0 ∨ v = 1) : zok v = some () := by simp [zok, h]
theorem c_gaps (D : DXC g P rm bc sA sE sR al) (hPN : P ≤ N) (hN20 : N ≤ 20) {R : Nat → Int} {M : Int} (hR : SMC N g R M) (hM : M ≤ 1000000000) :
    ∃ x g', f_X6_lowerByGaps 17 g = some (x, g') ∧ Fr [24] [] g g' ∧ SMC N g' (rd BB (GE rm (P - 1) ++ GB (P - 1)) R) M ∧ FLc R (rd BB (GE rm (P - 1) ++ GB (P - 1)) R) x := by
  have hP20 := D.2.1
  have F0 := D.1
  have e8 := D.2.2.1
  rcases Nat.eq_zero_or_pos P with e | e
  · subst e
    refine ⟨0, g, ?_, Fr.rfl, hR, Or.inl ⟨rfl, rfl⟩⟩
    obtain ⟨N', hN'⟩ := fu_ex 1 (by omega)
    unfold f_X6_lowerByGaps
    rw [hN']
    simp only [f_X6_lowerByGaps_L4.eq_2, f_X6_lowerByGaps_L68.eq_2]
    simp (disch := (first | assumption | (simp only [FX_si, FX_sj, FX_sr]; assumption) | omega | decide)) only [e8, if_pos (by decide : nI 0 ≤ 1), if_pos (by decide : nI 0 - 1 ≤ 0), ↓reduceIte, if_true, if_false, i10, i01, eq_self, bd_some, b1_some, b2_some, b3_some, b4_some, c1_eq, elim_inl, elim_inr, zok0, zok1, getQ_si, getQ_sj, getQ_sr, q8_0, q8_1, q8_2, q8_4, q8_7, q8_8, q8_9, q8_10, q8_11, q9_0, q9_3, q9_4, q9_8, q17_0, q17_1, q17_2, q17_4, q17_5, q17_6, q17_9, q17_10, q17_11, q27_4, q27_5, q27_6, q27_7, q27_8, q27_11, q45_0, q45_1, q45_11, q45_12, q45_13, q45_14, q45_15, q45_16, q45_17, q45_18, q45_19, q45_20, q45_21, q45_22, q45_23, q45_24, q45_30, q45_31, q45_32, q45_33, q45_34, q45_35, q45_36, q45_37, q45_38, q45_39, q45_43, q45_44, q45_45, q45_46, q45_47, q45_48, q45_52, q45_53, q45_54, q45_59, q45_60, q45_61, q45_62, q45_65, q45_67, q45_68, gi8, gj8, pi8, pz8, pj8, rc8, gi9, gj9, pi9, pz9, pj9, rc9, gi17, gj17, pi17, pz17, pj17, rc17, gi27, gj27, pi27, pz27, pj27, rc27, gi45, gj45, pi45, pz45, pj45, rc45, aln_si, aln_sj, aln_sq, rc_si, rc_sj, rc_sq, n0, n1, n10, n11, n12, n13, n14, n15, n16, n18, n19, n20, n21, n22, n23, n24, n25, n26, n29, n30, n31, n32, n33, n34, n35, n36, n37, n38, n39, n40, n42, n43, n44, n46, n47, n48, n49, n50, n51, n52, n53, n54, n55, n56, n57, n58, n59, n60, n61, n62, n63, n64, n65, n66, n67, n68, n69, n70, n71, n72, n73, n74, n75, n76, n77, n78, n79, n80, n81, n82, n83, n84, n85, n86, n87, r0, r1, r10, r11, r12, r13, r14, r15, r16, r18, r19, r20, r21, r22, r23, r24, r25, r26, r29, r30, r31, r32, r33, r34, r35, r36, r37, r38, r39, r40, r42, r43, r44, r46, r47, r48, r49, r50, r51, r52, r53, r54, r55, r56, r57, r58, r59, r60, r61, r62, r63, r64, r65, r66, r67, r68, r69, r70, r71, r72, r73, r74, r75, r76, r77, r78, r79, r80, r81, r82, r83, r84, r85, r86, r87, w10, w11, w12, w13, w18, w19, w20, w21, w22, w23, w24, w25, w26, w30, w31, w32, w33, w34, w35, w36, w38, w39, w40, w43, w44, w46, w47, w48, w49, w50, w51, w52, w53, w54, w55, w56, w57, w58, w59, w60, w61, w62, w63, w64, w65, w66, w67, w68, w69, w70, w71, w72, w73, w74, w75, w76, w77, w78, w79, w80, w81, w82, w83, w84, w85, w86, w87, hi_hit, hi_row, hi_col, hj_hit, hj_row, hj_col, hi_sj, hj_si, hq_si, hq_sj, hi_sq, hj_sq, hi_srh, hi_srm]
  · obtain ⟨⟨fl, g1⟩, a1, a2, a3, a4⟩ := c_gaps4 D hPN hR hM e
    simp only at a2 a3 a4
    have D1 := D.fr a2 (by decide) (by decide)
    have F1 := D1.1
    obtain ⟨⟨fl2, g2⟩, b1', b2', b3', b4'⟩ := c_gaps68 D1 hN20 a3 hM (m := P - 1) (by omega) a4
    simp only at b2' b3' b4'
    have z := zok01 (FLc_01 b4')
    have e1 : nI P - 1 = nI (P - 1) := by
      obtain ⟨p, rfl⟩ : ∃ p, P = p + 1 := ⟨P - 1, by omega⟩
      rw [nI_pred]; rfl
    refine ⟨fl2, g2, ?_, a2.trans b2', ?_, ?_⟩
    · unfold f_X6_lowerByGaps
      rw [a1, b1_some]
      simp (disch := (first | assumption | (simp only [FX_si, FX_sj, FX_sr]; assumption) | omega | decide)) only [D1.2.2.1, e1, b1', z, ↓reduceIte, if_true, if_false, i10, i01, eq_self, bd_some, b1_some, b2_some, b3_some, b4_some, c1_eq, elim_inl, elim_inr, zok0, zok1, getQ_si, getQ_sj, getQ_sr, q8_0, q8_1, q8_2, q8_4, q8_7, q8_8, q8_9, q8_10, q8_11, q9_0, q9_3, q9_4, q9_8, q17_0, q17_1, q17_2, q17_4, q17_5, q17_6, q17_9, q17_10, q17_11, q27_4, q27_5, q27_6, q27_7, q27_8, q27_11, q45_0, q45_1, q45_11, q45_12, q45_13, q45_14, q45_15, q45_16, q45_17, q45_18, q45_19, q45_20, q45_21, q45_22, q45_23, q45_24, q45_30, q45_31, q45_32, q45_33, q45_34, q45_35, q45_36, q45_37, q45_38, q45_39, q45_43, q45_44, q45_45, q45_46, q45_47, q45_48, q45_52, q45_53, q45_54, q45_59, q45_60, q45_61, q45_62, q45_65, q45_67, q45_68, gi8, gj8, pi8, pz8, pj8, rc8, gi9, gj9, pi9, pz9, pj9, rc9, gi17, gj17, pi17, pz17, pj17, rc17, gi27, gj27, pi27, pz27, pj27, rc27, gi45, gj45, pi45, pz45, pj45, rc45, aln_si, aln_sj, aln_sq, rc_si, rc_sj, rc_sq, n0, n1, n10, n11, n12, n13, n14, n15, n16, n18, n19, n20, n21, n22, n23, n24, n25, n26, n29, n30, n31, n32, n33, n34, n35, n36, n37, n38, n39, n40, n42, n43, n44, n46, n47, n48, n49, n50, n51, n52, n53, n54, n55, n56, n57, n58, n59, n60, n61, n62, n63, n64, n65, n66, n67, n68, n69, n70, n71, n72, n73, n74, n75, n76, n77, n78, n79, n80, n81, n82, n83, n84, n85, n86, n87, r0, r1, r10, r11, r12, r13, r14, r15, r16, r18, r19, r20, r21, r22, r23, r24, r25, r26, r29, r30, r31, r32, r33, r34, r35, r36, r37, r38, r39, r40, r42, r43, r44, r46, r47, r48, r49, r50, r51, r52, r53, r54, r55, r56, r57, r58, r59, r60, r61, r62, r63, r64, r65, r66, r67, r68, r69, r70, r71, r72, r73, r74, r75, r76, r77, r78, r79, r80, r81, r82, r83, r84, r85, r86, r87, w10, w11, w12, w13, w18, w19, w20, w21, w22, w23, w24, w25, w26, w30, w31, w32, w33, w34, w35, w36, w38, w39, w40, w43, w44, w46, w47, w48, w49, w50, w51, w52, w53, w54, w55, w56, w57, w58, w59, w60, w61, w62, w63, w64, w65, w66, w67, w68, w69, w70, w71, w72, w73, w74, w75, w76, w77, w78, w79, w80, w81, w82, w83, w84, w85, w86, w87, hi_hit, hi_row, hi_col, hj_hit, hj_row, hj_col, hi_sj, hj_si, hq_si, hq_sj, hi_sq, hj_sq, hi_srh, hi_srm]
    · rw [rd_app]; exact b3'
    · rw [rd_app]; exact b4'
theorem c_banks4 (D : DXC g P rm bc sA sE sR al) (hPN : P ≤ N) {s : Nat} (hs : s < 2 ^ 31) {R : Nat → Int} {M : Int} (hR : SMC N g R M) (hM : M ≤ 1000000000) (hM0 : 0 ≤ M) :
    ∃ r, f_X6_lowerByBanks_L4 fu 17 (nI s) 0 0 g = some r ∧ Fr [24] [] g r.2 ∧ SMC N r.2 (rd BB (BE sA sE sR (btB s) bc) R) (M + 124000000) ∧ FLc R (rd BB (BE sA sE sR (btB s) bc) R) r.1 := by
  have hP20 := D.2.1
  have hbc := D.2.2.2.2.2.2.1
  refine forN (fun n v (p : Int32 × Hp) => f_X6_lowerByBanks_L4 n 17 (nI s) p.1 v p.2) bc (by omega) (fun b p => Fr [24] [] g p.2 ∧ SMC N p.2 (rd BB (BE sA sE sR (btB s) b) R) (M + 12400000 * b) ∧ FLc R (rd BB (BE sA sE sR (btB s) b) R) p.1)
    (fun p => Fr [24] [] g p.2 ∧ SMC N p.2 (rd BB (BE sA sE sR (btB s) bc) R) (M + 124000000) ∧ FLc R (rd BB (BE sA sE sR (btB s) bc) R) p.1) ?_ ?_ (i0 := 0) (s := (0, g)) (Nat.zero_le _) ⟨Fr.rfl, fun j hj => by have := hR j hj; exact ⟨this.1, by have h2 := this.2.1; show _ ≤ R j; omega, this.2.2⟩, Or.inl ⟨rfl, rfl⟩⟩
  · rintro n ⟨fl, g1⟩ ⟨I1, I2, I3⟩
    simp only at I1 I2 I3
    have D1 := D.fr I1 (by decide) (by decide)
    have F1 := D1.1
    refine ⟨(fl, g1), ?_, I1, fun j hj => ?_, I3⟩
    · simp only [f_X6_lowerByBanks_L4.eq_2]
      simp (disch := (first | assumption | (simp only [FX_si, FX_sj, FX_sr]; assumption) | omega | decide)) only [D1.2.2.2.2.2.2.2.1, ↓reduceIte, if_true, if_false, i10, i01, eq_self, bd_some, b1_some, b2_some, b3_some, b4_some, c1_eq, elim_inl, elim_inr, zok0, zok1, getQ_si, getQ_sj, getQ_sr, q8_0, q8_1, q8_2, q8_4, q8_7, q8_8, q8_9, q8_10, q8_11, q9_0, q9_3, q9_4, q9_8, q17_0, q17_1, q17_2, q17_4, q17_5, q17_6, q17_9, q17_10, q17_11, q27_4, q27_5, q27_6, q27_7, q27_8, q27_11, q45_0, q45_1, q45_11, q45_12, q45_13, q45_14, q45_15, q45_16, q45_17, q45_18, q45_19, q45_20, q45_21, q45_22, q45_23, q45_24, q45_30, q45_31, q45_32, q45_33, q45_34, q45_35, q45_36, q45_37, q45_38, q45_39, q45_43, q45_44, q45_45, q45_46, q45_47, q45_48, q45_52, q45_53, q45_54, q45_59, q45_60, q45_61, q45_62, q45_65, q45_67, q45_68, gi8, gj8, pi8, pz8, pj8, rc8, gi9, gj9, pi9, pz9, pj9, rc9, gi17, gj17, pi17, pz17, pj17, rc17, gi27, gj27, pi27, pz27, pj27, rc27, gi45, gj45, pi45, pz45, pj45, rc45, aln_si, aln_sj, aln_sq, rc_si, rc_sj, rc_sq, n0, n1, n10, n11, n12, n13, n14, n15, n16, n18, n19, n20, n21, n22, n23, n24, n25, n26, n29, n30, n31, n32, n33, n34, n35, n36, n37, n38, n39, n40, n42, n43, n44, n46, n47, n48, n49, n50, n51, n52, n53, n54, n55, n56, n57, n58, n59, n60, n61, n62, n63, n64, n65, n66, n67, n68, n69, n70, n71, n72, n73, n74, n75, n76, n77, n78, n79, n80, n81, n82, n83, n84, n85, n86, n87, r0, r1, r10, r11, r12, r13, r14, r15, r16, r18, r19, r20, r21, r22, r23, r24, r25, r26, r29, r30, r31, r32, r33, r34, r35, r36, r37, r38, r39, r40, r42, r43, r44, r46, r47, r48, r49, r50, r51, r52, r53, r54, r55, r56, r57, r58, r59, r60, r61, r62, r63, r64, r65, r66, r67, r68, r69, r70, r71, r72, r73, r74, r75, r76, r77, r78, r79, r80, r81, r82, r83, r84, r85, r86, r87, w10, w11, w12, w13, w18, w19, w20, w21, w22, w23, w24, w25, w26, w30, w31, w32, w33, w34, w35, w36, w38, w39, w40, w43, w44, w46, w47, w48, w49, w50, w51, w52, w53, w54, w55, w56, w57, w58, w59, w60, w61, w62, w63, w64, w65, w66, w67, w68, w69, w70, w71, w72, w73, w74, w75, w76, w77, w78, w79, w80, w81, w82, w83, w84, w85, w86, w87, hi_hit, hi_row, hi_col, hj_hit, hj_row, hj_col, hi_sj, hj_si, hq_si, hq_sj, hi_sq, hj_sq, hi_srh, hi_srm]
      rw [if_pos (Int32.le_refl _)]
    · have := I2 j hj
      exact ⟨this.1, by omega, this.2.2⟩
  · rintro n b ⟨fl, g1⟩ hb ⟨I1, I2, I3⟩
    simp only at I1 I2 I3
    have D1 := D.fr I1 (by decide) (by decide)
    have F1 := D1.1
    have e3 := D1.2.2.2.2.2.2.2.1
    have n1 : ¬ nI bc ≤ nI b := by rw [nI_leI (by omega) (by omega)]; omega
    have n2 : ¬ nI 10 ≤ nI b := by rw [nI_leI (by omega) (by omega)]; omega
    have hb10 : b < 10 := by omega
    have eb := bit_of hs (show b < 32 by omega)
    obtain ⟨q1, q2, q3, q4, q5, q6, q7⟩ := D1.2.2.2.2.2.2.2.2.2.1 b hb
    have hA20 : sA b < 20 := by omega
    have hE20 : sE b < 20 := by omega
    have m1 : ¬ nI (sA b) < 0 := nI_pos (by omega)
    have m2 : ¬ nI (sE b) < 0 := nI_pos (by omega)
    have m3 : ¬ nI 20 ≤ nI (sA b) := by rw [nI_leI (by omega) (by omega)]; omega
    have m4 : ¬ nI 20 ≤ nI (sE b) := by rw [nI_leI (by omega) (by omega)]; omega
    have hb2 : (b : Int) ≤ 10 := by omega
    right
    cases ho : btB s b with
    | true =>
      have ho' : bt1 s b = 1 := of_decide_eq_true ho
      refine ⟨(fl, g1), ?_, I1, ?_, ?_⟩
      · simp only [f_X6_lowerByBanks_L4.eq_2]
        simp (disch := (first | assumption | (simp only [FX_si, FX_sj, FX_sr]; assumption) | omega | decide)) only [e3, n1, n2, q1, q2, m1, m2, m3, m4, eb, ho', nI_1, (by decide : (nI 1 = 0) = False), ↓reduceIte, if_true, if_false, i10, i01, eq_self, bd_some, b1_some, b2_some, b3_some, b4_some, c1_eq, elim_inl, elim_inr, zok0, zok1, getQ_si, getQ_sj, getQ_sr, q8_0, q8_1, q8_2, q8_4, q8_7, q8_8, q8_9, q8_10, q8_11, q9_0, q9_3, q9_4, q9_8, q17_0, q17_1, q17_2, q17_4, q17_5, q17_6, q17_9, q17_10, q17_11, q27_4, q27_5, q27_6, q27_7, q27_8, q27_11, q45_0, q45_1, q45_11, q45_12, q45_13, q45_14, q45_15, q45_16, q45_17, q45_18, q45_19, q45_20, q45_21, q45_22, q45_23, q45_24, q45_30, q45_31, q45_32, q45_33, q45_34, q45_35, q45_36, q45_37, q45_38, q45_39, q45_43, q45_44, q45_45, q45_46, q45_47, q45_48, q45_52, q45_53, q45_54, q45_59, q45_60, q45_61, q45_62, q45_65, q45_67, q45_68, gi8, gj8, pi8, pz8, pj8, rc8, gi9, gj9, pi9, pz9, pj9, rc9, gi17, gj17, pi17, pz17, pj17, rc17, gi27, gj27, pi27, pz27, pj27, rc27, gi45, gj45, pi45, pz45, pj45, rc45, aln_si, aln_sj, aln_sq, rc_si, rc_sj, rc_sq, n0, n1, n10, n11, n12, n13, n14, n15, n16, n18, n19, n20, n21, n22, n23, n24, n25, n26, n29, n30, n31, n32, n33, n34, n35, n36, n37, n38, n39, n40, n42, n43, n44, n46, n47, n48, n49, n50, n51, n52, n53, n54, n55, n56, n57, n58, n59, n60, n61, n62, n63, n64, n65, n66, n67, n68, n69, n70, n71, n72, n73, n74, n75, n76, n77, n78, n79, n80, n81, n82, n83, n84, n85, n86, n87, r0, r1, r10, r11, r12, r13, r14, r15, r16, r18, r19, r20, r21, r22, r23, r24, r25, r26, r29, r30, r31, r32, r33, r34, r35, r36, r37, r38, r39, r40, r42, r43, r44, r46, r47, r48, r49, r50, r51, r52, r53, r54, r55, r56, r57, r58, r59, r60, r61, r62, r63, r64, r65, r66, r67, r68, r69, r70, r71, r72, r73, r74, r75, r76, r77, r78, r79, r80, r81, r82, r83, r84, r85, r86, r87, w10, w11, w12, w13, w18, w19, w20, w21, w22, w23, w24, w25, w26, w30, w31, w32, w33, w34, w35, w36, w38, w39, w40, w43, w44, w46, w47, w48, w49, w50, w51, w52, w53, w54, w55, w56, w57, w58, w59, w60, w61, w62, w63, w64, w65, w66, w67, w68, w69, w70, w71, w72, w73, w74, w75, w76, w77, w78, w79, w80, w81, w82, w83, w84, w85, w86, w87, hi_hit, hi_row, hi_col, hj_hit, hj_row, hj_col, hi_sj, hj_si, hq_si, hq_sj, hi_sq, hj_sq, hi_srh, hi_srm]
      · rw [BE, ho, if_pos rfl, List.append_nil]
        intro j hj
        have := I2 j hj
        exact ⟨this.1, by omega, this.2.2⟩
      · rw [BE, ho, if_pos rfl, List.append_nil]
        exact I3
    | false =>
      have ho' : bt1 s b = 0 := by
        have := of_decide_eq_false ho
        have h2 : bt1 s b < 2 := Nat.mod_lt _ (by omega)
        omega
      obtain ⟨u1, u2, u3⟩ := I2 (sA b) (by omega)
      have hz : (hi g1 24 (sA b) + hi g1 20 b).toInt = rd BB (BE sA sE sR (btB s) b) R (sA b) + sR b := by rw [i_add (by omega) (by omega), u1, q3]
      have step : f_X6_lowerByBanks_L4 (n + 1) 17 (nI s) fl (nI b) g1 = b1 (b1 (if hi g1 24 (sE b) ≤ hi g1 24 (sA b) + hi g1 20 b then some (fl, g1) else some (1, si g1 24 (sE b) (hi g1 24 (sA b) + hi g1 20 b)) : Option (Int32 × Hp)) (fun w148 h149 =>
          if hi h149 24 (sA b) ≤ hi h149 24 (sE b) - hi g1 20 b then some (w148, h149) else some (1, si h149 24 (sA b) (hi h149 24 (sE b) - hi g1 20 b)))) (fun w176 h177 => f_X6_lowerByBanks_L4 n 17 (nI s) w176 (nI (b + 1)) h177) := by
        rw [f_X6_lowerByBanks_L4.eq_2]
        by_cases c : hi g1 24 (sE b) ≤ hi g1 24 (sA b) + hi g1 20 b
        · simp (disch := (first | assumption | (simp only [FX_si, FX_sj, FX_sr]; assumption) | omega | decide)) only [e3, n1, n2, q1, q2, m1, m2, m3, m4, eb, ho', nI_1, nI_0, c, ↓reduceIte, if_true, if_false, i10, i01, eq_self, bd_some, b1_some, b2_some, b3_some, b4_some, c1_eq, elim_inl, elim_inr, zok0, zok1, getQ_si, getQ_sj, getQ_sr, q8_0, q8_1, q8_2, q8_4, q8_7, q8_8, q8_9, q8_10, q8_11, q9_0, q9_3, q9_4, q9_8, q17_0, q17_1, q17_2, q17_4, q17_5, q17_6, q17_9, q17_10, q17_11, q27_4, q27_5, q27_6, q27_7, q27_8, q27_11, q45_0, q45_1, q45_11, q45_12, q45_13, q45_14, q45_15, q45_16, q45_17, q45_18, q45_19, q45_20, q45_21, q45_22, q45_23, q45_24, q45_30, q45_31, q45_32, q45_33, q45_34, q45_35, q45_36, q45_37, q45_38, q45_39, q45_43, q45_44, q45_45, q45_46, q45_47, q45_48, q45_52, q45_53, q45_54, q45_59, q45_60, q45_61, q45_62, q45_65, q45_67, q45_68, gi8, gj8, pi8, pz8, pj8, rc8, gi9, gj9, pi9, pz9, pj9, rc9, gi17, gj17, pi17, pz17, pj17, rc17, gi27, gj27, pi27, pz27, pj27, rc27, gi45, gj45, pi45, pz45, pj45, rc45, aln_si, aln_sj, aln_sq, rc_si, rc_sj, rc_sq, n0, n1, n10, n11, n12, n13, n14, n15, n16, n18, n19, n20, n21, n22, n23, n24, n25, n26, n29, n30, n31, n32, n33, n34, n35, n36, n37, n38, n39, n40, n42, n43, n44, n46, n47, n48, n49, n50, n51, n52, n53, n54, n55, n56, n57, n58, n59, n60, n61, n62, n63, n64, n65, n66, n67, n68, n69, n70, n71, n72, n73, n74, n75, n76, n77, n78, n79, n80, n81, n82, n83, n84, n85, n86, n87, r0, r1, r10, r11, r12, r13, r14, r15, r16, r18, r19, r20, r21, r22, r23, r24, r25, r26, r29, r30, r31, r32, r33, r34, r35, r36, r37, r38, r39, r40, r42, r43, r44, r46, r47, r48, r49, r50, r51, r52, r53, r54, r55, r56, r57, r58, r59, r60, r61, r62, r63, r64, r65, r66, r67, r68, r69, r70, r71, r72, r73, r74, r75, r76, r77, r78, r79, r80, r81, r82, r83, r84, r85, r86, r87, w10, w11, w12, w13, w18, w19, w20, w21, w22, w23, w24, w25, w26, w30, w31, w32, w33, w34, w35, w36, w38, w39, w40, w43, w44, w46, w47, w48, w49, w50, w51, w52, w53, w54, w55, w56, w57, w58, w59, w60, w61, w62, w63, w64, w65, w66, w67, w68, w69, w70, w71, w72, w73, w74, w75, w76, w77, w78, w79, w80, w81, w82, w83, w84, w85, w86, w87, hi_hit, hi_row, hi_col, hj_hit, hj_row, hj_col, hi_sj, hj_si, hq_si, hq_sj, hi_sq, hj_sq, hi_srh, hi_srm]
        · simp (disch := (first | assumption | (simp only [FX_si, FX_sj, FX_sr]; assumption) | omega | decide)) only [e3, n1, n2, q1, q2, m1, m2, m3, m4, eb, ho', nI_1, nI_0, c, ↓reduceIte, if_true, if_false, i10, i01, eq_self, bd_some, b1_some, b2_some, b3_some, b4_some, c1_eq, elim_inl, elim_inr, zok0, zok1, getQ_si, getQ_sj, getQ_sr, q8_0, q8_1, q8_2, q8_4, q8_7, q8_8, q8_9, q8_10, q8_11, q9_0, q9_3, q9_4, q9_8, q17_0, q17_1, q17_2, q17_4, q17_5, q17_6, q17_9, q17_10, q17_11, q27_4, q27_5, q27_6, q27_7, q27_8, q27_11, q45_0, q45_1, q45_11, q45_12, q45_13, q45_14, q45_15, q45_16, q45_17, q45_18, q45_19, q45_20, q45_21, q45_22, q45_23, q45_24, q45_30, q45_31, q45_32, q45_33, q45_34, q45_35, q45_36, q45_37, q45_38, q45_39, q45_43, q45_44, q45_45, q45_46, q45_47, q45_48, q45_52, q45_53, q45_54, q45_59, q45_60, q45_61, q45_62, q45_65, q45_67, q45_68, gi8, gj8, pi8, pz8, pj8, rc8, gi9, gj9, pi9, pz9, pj9, rc9, gi17, gj17, pi17, pz17, pj17, rc17, gi27, gj27, pi27, pz27, pj27, rc27, gi45, gj45, pi45, pz45, pj45, rc45, aln_si, aln_sj, aln_sq, rc_si, rc_sj, rc_sq, n0, n1, n10, n11, n12, n13, n14, n15, n16, n18, n19, n20, n21, n22, n23, n24, n25, n26, n29, n30, n31, n32, n33, n34, n35, n36, n37, n38, n39, n40, n42, n43, n44, n46, n47, n48, n49, n50, n51, n52, n53, n54, n55, n56, n57, n58, n59, n60, n61, n62, n63, n64, n65, n66, n67, n68, n69, n70, n71, n72, n73, n74, n75, n76, n77, n78, n79, n80, n81, n82, n83, n84, n85, n86, n87, r0, r1, r10, r11, r12, r13, r14, r15, r16, r18, r19, r20, r21, r22, r23, r24, r25, r26, r29, r30, r31, r32, r33, r34, r35, r36, r37, r38, r39, r40, r42, r43, r44, r46, r47, r48, r49, r50, r51, r52, r53, r54, r55, r56, r57, r58, r59, r60, r61, r62, r63, r64, r65, r66, r67, r68, r69, r70, r71, r72, r73, r74, r75, r76, r77, r78, r79, r80, r81, r82, r83, r84, r85, r86, r87, w10, w11, w12, w13, w18, w19, w20, w21, w22, w23, w24, w25, w26, w30, w31, w32, w33, w34, w35, w36, w38, w39, w40, w43, w44, w46, w47, w48, w49, w50, w51, w52, w53, w54, w55, w56, w57, w58, w59, w60, w61, w62, w63, w64, w65, w66, w67, w68, w69, w70, w71, w72, w73, w74, w75, w76, w77, w78, w79, w80, w81, w82, w83, w84, w85, w86, w87, hi_hit, hi_row, hi_col, hj_hit, hj_row, hj_col, hi_sj, hj_si, hq_si, hq_sj, hi_sq, hj_sq, hi_srh, hi_srm]
      have two : ∀ (fl' : Int32) (g' : Hp) (R' : Nat → Int), Fr [24] [] g g' → hi g' 20 b = hi g1 20 b → SMC N g' R' (M + 12400000 * b + 6200000) → FLc R R' fl' →
          ∃ p : Int32 × Hp, (if hi g' 24 (sA b) ≤ hi g' 24 (sE b) - hi g1 20 b then some (fl', g') else some (1, si g' 24 (sA b) (hi g' 24 (sE b) - hi g1 20 b)) : Option (Int32 × Hp)) = some p ∧ Fr [24] [] g p.2 ∧ SMC N p.2 (rl BB R' (sE b, sA b, -sR b)) (M + 12400000 * (b + 1 : Nat)) ∧ FLc R (rl BB R' (sE b, sA b, -sR b)) p.1 := by
        intro fl' g' R' fr' e20 S' L'
        obtain ⟨v1, v2, v3⟩ := S' (sE b) (by omega)
        have hz2 : (hi g' 24 (sE b) - hi g1 20 b).toInt = R' (sE b) + -sR b := by rw [i_sub (by omega) (by omega), v1, q3]; omega
        rcases low1 S' (u := sE b) (v := sA b) (M' := M + 12400000 * (b + 1 : Nat)) (by omega) (by omega) hz2 (by omega) (by omega) with ⟨k1, k2, k3⟩ | ⟨k1, k2, k3, k4⟩
        · exact ⟨(fl', g'), by rw [if_pos k1], fr', by rw [k2]; exact k3, by rw [k2]; exact L'⟩
        · exact ⟨(1, si g' 24 (sA b) (hi g' 24 (sE b) - hi g1 20 b)), by rw [if_neg k1], fr'.trans (Fr.row (by decide)), k2, FLc_low L' k3 k4⟩
      have e : rd BB (BE sA sE sR (btB s) (b + 1)) R = rl BB (rl BB (rd BB (BE sA sE sR (btB s) b) R) (sA b, sE b, sR b)) (sE b, sA b, -sR b) := by
        rw [BE, ho, if_neg (by decide), rd_app, rd_two]
      have one : ∃ p : Int32 × Hp, (if hi g1 24 (sE b) ≤ hi g1 24 (sA b) + hi g1 20 b then some (fl, g1) else some (1, si g1 24 (sE b) (hi g1 24 (sA b) + hi g1 20 b)) : Option (Int32 × Hp)) = some p ∧ Fr [24] [] g p.2 ∧ hi p.2 20 b = hi g1 20 b ∧ SMC N p.2 (rl BB (rd BB (BE sA sE sR (btB s) b) R) (sA b, sE b, sR b)) (M + 12400000 * b + 6200000) ∧ FLc R (rl BB (rd BB (BE sA sE sR (btB s) b) R) (sA b, sE b, sR b)) p.1 := by
        rcases low1 I2 (u := sA b) (v := sE b) (M' := M + 12400000 * b + 6200000) (by omega) (by omega) hz (by omega) (by omega) with ⟨k1, k2, k3⟩ | ⟨k1, k2, k3, k4⟩
        · exact ⟨(fl, g1), by rw [if_pos k1], I1, rfl, by rw [k2]; exact k3, by rw [k2]; exact I3⟩
        · exact ⟨(1, si g1 24 (sE b) (hi g1 24 (sA b) + hi g1 20 b)), by rw [if_neg k1], I1.trans (Fr.row (by decide)), hi_row _ _ _ (by decide), k2, FLc_low I3 k3 k4⟩
      obtain ⟨p, o1, o2, o3, o4, o5⟩ := one
      obtain ⟨p2, t1, t2, t3, t4⟩ := two p.1 p.2 _ o2 o3 o4 o5
      refine ⟨p2, ?_, t2, ?_, ?_⟩
      · simp only [step, o1]
        show b1 (if hi p.2 24 (sA b) ≤ hi p.2 24 (sE b) - hi g1 20 b then some (p.1, p.2) else some (1, si p.2 24 (sA b) (hi p.2 24 (sE b) - hi g1 20 b))) _ = _
        rw [t1]
        rfl
      · rw [e]; exact t3
      · rw [e]; exact t4
theorem c_banks (D : DXC g P rm bc sA sE sR al) (hPN : P ≤ N) {s : Nat} (hs : s < 2 ^ 31) {R : Nat → Int} {M : Int} (hR : SMC N g R M) (hM : M ≤ 1000000000) (hM0 : 0 ≤ M) :
    ∃ x g', f_X6_lowerByBanks 17 (nI s) g = some (x, g') ∧ Fr [24] [] g g' ∧ SMC N g' (rd BB (BE sA sE sR (btB s) bc) R) (M + 124000000) ∧ FLc R (rd BB (BE sA sE sR (btB s) bc) R) x := by
  obtain ⟨⟨x, g'⟩, a1, a2, a3, a4⟩ := c_banks4 D hPN hs hR hM hM0
  refine ⟨x, g', ?_, a2, a3, a4⟩
  unfold f_X6_lowerByBanks
  rw [a1, b1_some, zok01 (FLc_01 a4), bd_some]
end Cs
