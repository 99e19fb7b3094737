/-! The class reads a line: counts. -/
def KB (b : Nat) (h g : Hp) : Prop := (∃ t, g.1 = h.1 ++ t) ∧ ∀ a k, b ≤ a → a < h.1.length → hi g a k = hi h a k ∧ hq g a k = hq h a k
def BQx : List (Nat × Nat) := [(9, 6), (9, 7), (9, 9), (9, 10), (9, 11), (9, 12), (9, 13)]
/-- what reading an act at b leaves: all cells below b but the reader's fields and its steps -/
def CFb (b : Nat) (h g : Hp) : Prop := (∃ t, g.1 = h.1 ++ t) ∧ (∀ a k, a < b → a ≠ 13 → (a, k) ∉ BQx → hi g a k = hi h a k) ∧ ∀ a k, a < b → hq g a k = hq h a k
theorem gr_len {h g : Hp} (a : ∃ t, g.1 = h.1 ++ t) : h.1.length ≤ g.1.length := by
  obtain ⟨t, e⟩ := a
  rw [e, List.length_append]
  omega
theorem gr_trans {h g k : Hp} (a : ∃ t, g.1 = h.1 ++ t) (b : ∃ t, k.1 = g.1 ++ t) : ∃ t, k.1 = h.1 ++ t := by
  obtain ⟨t, e⟩ := a
  obtain ⟨t', e'⟩ := b
  exact ⟨t ++ t', by rw [e', e, List.append_assoc]⟩
theorem gr_hk {h g : Hp} (a : ∃ t, g.1 = h.1 ++ t) {x : Nat} {y : Nat × Nat} (e : hk h x = some y) : hk g x = some y := by
  obtain ⟨t, et⟩ := a
  exact hk_grow et e
theorem KB.trans {b : Nat} {h g k : Hp} (p : KB b h g) (q : KB b g k) : KB b h k := by
  have l := gr_len p.1
  exact ⟨gr_trans p.1 q.1, fun a j hb ha => ⟨(q.2 a j hb (by omega)).1.trans (p.2 a j hb ha).1, (q.2 a j hb (by omega)).2.trans (p.2 a j hb ha).2⟩⟩
theorem CFb.refl {b : Nat} {h : Hp} : CFb b h h := ⟨⟨[], (List.append_nil _).symm⟩, fun _ _ _ _ _ => rfl, fun _ _ _ => rfl⟩
theorem CFb.trans {b : Nat} {h g k : Hp} (p : CFb b h g) (q : CFb b g k) : CFb b h k :=
  ⟨gr_trans p.1 q.1, fun a j hb h1 h2 => (q.2.1 a j hb h1 h2).trans (p.2.1 a j hb h1 h2), fun a j hb => (q.2.2 a j hb).trans (p.2.2 a j hb)⟩
theorem CFm.kb {b : Nat} {h g : Hp} (f : CFm h g) (hb : 88 ≤ b) : KB b h g := ⟨f.1, fun a k h1 h2 => ⟨f.2.1 a k h2 (by omega) (fun z => by
  unfold BR at z
  simp at z
  omega), f.2.2 a k h2⟩⟩
theorem CFm.cfb {b : Nat} {h g : Hp} (f : CFm h g) (hb : b ≤ h.1.length) : CFb b h g := ⟨f.1, fun a k h1 h2 h3 => f.2.1 a k (by omega) h2 (fun z => h3 (by
  unfold BR at z
  unfold BQx
  simp at z ⊢
  omega)), fun a k h1 => f.2.2 a k (by omega)⟩
theorem CFb.fx {b : Nat} {h g : Hp} (f : CFb b h g) (X : FX h) (hb : 88 ≤ b) : FX g := by
  obtain ⟨t, et⟩ := f.1
  refine ⟨?_, fun p hp => ?_⟩
  · obtain ⟨L, hL, t0, e0⟩ := X.1
    exact ⟨L, hL, t0 ++ t, by rw [et, e0, List.append_assoc]⟩
  · have lt : p.1 < 88 := by
      have : ∀ p ∈ rfT, p.1 < 88 := by decide
      exact this p hp
    rw [f.2.2 _ _ (by omega)]
    exact X.2 p hp
/-- an act being written: its object, its rules' array, (no steps), its numbers -/
def CX (h : Hp) (b : Nat) (A : Ac) : Prop := hk h b = some (0, 0) ∧ hk h (b + 1) = some (15, 10) ∧ hk h (b + 3) = some (10, 7) ∧ hq h b 0 = some (b + 1) ∧ hq h b 4 = some (b + 3) ∧ hi h b 1 = nI A.2.2.1.length ∧ (∀ n, n < 7 → hi h (b + 3) n = A.1 n) ∧ (∀ l (hl : l < A.2.2.1.length), CR (fun x => b + 3 < x) h (b + 1) l A.2.2.1[l]) ∧ CE (fun x => b + 3 < x) h b A.2.2.2
theorem CCx.kb {b cb : Nat} {h g : Hp} {C : List Nat} (c : CCx h cb C) (hb : b ≤ cb) (f : KB b h g) : CCx g cb C := ⟨gr_hk f.1 c.1, fun j hj => (f.2 cb j hb (lt_of_hk c.1)).1.trans (c.2 j hj)⟩
theorem CR.kb {b l : Nat} {h g : Hp} {r : Rl} (c : CR (fun x => b + 3 < x) h (b + 1) l r) (k : hk h (b + 1) = some (15, 10)) (f : KB b h g) : CR (fun x => b + 3 < x) g (b + 1) l r := by
  obtain ⟨q, cb, (p1 : b + 3 < q), p2, p3, p4, p5, p6, (p7 : b + 3 < cb), p8⟩ := c
  have lq := lt_of_hk p3
  exact ⟨q, cb, p1, (f.2 _ _ (by omega) (lt_of_hk k)).2.trans p2, gr_hk f.1 p3, (f.2 _ _ (by omega) lq).1.trans p4, (f.2 _ _ (by omega) lq).1.trans p5, (f.2 _ _ (by omega) lq).2.trans p6, p7, p8.kb (by omega) f⟩
theorem CE.kb {b : Nat} {h g : Hp} {e : Option (List Nat)} (c : CE (fun x => b + 3 < x) h b e) (k : hk h b = some (0, 0)) (f : KB b h g) : CE (fun x => b + 3 < x) g b e := by
  cases e with
  | none => exact (f.2 _ _ (Nat.le_refl _) (lt_of_hk k)).1.trans c
  | some C =>
    obtain ⟨q1, eb, q2, (q3 : b + 3 < eb), q4⟩ := c
    exact ⟨(f.2 _ _ (Nat.le_refl _) (lt_of_hk k)).1.trans q1, eb, (f.2 _ _ (Nat.le_refl _) (lt_of_hk k)).2.trans q2, q3, q4.kb (by omega) f⟩
theorem CX.kb {b : Nat} {h g : Hp} {A : Ac} (c : CX h b A) (f : KB b h g) : CX g b A := by
  obtain ⟨k0, k1, k3, r0, r4, c1, c2, c3, c4⟩ := c
  have l0 := lt_of_hk k0
  exact ⟨gr_hk f.1 k0, gr_hk f.1 k1, gr_hk f.1 k3, (f.2 _ _ (by omega) l0).2.trans r0, (f.2 _ _ (by omega) l0).2.trans r4, (f.2 _ _ (by omega) l0).1.trans c1, fun n hn => (f.2 _ _ (by omega) (lt_of_hk k3)).1.trans (c2 n hn), fun l hl => (c3 l hl).kb k1 f, c4.kb k0 f⟩
/-- what is needed of it behind a fault -/
def CY (h : Hp) (b : Nat) : Prop := hk h b = some (0, 0) ∧ hk h (b + 1) = some (15, 10) ∧ hk h (b + 3) = some (10, 7) ∧ hq h b 0 = some (b + 1) ∧ hq h b 4 = some (b + 3) ∧ ∃ m, m < 10 ∧ hi h b 1 = nI m
theorem CY.kb {b : Nat} {h g : Hp} (c : CY h b) (f : KB b h g) : CY g b := by
  obtain ⟨k0, k1, k3, r0, r4, m, hm, c1⟩ := c
  have l0 := lt_of_hk k0
  exact ⟨gr_hk f.1 k0, gr_hk f.1 k1, gr_hk f.1 k3, (f.2 _ _ (by omega) l0).2.trans r0, (f.2 _ _ (by omega) l0).2.trans r4, m, hm, (f.2 _ _ (by omega) l0).1.trans c1⟩
theorem CX.cy {b : Nat} {h : Hp} {A : Ac} (c : CX h b A) (hl : A.2.2.1.length < 10) : CY h b := ⟨c.1, c.2.1, c.2.2.1, c.2.2.2.1, c.2.2.2.2.1, _, hl, c.2.2.2.2.2.1⟩
def cnt_t (b : Nat) (x12 x17 : Int32) (h13 : Hp) : Option Hp :=
    (rc (nw h13 3 0) (some 9) 2).bind fun g20 =>
    b1 (f_X2_takeWhen g20 (nw h13 3 0)) fun x22 h18 =>
    (rc h18 (some h13.1.length) 3).bind fun g25 =>
    (f_X3_init g25 x12 x17 x22 h18).bind fun h23 =>
    (rc h23 (some b) 0).bind fun g29 =>
    (f_X0_addRule g29 (some h13.1.length) h23).bind fun h27 =>
    some h27
def cnt_h (b K m : Nat) (x12 x17 : Int32) (w : Hp) : Hp := si (sq (sq (si (si w K 0 x12) K 1 x17) K 2 (some (K + 1))) (b + 1) m (some K)) b 1 (nI (m + 1))
theorem cnt_e {b m : Nat} {x12 x17 : Int32} {h13 w : Hp} (X : FX h13) (a1 : f_X2_takeWhen 9 (nw h13 3 0) = some (some (h13.1.length + 1), w)) (a2 : ∃ t, w.1 = h13.1 ++ (3, 0) :: t) (k0 : hk w b = some (0, 0)) (k1 : hk w (b + 1) = some (15, 10)) (r0 : hq w b 0 = some (b + 1)) (hm : m < 10) (em : hi w b 1 = nI m) (nb : b < h13.1.length) : cnt_t b x12 x17 h13 = some (cnt_h b h13.1.length m x12 x17 w) := by
  have kK : hk w h13.1.length = some (3, 0) := by
    obtain ⟨t, et⟩ := a2
    unfold hk
    rw [et, List.getElem?_append_right (Nat.le_refl _), Nat.sub_self]
    rfl
  have XN : hk (nw h13 3 0) 9 = some (2, 0) := hk_old (X.kd (a := 9) (by decide) (by decide) rfl)
  obtain ⟨K, hK⟩ : ∃ K, K = h13.1.length := ⟨_, rfl⟩
  rw [← hK] at kK a1 nb
  have q0 : ¬ nI m < 0 := nI_pos (by omega)
  have q1 : ¬ nI 10 ≤ nI m := by rw [nI_leI (by omega) (by omega)]; omega
  unfold cnt_t
  rw [← hK, rc_eq XN, bd_some, a1, b1_some, rc_eq kK, bd_some]
  unfold f_X3_init
  rw [rc_eq kK, bd_some, putI_of 0 x12 kK, bd_some, putI_of (h := si w K 0 x12) 1 x17 kK, bd_some, putQ_of (h := si (si w K 0 x12) K 1 x17) 2 (some (K + 1)) kK, bd_some, bd_some]
  obtain ⟨w3, e3⟩ : ∃ z, z = sq (si (si w K 0 x12) K 1 x17) K 2 (some (K + 1)) := ⟨_, rfl⟩
  have K0 : hk w3 b = some (0, 0) := by rw [e3]; exact k0
  have K1 : hk w3 (b + 1) = some (15, 10) := by rw [e3]; exact k1
  have KK : hk w3 K = some (3, 0) := by rw [e3]; exact kK
  have R0 : hq w3 b 0 = some (b + 1) := by
    rw [e3, hq_row _ _ _ (by omega)]
    exact r0
  have EM : hi w3 b 1 = nI m := by
    rw [e3, hi_sq, hi_row _ _ _ (by omega), hi_row _ _ _ (by omega)]
    exact em
  rw [← e3, rc_eq K0, bd_some]
  unfold f_X0_addRule
  rw [getI_of 1 K0, bd_some, EM, if_neg q0, bd_some, getQ_of 0 K0, R0, bd_some, aln_eq K1, bd_some, if_neg q1, bd_some, bd_some, wrQ_eq K1 KK hm (by decide), bd_some]
  have K0' : hk (sq w3 (b + 1) m (some K)) b = some (0, 0) := K0
  rw [getI_of 1 K0', bd_some, hi_sq, EM, nI_1, putI_of 1 _ K0', bd_some, bd_some, bd_some]
  unfold cnt_h
  rw [e3]
theorem cnt_fr {b K m : Nat} {x12 x17 : Int32} {h13 w : Hp} (hb : 88 ≤ b) (nb : b + 3 < K) : CFb b w (cnt_h b K m x12 x17 w) ∧ (∀ a k, a ≠ K → a ≠ b → hi (cnt_h b K m x12 x17 w) a k = hi w a k) ∧ (∀ a k, a ≠ K → a ≠ b + 1 → hq (cnt_h b K m x12 x17 w) a k = hq w a k) ∧ (∀ k, k ≠ 1 → hi (cnt_h b K m x12 x17 w) b k = hi w b k) ∧ hi (cnt_h b K m x12 x17 w) b 1 = nI (m + 1) ∧ hi (cnt_h b K m x12 x17 w) K 0 = x12 ∧ hi (cnt_h b K m x12 x17 w) K 1 = x17 ∧ hq (cnt_h b K m x12 x17 w) K 2 = some (K + 1) ∧ hq (cnt_h b K m x12 x17 w) (b + 1) m = some K ∧ ∀ k, k ≠ m → hq (cnt_h b K m x12 x17 w) (b + 1) k = hq w (b + 1) k := by
  unfold cnt_h
  have e1 : ∀ a k, a ≠ K → a ≠ b → hi (si (sq (sq (si (si w K 0 x12) K 1 x17) K 2 (some (K + 1))) (b + 1) m (some K)) b 1 (nI (m + 1))) a k = hi w a k := fun a k h1 h2 => by rw [hi_row _ _ _ h2, hi_sq, hi_sq, hi_row _ _ _ h1, hi_row _ _ _ h1]
  have e2 : ∀ a k, a ≠ K → a ≠ b + 1 → hq (si (sq (sq (si (si w K 0 x12) K 1 x17) K 2 (some (K + 1))) (b + 1) m (some K)) b 1 (nI (m + 1))) a k = hq w a k := fun a k h1 h2 => by rw [hq_si, hq_row _ _ _ h2, hq_row _ _ _ h1, hq_si, hq_si]
  refine ⟨⟨⟨[], (List.append_nil _).symm⟩, fun a k h1 _ _ => e1 a k (by omega) (by omega), fun a k h1 => e2 a k (by omega) (by omega)⟩, e1, e2, fun k hk' => ?_, hi_hit _ _ _, ?_, ?_, ?_, ?_, fun k hk' => ?_⟩
  · rw [hi_col _ _ hk', hi_sq, hi_sq, hi_row _ _ _ (by omega), hi_row _ _ _ (by omega)]
  · rw [hi_row _ _ _ (by omega), hi_sq, hi_sq, hi_col _ _ (by decide), hi_hit]
  · rw [hi_row _ _ _ (by omega), hi_sq, hi_sq, hi_hit]
  · rw [hq_si, hq_row _ _ _ (by omega), hq_hit]
  · rw [hq_si, hq_hit]
  · rw [hq_si, hq_col _ _ hk', hq_row _ _ _ (by omega), hq_si, hq_si]
section Cn
variable {T Pl : Nat → Nat} {N : Nat}
theorem nw_cfm (h : Hp) (kd n : Nat) : CFm h (nw h kd n) := ⟨⟨_, rfl⟩, fun a k ha _ _ => by rw [hi_nw, if_neg (by omega)], fun a k ha => by rw [hq_nw, if_neg (by omega)]⟩
theorem CT.nw {h : Hp} {i u kd n : Nat} (c : CT h T Pl N i u) : CT (nw h kd n) T Pl N i u := by
  have l := c.1.len
  exact c.same ((nw_cfm h kd n).fx c.1) (fun k => by rw [hi_nw, if_neg (by omega)]) (fun k => by rw [hi_nw, if_neg (by omega)]) (fun k => by rw [hi_nw, if_neg (by omega)])
theorem DD.nw {h : Hp} {e : Nat × Nat} {kd n : Nat} (d : DD h T Pl e) : DD (nw h kd n) T Pl e := by
  have l := d.1.len
  exact d.same ((nw_cfm h kd n).fx d.1) (fun k => by rw [hi_nw, if_neg (by omega)])
theorem ln1 (h : Hp) (kd n : Nat) : (nw h kd n).1.length = h.1.length + 1 := by rw [ln_nw, List.length_append]; rfl
/-- behind a fault -/
theorem cnt_D {b : Nat} {x12 x17 : Int32} {h : Hp} {e : Nat × Nat} (hb : 88 ≤ b) (nb : b + 3 < h.1.length) (d : DD h T Pl e) (cy : CY h b) : ∃ g, cnt_t b x12 x17 h = some g ∧ CFb b h g ∧ DD g T Pl e := by
  obtain ⟨w, m', a1, a2, a3, a4⟩ := c_whenD (d.nw (kd := 3) (n := 0))
  rw [ln1] at a1
  have f1 : CFm h w := (nw_cfm h 3 0).trans a3
  obtain ⟨k0, k1, k3, r0, r4, m, hm, c1⟩ := cy.kb (f1.kb hb)
  have fr := cnt_fr (h13 := h) (m := m) (x12 := x12) (x17 := x17) (w := w) hb nb
  exact ⟨_, cnt_e d.1 a1 ⟨[(10, m')], by rw [a2, ln_nw, List.append_assoc]; rfl⟩ k0 k1 r0 hm c1 (by omega), (f1.cfb (by omega)).trans fr.1, a4.same (fr.1.fx a4.1 hb) (fun k => fr.2.1 9 k (by omega) (by omega))⟩
theorem cnt_A (gt : GT T N) {b x i u : Nat} {x17 : Int32} {A : Ac} {h : Hp} (hb : 88 ≤ b) (nb : b + 3 < h.1.length) (c : CT h T Pl N i u) (hu : u ≤ 80) (cx : CX h b A) (hl : A.2.2.1.length < 10) : ∃ g, cnt_t b (nI x) x17 h = some g ∧ CFb b h g ∧ hi g b 5 = hi h b 5 ∧ hi g 9 11 = hi h 9 11 ∧ Sum.elim (fun e => DD g T Pl e) (fun r => CT g T Pl N r.1 r.2.1 ∧ CX g b (A.1, A.2.1, A.2.2.1 ++ [(x, x17, r.2.2)], A.2.2.2)) (gW T i u) := by
  obtain ⟨w, m', a1, a2, a3, a4⟩ := c_when gt (c.nw (kd := 3) (n := 0)) hu
  rw [ln1] at a1
  have l := c.1.len
  have f1 : CFm h w := (nw_cfm h 3 0).trans a3
  have k1' := f1.kb hb
  have cw := cx.kb k1'
  obtain ⟨k0, k1, k3, r0, r4, c1, c2, c3, c4⟩ := cw
  have fr := cnt_fr (h13 := h) (m := A.2.2.1.length) (x12 := nI x) (x17 := x17) (w := w) hb nb
  obtain ⟨g, eg⟩ : ∃ g, g = cnt_h b h.1.length A.2.2.1.length (nI x) x17 w := ⟨_, rfl⟩
  rw [← eg] at fr
  obtain ⟨f2, e1, e2, e3, e4, e5, e6, e7, e8, e9⟩ := fr
  have Xw := f1.fx c.1
  have Xg := f2.fx Xw hb
  have kw : w.1 = h.1 ++ [(3, 0), (10, m')] := by rw [a2, ln_nw, List.append_assoc]; rfl
  have lw : w.1.length = h.1.length + 2 := by rw [kw, List.length_append]; rfl
  have kK : hk w h.1.length = some (3, 0) := by
    unfold hk
    rw [kw, List.getElem?_append_right (Nat.le_refl _), Nat.sub_self]
    rfl
  refine ⟨g, by rw [eg]; exact cnt_e c.1 a1 ⟨[(10, m')], kw⟩ k0 k1 r0 hl c1 (by omega), (f1.cfb (by omega)).trans f2, (e3 5 (by decide)).trans (k1'.2 b 5 (Nat.le_refl _) (by omega)).1, (e1 9 11 (by omega) (by omega)).trans (f1.2.1 9 11 (by omega) (by decide) (by decide)), ?_⟩
  cases hr : gW T i u with
  | inl e =>
    rw [hr] at a4
    exact DD.same a4 Xg (fun k => e1 9 k (by omega) (by omega))
  | inr r =>
    rw [hr] at a4
    obtain ⟨b1', b2', b3'⟩ := a4
    rw [ln1] at b3'
    refine ⟨b1'.same Xg (fun k => e1 9 k (by omega) (by omega)) (fun k => e1 11 k (by omega) (by omega)) (fun k => e1 12 k (by omega) (by omega)), gr_hk f2.1 k0, gr_hk f2.1 k1, gr_hk f2.1 k3, (e2 _ _ (by omega) (by omega)).trans r0, (e2 _ _ (by omega) (by omega)).trans r4, ?_, fun n hn => (e1 _ _ (by omega) (by omega)).trans (c2 n hn), fun l' hl' => ?_, ?_⟩
    · rw [e4, List.length_append]
      rfl
    · simp only [List.length_append, List.length_singleton] at hl'
      by_cases q : l' = A.2.2.1.length
      · subst q
        have ge : (A.2.2.1 ++ [(x, x17, r.2.2)])[A.2.2.1.length]'(by rw [List.length_append, List.length_singleton]; omega) = (x, x17, r.2.2) := by rw [List.getElem_append_right (Nat.le_refl _)]; simp
        simp only [ge]
        exact ⟨h.1.length, h.1.length + 1, by omega, e8, gr_hk f2.1 kK, e5, e6, e7, by show b + 3 < _; omega, gr_hk f2.1 b3'.1, fun j hj => (e1 _ _ (by omega) (by omega)).trans (b3'.2 j hj)⟩
      · have ge : (A.2.2.1 ++ [(x, x17, r.2.2)])[l']'(by rw [List.length_append, List.length_singleton]; omega) = A.2.2.1[l']'(by omega) := List.getElem_append_left (by omega)
        simp only [ge]
        have crh := cx.2.2.2.2.2.2.2.1 l' (by omega)
        obtain ⟨q1, cb, (p1 : b + 3 < q1), p2, p3, p4, p5, p6, (p7 : b + 3 < cb), p8⟩ := crh
        have lq := lt_of_hk p3
        have lc := lt_of_hk p8.1
        exact ⟨q1, cb, p1, (e9 l' q).trans ((k1'.2 (b + 1) l' (by omega) (by omega)).2.trans p2), gr_hk f2.1 (f1.hk p3), (e1 _ _ (by omega) (by omega)).trans ((k1'.2 q1 0 (by omega) lq).1.trans p4), (e1 _ _ (by omega) (by omega)).trans ((k1'.2 q1 1 (by omega) lq).1.trans p5), (e2 _ _ (by omega) (by omega)).trans ((k1'.2 q1 2 (by omega) lq).2.trans p6), p7, gr_hk f2.1 (f1.hk p8.1), fun j hj => (e1 _ _ (by omega) (by omega)).trans ((k1'.2 cb j (by omega) lc).1.trans (p8.2 j hj))⟩
    · have ceh := cx.2.2.2.2.2.2.2.2
      show CE _ g b A.2.2.2
      cases hA : A.2.2.2 with
      | none =>
        rw [hA] at ceh
        exact (e3 3 (by decide)).trans ((k1'.2 b 3 (by omega) (by omega)).1.trans ceh)
      | some C =>
        rw [hA] at ceh
        obtain ⟨q1, eb, q2, (q3 : b + 3 < eb), q4⟩ := ceh
        have lc := lt_of_hk q4.1
        exact ⟨(e3 3 (by decide)).trans ((k1'.2 b 3 (by omega) (by omega)).1.trans q1), eb, (e2 _ _ (by omega) (by omega)).trans ((k1'.2 b 2 (by omega) (by omega)).2.trans q2), q3, gr_hk f2.1 (f1.hk q4.1), fun j hj => (e1 _ _ (by omega) (by omega)).trans ((k1'.2 eb j (by omega) lc).1.trans (q4.2 j hj))⟩
theorem Fr.cfb {b : Nat} {h g : Hp} {A : List Nat} {C : List (Nat × Nat)} (fr : Fr A C h g) (hb : b ≤ h.1.length) (hA : A.all (fun x => [13].contains x) = true) (hC : C.all (fun x => BR.contains x) = true) : CFb b h g := (CFm.of fr hA hC).cfb hb
theorem Fr.kb {b : Nat} {h g : Hp} {A : List Nat} {C : List (Nat × Nat)} (fr : Fr A C h g) (hb : 88 ≤ b) (hA : A.all (fun x => [13].contains x) = true) (hC : C.all (fun x => BR.contains x) = true) : KB b h g := (CFm.of fr hA hC).kb hb
/-- after a line -/
def CLn (h g : Hp) (T Pl : Nat → Nat) (N b : Nat) : (Nat × Nat) ⊕ LnS → Prop
  | .inl e => DD g T Pl e
  | .inr s => CT g T Pl N s.1 s.2.1 ∧ CX g b s.2.2.2 ∧ hi g b 5 = hi h b 5 ∧ hi g 9 11 = nI s.2.2.1
theorem c_lcnt (gt : GT T N) {b i u M : Nat} {A : Ac} {h : Hp} (hb : 88 ≤ b) (nb : b + 3 < h.1.length) (c : CT h T Pl N i u) (hu : u ≤ 80) (cx : CX h b A) (hM : hi h 9 11 = nI M) (h10 : A.2.2.1.length ≤ 10) (t0 : T i = 0) : ∃ g, f_X2_readCounts 9 (some b) h = some g ∧ CFb b h g ∧ CLn h g T Pl N b (gLn T (i, u, M, A)) := by
  have l := c.1.len
  unfold gLn
  simp only
  rw [if_pos t0]
  have un : f_X2_readCounts 9 (some b) h = (if nI A.2.2.1.length < (10 : Int32) then
    (f_X2_nextToken 9 h).bind fun h4 =>
    (rc h4 (some 9) 2).bind fun g10 =>
    b1 (f_X2_takeKind g10 h4) fun x12 h8 =>
    (rc h8 (some 9) 2).bind fun g15 =>
    b1 (f_X2_takeNumber g15 (0 : Int32) (100 : Int32) h8) fun x17 h13 => cnt_t b x12 x17 h13
   else
    (f_X2_refuse 9 (2 : Int32) h).bind fun h31 =>
    some h31) := by
    unfold f_X2_readCounts cnt_t
    rw [getI_of 1 cx.1, bd_some, cx.2.2.2.2.2.1, rc9 c.1, bd_some, bd_some]
  rw [un]
  have qi : nI A.2.2.1.length < (10 : Int32) ↔ A.2.2.1.length < 10 := nI_ltI (b := 10) (by omega) (by decide)
  by_cases c10 : A.2.2.1.length < 10
  · rw [if_pos (qi.mpr c10), if_pos c10]
    have ne : i ≠ N := fun e => by rw [e] at t0; have := gt.2.1; omega
    have ci := c.2.2.2.2.2.2
    obtain ⟨g1, a1, a2, a3⟩ := c_nextT gt c (by omega)
    rw [a1, bd_some, rc9 a3.1, bd_some]
    have F1 : CFb b h g1 := a2.cfb (by omega) (by decide) (by decide)
    have X1 : CX g1 b A := cx.kb (a2.kb hb (by decide) (by decide))
    have k1 : g1.1 = h.1 := a2.1
    have m1 : hi g1 9 11 = nI M := (a2.ef (by decide) (by decide)).trans hM
    have n1 : hi g1 b 5 = hi h b 5 := a2.ef (by simp) (by simp <;> omega)
    by_cases ck : 13 ≤ T (i + 1) ∧ T (i + 1) ≤ 17
    · rw [if_pos ck]
      obtain ⟨g2, b1', b2', b3'⟩ := (c_kind gt a3).1 ck
      rw [b1', b1_some, rc9 b3'.1, bd_some]
      have F2 : CFb b h g2 := F1.trans (b2'.cfb (by rw [k1]; omega) (by decide) (by decide))
      have X2 : CX g2 b A := X1.kb (b2'.kb hb (by decide) (by decide))
      have k2 : g2.1 = h.1 := b2'.1.trans k1
      have m2 : hi g2 9 11 = nI M := (b2'.ef (by decide) (by decide)).trans m1
      have n2 : hi g2 b 5 = hi h b 5 := (b2'.ef (by simp) (by simp <;> omega)).trans n1
      have cn := c_num gt b3' (lo := 0) (hh := 100) (by decide) (by decide)
      by_cases c3 : 1000 ≤ T (i + 2)
      · rw [if_pos c3]
        by_cases c4 : T (i + 2) ≤ 1100
        · rw [if_pos c4]
          obtain ⟨g3, d1, d2, d3⟩ := cn.1 c3 ⟨Nat.zero_le _, by show T (i + 2) - 1000 ≤ 100; omega⟩
          have d1' : f_X2_takeNumber 9 (0 : Int32) (100 : Int32) g2 = some (nI (T (i + 2) - 1000), g3) := d1
          rw [d1', b1_some]
          have X3 : CX g3 b A := X2.kb (d2.kb hb (by decide) (by decide))
          have k3 : g3.1 = h.1 := d2.1.trans k2
          obtain ⟨g, r1, r2, r3, r4, r5⟩ := cnt_A gt (x := T (i + 1) - 13) (x17 := nI (T (i + 2) - 1000)) hb (by rw [k3]; exact nb) d3 hu X3 c10
          refine ⟨g, r1, (F2.trans (d2.cfb (by rw [k2]; omega) (by decide) (by decide))).trans r2, ?_⟩
          have e3 : i + 1 + 1 + 1 = i + 3 := rfl
          rw [e3] at r5
          cases hr : gW T (i + 3) u with
          | inl e =>
            rw [hr] at r5
            exact r5
          | inr r =>
            rw [hr] at r5
            exact ⟨r5.1, r5.2, r3.trans ((d2.ef (by simp) (by simp <;> omega)).trans n2), r4.trans ((d2.ef (by decide) (by decide)).trans m2)⟩
        · rw [if_neg c4]
          obtain ⟨g3, d1, d2, d3⟩ := cn.2.1 c3 (fun z => by have : T (i + 2) - 1000 ≤ 100 := z.2; omega)
          have d1' : f_X2_takeNumber 9 (0 : Int32) (100 : Int32) g2 = some (0, g3) := d1
          rw [d1', b1_some]
          have k3 : g3.1 = h.1 := d2.1.trans k2
          obtain ⟨g, r1, r2, r3⟩ := cnt_D (x12 := nI (T (i + 1) - 13)) (x17 := 0) hb (by rw [k3]; exact nb) d3 ((X2.cy c10).kb (d2.kb hb (by decide) (by decide)))
          exact ⟨g, r1, (F2.trans (d2.cfb (by rw [k2]; omega) (by decide) (by decide))).trans r2, r3⟩
      · rw [if_neg c3]
        obtain ⟨g3, d1, d2, d3⟩ := cn.2.2 (by show T (i + 2) < 1000; omega)
        have d1' : f_X2_takeNumber 9 (0 : Int32) (100 : Int32) g2 = some (0, g3) := d1
        rw [d1', b1_some]
        have k3 : g3.1 = h.1 := d2.1.trans k2
        obtain ⟨g, r1, r2, r3⟩ := cnt_D (x12 := nI (T (i + 1) - 13)) (x17 := 0) hb (by rw [k3]; exact nb) d3 ((X2.cy c10).kb (d2.kb hb (by decide) (by decide)))
        exact ⟨g, r1, (F2.trans (d2.cfb (by rw [k2]; omega) (by decide) (by decide))).trans r2, r3⟩
    · rw [if_neg ck]
      obtain ⟨g2, b1', b2', b3'⟩ := (c_kind gt a3).2 ck
      rw [b1', b1_some, rc9 b3'.1, bd_some]
      have k2 : g2.1 = h.1 := b2'.1.trans k1
      obtain ⟨g3, d1, d2, d3⟩ := c_numD b3' 0 100
      rw [d1, b1_some]
      have k3 : g3.1 = h.1 := d2.1.trans k2
      obtain ⟨g, r1, r2, r3⟩ := cnt_D (x12 := 0) (x17 := 0) hb (by rw [k3]; exact nb) d3 (((X1.cy c10).kb (b2'.kb hb (by decide) (by decide))).kb (d2.kb hb (by decide) (by decide)))
      exact ⟨g, r1, ((F1.trans (b2'.cfb (by rw [k1]; omega) (by decide) (by decide))).trans (d2.cfb (by rw [k2]; omega) (by decide) (by decide))).trans r2, r3⟩
  · rw [if_neg (fun z => c10 (qi.mp z)), if_neg c10]
    obtain ⟨g, a1, a2, a3⟩ := c_refuse gt c (w := 2) (Or.inl rfl)
    have a1' : f_X2_refuse 9 (2 : Int32) h = some g := a1
    exact ⟨g, by rw [a1', bd_some], a2.cfb (by omega) (by decide) (by decide), a3⟩
end Cn
