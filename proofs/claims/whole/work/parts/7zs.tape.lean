/-! All lines; the class reads a tape. -/
section Tp
variable {T : Nat → Nat} {N : Nat}
theorem gw_all (gt : GT T N) {i u : Nat} (hi' : i ≤ N) (hu : u ≤ 80) {r : PS} (e : gW T i u = .inr r) : i + 3 ≤ r.1 ∧ r.1 ≤ N ∧ r.2.1 ≤ 80 ∧ OKC r.2.2 ∧ r.2.2.length + i + 2 ≤ r.1 := by
  unfold gW at e
  have hN := gt.1
  by_cases c9 : T i = 9
  · rw [if_pos c9] at e
    have ne : i ≠ N := fun z => by rw [z] at c9; have := gt.2.1; omega
    have gp := gp_all hN gt.2.1 gt.2.2.2 200 0 0 0 (i + 1, u, []) (fun _ => by decide) (fun z => by omega) (by show i + 1 ≤ N; omega) hu
    cases hr : G T 200 0 0 0 (i + 1, u, []) with
    | inl e' => rw [hr] at e; cases e
    | inr s' =>
      rw [hr] at e gp
      rw [if_pos rfl] at gp
      obtain ⟨p1, p2, p3, p4, p5, dd, p6, p7, p8⟩ := gp
      simp only at p1 p3 p6 p7 p8
      rw [elim_inr] at e
      by_cases c59 : T s'.1 = 59
      · rw [if_pos c59] at e
        have ne' : s'.1 ≠ N := fun z => by rw [z] at c59; have := gt.2.1; omega
        cases e
        have ed : s'.2.2 = dd := p6
        have ok := p8.2 0 [] (by omega) rfl
        rw [List.append_nil] at ok
        exact ⟨by show i + 3 ≤ s'.1 + 1; omega, by show s'.1 + 1 ≤ N; omega, p4, ⟨by show okc s'.2.2 0; rw [ed]; exact ok, by show ∀ s ∈ s'.2.2, okS s; rw [ed]; exact p8.1, by show s'.2.2.length < 900; rw [ed]; omega⟩, by show s'.2.2.length + i + 2 ≤ s'.1 + 1; rw [ed]; omega⟩
      · rw [if_neg c59] at e; cases e
  · rw [if_neg c9] at e; cases e
/-- what holds between lines -/
def LOK (N : Nat) (s : LnS) : Prop := s.1 ≤ N ∧ s.2.1 ≤ 80 ∧ s.2.2.1 < 2 ^ 9 ∧ AOK s.2.2.2 ∧ (s.2.2.2.2.2.2.isSome = s.2.2.1.testBit 1)
def lcn (s : LnS) : Nat := s.2.2.2.2.2.1.length + if s.2.2.1.testBit 1 = true then 1 else 0
theorem AOK_num {A : Ac} (a : AOK A) {n v : Nat} (h1 : loN n ≤ v) (h2 : v ≤ hiN n) (x : Int32) : AOK (upd A.1 n (nI v), x, A.2.2) := by
  obtain ⟨a1, a2, ⟨n0, a3, a3', a3''⟩, ⟨n1, a4, a4', a4''⟩, ⟨n2, a5, a5', a5''⟩, ⟨n3, a6, a6', a6''⟩, ⟨n4, a7, a7'⟩, ⟨n5, a8, a8'⟩, n6, a9, a9'⟩ := a
  have hh : ∀ j, n ≠ j → upd A.1 n (nI v) j = A.1 j := fun j hj => by unfold upd; rw [if_neg (fun z => hj z.symm)]
  have ht : ∀ j, n = j → upd A.1 n (nI v) j = nI v := fun j hj => by unfold upd; rw [if_pos hj.symm]
  refine ⟨a1, a2, ?_, ?_, ?_, ?_, ?_, ?_, ?_⟩
  · by_cases q : n = 0
    · subst q; exact ⟨v, h1, h2, ht 0 rfl⟩
    · exact ⟨n0, a3, a3', (hh 0 q).trans a3''⟩
  · by_cases q : n = 1
    · subst q; exact ⟨v, h1, h2, ht 1 rfl⟩
    · exact ⟨n1, a4, a4', (hh 1 q).trans a4''⟩
  · by_cases q : n = 2
    · subst q; exact ⟨v, h1, h2, ht 2 rfl⟩
    · exact ⟨n2, a5, a5', (hh 2 q).trans a5''⟩
  · by_cases q : n = 3
    · subst q; exact ⟨v, h1, h2, ht 3 rfl⟩
    · exact ⟨n3, a6, a6', (hh 3 q).trans a6''⟩
  · by_cases q : n = 4
    · subst q; exact ⟨v, h2, ht 4 rfl⟩
    · exact ⟨n4, a7, (hh 4 q).trans a7'⟩
  · by_cases q : n = 5
    · subst q; exact ⟨v, h2, ht 5 rfl⟩
    · exact ⟨n5, a8, (hh 5 q).trans a8'⟩
  · by_cases q : n = 6
    · subst q; exact ⟨v, h2, ht 6 rfl⟩
    · exact ⟨n6, a9, (hh 6 q).trans a9'⟩
theorem gl_all (gt : GT T N) {s s' : LnS} (o : LOK N s) (e : gLn T s = .inr s') : LOK N s' ∧ s.1 + 3 ≤ s'.1 ∧ T s.1 ≤ 8 ∧ (T s.1 ≤ 1 → lcn s' = lcn s + 1) ∧ (1 < T s.1 → lcn s' = lcn s) := by
  obtain ⟨i, u, M, A⟩ := s
  obtain ⟨o1, o2, o3, o4, o5⟩ := o
  simp only at o1 o2 o3 o4 o5
  have tN := gt.2.1
  unfold gLn at e
  simp only at e
  by_cases t0 : T i = 0
  · rw [if_pos t0] at e
    have n0 : i ≠ N := fun z => by rw [z] at t0; omega
    split at e
    · rename_i c10
      split at e
      · rename_i ck
        have n1 : i + 1 ≠ N := fun z => by rw [z] at ck; omega
        split at e
        · rename_i c3
          have n2 : i + 2 ≠ N := fun z => by rw [z] at c3; omega
          split at e
          · rename_i c4
            cases hr : gW T (i + 3) u with
            | inl e' => rw [hr] at e; cases e
            | inr r =>
              rw [hr] at e
              obtain ⟨w1, w2, w3, w4, w5⟩ := gw_all gt (by omega) o2 hr
              cases e
              refine ⟨⟨w2, w3, o3, ⟨⟨?_, ?_⟩, o4.2⟩, o5⟩, by show i + 3 ≤ r.1; omega, by show T i ≤ 8; omega, fun _ => ?_, fun z => ?_⟩
              · show (A.2.2.1 ++ [_]).length ≤ 10
                rw [List.length_append, List.length_singleton]
                omega
              · intro x hx
                rcases List.mem_append.mp hx with z | z
                · exact o4.1.2 x z
                · rw [List.mem_singleton.mp z]
                  exact ⟨by show T (i + 1) - 13 < 5; omega, ⟨_, by show T (i + 2) - 1000 ≤ 100; omega, rfl⟩, w4⟩
              · show (A.2.2.1 ++ [_]).length + (if M.testBit 1 = true then 1 else 0) = A.2.2.1.length + (if M.testBit 1 = true then 1 else 0) + 1
                rw [List.length_append, List.length_singleton]
                omega
              · exact absurd z (by show ¬ 1 < T i; omega)
          · cases e
        · cases e
      · cases e
    · cases e
  · rw [if_neg t0] at e
    split at e
    · rename_i cs
      have n0 : i ≠ N := fun z => by rw [z] at cs; omega
      split at e
      · rename_i c1
        cases hr : gW T (i + 1) u with
        | inl e' => rw [hr] at e; cases e
        | inr r =>
          rw [hr] at e
          obtain ⟨w1, w2, w3, w4, w5⟩ := gw_all gt (by omega) o2 hr
          cases e
          have tb1 : (M ||| 2 ^ T i).testBit 1 = true := by rw [seen_or, c1]; simp
          have tb0 : M.testBit 1 = false := by have := cs.2; rw [c1] at this; exact this
          refine ⟨⟨w2, w3, (seen_put o3 (by omega)).2, ⟨o4.1, fun C hC => ?_, o4.2.2⟩, ?_⟩, by show i + 3 ≤ r.1; omega, by show T i ≤ 8; omega, fun _ => ?_, fun z => ?_⟩
          · cases hC; exact w4
          · show true = (M ||| 2 ^ T i).testBit 1
            rw [tb1]
          · show A.2.2.1.length + (if (M ||| 2 ^ T i).testBit 1 = true then 1 else 0) = A.2.2.1.length + (if M.testBit 1 = true then 1 else 0) + 1
            rw [tb1, tb0]
            rfl
          · exact absurd z (by show ¬ 1 < T i; omega)
      · rename_i c1
        have tb : (M ||| 2 ^ T i).testBit 1 = M.testBit 1 := by rw [seen_or, show decide (T i = 1) = false from decide_eq_false c1, Bool.or_false]
        split at e
        · rename_i c3
          have n1 : i + 1 ≠ N := fun z => by rw [z] at c3; omega
          split at e
          · rename_i c4
            split at e
            · rename_i c5
              have n2 : i + 2 ≠ N := fun z => by rw [z] at c5; omega
              cases e
              refine ⟨⟨by show i + 3 ≤ N; omega, o2, (seen_put o3 (by omega)).2, AOK_num o4 c4.1 c4.2 _, ?_⟩, Nat.le_refl _, by show T i ≤ 8; omega, fun z => absurd z (by show ¬ T i ≤ 1; omega), fun _ => ?_⟩
              · show A.2.2.2.isSome = (M ||| 2 ^ T i).testBit 1
                rw [tb]
                exact o5
              · show A.2.2.1.length + (if (M ||| 2 ^ T i).testBit 1 = true then 1 else 0) = A.2.2.1.length + (if M.testBit 1 = true then 1 else 0)
                rw [tb]
            · cases e
          · cases e
        · cases e
    · cases e
/-- all lines -/
def gTp (T : Nat → Nat) : Nat → LnS → (Nat × Nat) ⊕ LnS
  | 0, _ => .inl (0, 2)
  | d + 1, s => if T s.1 = 25 then .inr s else Sum.elim .inl (gTp T d) (gLn T s)
end Tp
section Ct
variable {T Pl : Nat → Nat} {N : Nat}
/-- after the tape -/
def CTn (g : Hp) (T Pl : Nat → Nat) (N b : Nat) : (Nat × Nat) ⊕ LnS → Prop
  | .inl e => DD g T Pl e
  | .inr s => CT g T Pl N s.1 s.2.1 ∧ CX g b s.2.2.2 ∧ hi g b 5 = s.2.2.2.2.1 ∧ LOK N s
theorem ln_put {b : Nat} {v : Int32} {h : Hp} {A : Ac} (c : CX h b A) : CX (si h b 5 v) b (A.1, A.2.1, A.2.2) := by
  obtain ⟨k0, k1, k3, r0, r4, c1, c2, c3, c4⟩ := c
  refine ⟨k0, k1, k3, r0, r4, (hi_col _ _ (by decide)).trans c1, fun j hj => (hi_row _ _ _ (by omega)).trans (c2 j hj), fun l' hl' => ?_, ?_⟩
  · obtain ⟨q1, cb, (p1 : b + 3 < q1), p2, p3, p4, p5, p6, (p7 : b + 3 < cb), p8⟩ := c3 l' hl'
    exact ⟨q1, cb, p1, p2, p3, (hi_row _ _ _ (by omega)).trans p4, (hi_row _ _ _ (by omega)).trans p5, p6, p7, p8.1, fun j hj => (hi_row _ _ _ (by omega)).trans (p8.2 j hj)⟩
  · show CE _ _ b A.2.2.2
    cases hA : A.2.2.2 with
    | none =>
      rw [hA] at c4
      exact (hi_col _ _ (by decide)).trans c4
    | some C =>
      rw [hA] at c4
      obtain ⟨q1, eb, q2, (q3 : b + 3 < eb), q4⟩ := c4
      exact ⟨(hi_col _ _ (by decide)).trans q1, eb, q2, q3, q4.1, fun j hj => (hi_row _ _ _ (by omega)).trans (q4.2 j hj)⟩
theorem gl_lines {s s' : LnS} (e : gLn T s = .inr s') : s'.2.2.2.2.1 = s.2.2.2.2.1 + 1 := by
  obtain ⟨i, u, M, A⟩ := s
  unfold gLn at e
  simp only at e
  split at e
  · split at e
    · split at e
      · split at e
        · split at e
          · cases hr : gW T (i + 3) u with
            | inl e' => rw [hr] at e; cases e
            | inr r => rw [hr] at e; cases e; rfl
          · cases e
        · cases e
      · cases e
    · cases e
  · split at e
    · split at e
      · cases hr : gW T (i + 1) u with
        | inl e' => rw [hr] at e; cases e
        | inr r => rw [hr] at e; cases e; rfl
      · split at e
        · split at e
          · split at e
            · cases e; rfl
            · cases e
          · cases e
        · cases e
    · cases e
theorem c_L48 (gt : GT T N) {b : Nat} (hb : 88 ≤ b) : ∀ d n bd k (s : LnS) (h : Hp), d + 1 < n → N < s.1 + d → k * 3 ≤ s.1 → 12 ≤ bd + lcn s → b + 3 < h.1.length → LOK N s → CT h T Pl N s.1 s.2.1 → CX h b s.2.2.2 → hi h b 5 = s.2.2.2.2.1 → hi h 9 11 = nI s.2.2.1 → (∀ k, hi h 0 k = ls0.getD k 0) → (∀ k, hi h 1 k = ms0.getD k 0) → ∃ g, f_X2_readTape_L48 n bd 9 (some b) (nI k) h = some g ∧ CFb b h g ∧ CTn g T Pl N b (gTp T d s) := by
  intro d
  induction d with
  | zero => intro n bd k s h _ h2 _ _ _ o; have := o.1; omega
  | succ d ih =>
    intro n bd k s h h1 h2 h3 h4 nb o c cx hl hM tl0 tl1
    obtain ⟨n, rfl⟩ : ∃ m, n = m + 1 := ⟨n - 1, by omega⟩
    have X := c.1
    have hN := gt.1
    have sN := o.1
    have c7 := c.2.2.2.2.1
    have tl := okT_lt (gt.2.2.2 s.1)
    have q25 : nI (T s.1) = (25 : Int32) ↔ T s.1 = 25 := nI_eq (b := 25) (by omega) (by decide)
    have q0 : nI (T s.1) = (0 : Int32) ↔ T s.1 = 0 := nI_eq (b := 0) (by omega) (by decide)
    have q1 : nI (T s.1) = (1 : Int32) ↔ T s.1 = 1 := nI_eq (b := 1) (by omega) (by decide)
    have qk : ¬ (900 : Int32) ≤ nI k := fun z => by have := (nI_leI (a := 900) (by decide) (by omega)).mp z; omega
    unfold f_X2_readTape_L48 gTp
    rw [if_neg qk, gi9 X, bd_some, c.2.2.1, if_pos rfl, gi9 X, bd_some, c7]
    by_cases t25 : T s.1 = 25
    · rw [if_pos (q25.mpr t25), if_pos t25]
      exact ⟨h, rfl, CFb.refl, c, cx, hl, o⟩
    rw [if_neg (fun z => t25 (q25.mp z)), if_neg t25, bd_some]
    -- a line, whichever
    have line : ∃ g b2, (if nI (T s.1) = (0 : Int32) then
              (pb bd).bind fun k1 =>
              (rc h (some 9) 2).bind fun g49 =>
              (f_X2_readCounts g49 (some b) h).bind fun h47 =>
              some (k1, h47)
            else if nI (T s.1) = (1 : Int32) then
              (pb bd).bind fun k1 =>
              (rc h (some 9) 2).bind fun g45 =>
              (f_X2_readOnce g45 (some b) h).bind fun h43 =>
              some (k1, h43)
            else
              (rc h (some 9) 2).bind fun g45 =>
              (f_X2_readOnce g45 (some b) h).bind fun h43 =>
              some (bd, h43) : Option (Nat × Hp)) = some (b2, g) ∧ bd ≤ b2 + (if T s.1 ≤ 1 then 1 else 0) ∧ CFb b h g ∧ CLn h g T Pl N b (gLn T s) := by
      have cb : lcn s ≤ 11 := by
        have := o.2.2.2.1.1.1
        unfold lcn
        split <;> omega
      obtain ⟨bd', hbd⟩ : ∃ m, bd = m + 1 := ⟨bd - 1, by omega⟩
      by_cases t0 : T s.1 = 0
      · obtain ⟨g, a1, a2, a3⟩ := c_lcnt gt (M := s.2.2.1) hb nb c o.2.1 cx hM o.2.2.2.1.1.1 t0
        rw [if_pos (q0.mpr t0), hbd]
        refine ⟨g, bd', ?_, by rw [if_pos (by omega)]; omega, a2, a3⟩
        show Option.bind (some bd') _ = _
        rw [bd_some, rc9 X, bd_some, a1, bd_some]
      · obtain ⟨g, a1, a2, a3⟩ := c_lonce gt hb nb c o.2.1 cx hM o.2.2.1 t0 tl0 tl1
        rw [if_neg (fun z => t0 (q0.mp z))]
        by_cases t1 : T s.1 = 1
        · rw [if_pos (q1.mpr t1), hbd]
          refine ⟨g, bd', ?_, by rw [if_pos (by omega)]; omega, a2, a3⟩
          show Option.bind (some bd') _ = _
          rw [bd_some, rc9 X, bd_some, a1, bd_some]
        · rw [if_neg (fun z => t1 (q1.mp z))]
          exact ⟨g, bd, by rw [rc9 X, bd_some, a1, bd_some], by omega, a2, a3⟩
    obtain ⟨g, b2, l1, l2, l3, l4⟩ := line
    rw [l1, b1_some]
    have kb : hk g b = some (0, 0) := gr_hk l3.1 cx.1
    rw [getI_of 5 kb, bd_some, putI_of 5 _ kb, bd_some]
    have lg := gr_len l3.1
    have F2 : CFb b h (si g b 5 (hi g b 5 + 1)) := l3.trans ⟨⟨[], (List.append_nil _).symm⟩, fun a k h1 _ _ => hi_row _ _ _ (by omega), fun _ _ _ => rfl⟩
    have Xg := F2.fx X hb
    have r9 : ∀ a k, a < 88 → hi (si g b 5 (hi g b 5 + 1)) a k = hi g a k := fun a k ha => hi_row _ _ _ (by omega)
    cases hr : gLn T s with
    | inl e =>
      rw [hr] at l4
      have d2 : DD (si g b 5 (hi g b 5 + 1)) T Pl e := DD.same l4 Xg (fun k => r9 9 k (by decide))
      obtain ⟨n, rfl⟩ : ∃ m, n = m + 1 := ⟨n - 1, by omega⟩
      refine ⟨_, ?_, F2, d2⟩
      rw [nI_1]
      unfold f_X2_readTape_L48
      rw [if_neg (fun z => by have := (nI_leI (a := 900) (by decide) (by omega)).mp z; omega), gi9 d2.1, bd_some, d2.2.1, if_neg (fk_ne d2.2.2.2.2)]
    | inr s' =>
      rw [hr] at l4
      obtain ⟨p1, p2, p3, p4⟩ := l4
      obtain ⟨o', w2, w3, w4, w5⟩ := gl_all gt o hr
      have el := gl_lines hr
      obtain ⟨g', z1, z2, z3⟩ := ih n b2 (k + 1) s' (si g b 5 (hi g b 5 + 1)) (by omega) (by omega) (by omega) (by
        by_cases q : T s.1 ≤ 1
        · rw [if_pos q] at l2; have := w4 q; omega
        · rw [if_neg q] at l2; have := w5 (by omega); omega) (by show b + 3 < g.1.length; omega) o' (p1.same Xg (fun k => r9 9 k (by decide)) (fun k => r9 11 k (by decide)) (fun k => r9 12 k (by decide))) (ln_put p2) (by rw [hi_hit, p3, hl, el]) ((r9 9 11 (by decide)).trans p4) (fun j => (F2.2.1 0 j (by omega) (by decide) (by unfold BQx; simp)).trans (tl0 j)) (fun j => (F2.2.1 1 j (by omega) (by decide) (by unfold BQx; simp)).trans (tl1 j))
      rw [nI_1]
      exact ⟨g', z1, F2.trans z2, z3⟩
end Ct
