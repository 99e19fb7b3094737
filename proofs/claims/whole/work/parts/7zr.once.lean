/-! The class reads a line: empty, or a number. -/
theorem lo_tab : ∀ n, n < 7 → ls0.getD n 0 = nI (loN n) ∧ ms0.getD n 0 = nI (hiN n) ∧ loN n < 20000 ∧ hiN n < 20000 := by decide
theorem si11_cfb {b : Nat} {h : Hp} {v : Int32} : CFb b h (si h 9 11 v) := ⟨⟨[], (List.append_nil _).symm⟩, fun a k _ _ hq' => by
  by_cases e : a = 9
  · subst e
    exact hi_col _ _ (fun z => hq' (by subst z; decide))
  · exact hi_row _ _ _ e, fun _ _ _ => rfl⟩
theorem si11_kb {b : Nat} {h : Hp} {v : Int32} (hb : 88 ≤ b) : KB b h (si h 9 11 v) := ⟨⟨[], (List.append_nil _).symm⟩, fun a k h1 _ => ⟨hi_row _ _ _ (by omega), rfl⟩⟩
section Co
variable {T Pl : Nat → Nat} {N : Nat}
/-- the empty line's steps -/
theorem emp_A (gt : GT T N) {b i u : Nat} {A : Ac} {h : Hp} (hb : 88 ≤ b) (nb : b + 3 < h.1.length) (c : CT h T Pl N i u) (hu : u ≤ 80) (cx : CX h b A) : ∃ g, ((rc h (some 9) 2).bind fun g63 => b1 (f_X2_takeWhen g63 h) fun x65 h61 => (putQ h61 (some b) 0 2 x65).bind fun h66 => (putZ h66 (some b) 0 3 1).bind fun h68 => some h68) = some g ∧ CFb b h g ∧ hi g b 5 = hi h b 5 ∧ hi g 9 11 = hi h 9 11 ∧ Sum.elim (fun e => DD g T Pl e) (fun r => CT g T Pl N r.1 r.2.1 ∧ CX g b (A.1, A.2.1, A.2.2.1, some r.2.2)) (gW T i u) := by
  obtain ⟨w, m', a1, a2, f1, a4⟩ := c_when gt c hu
  have l := c.1.len
  have k1' := f1.kb hb
  have cw := cx.kb k1'
  obtain ⟨k0, k1, k3, r0, r4, c1, c2, c3, c4⟩ := cw
  obtain ⟨K, hK⟩ : ∃ K, K = h.1.length := ⟨_, rfl⟩
  obtain ⟨g, eg⟩ : ∃ g, g = si (sq w b 2 (some K)) b 3 1 := ⟨_, rfl⟩
  rw [← hK] at a1
  have Xw := f1.fx c.1
  have e1 : ∀ a k, a ≠ b → hi g a k = hi w a k := fun a k h1 => by rw [eg, hi_row _ _ _ h1, hi_sq]
  have e2 : ∀ a k, a ≠ b → hq g a k = hq w a k := fun a k h1 => by rw [eg, hq_si, hq_row _ _ _ h1]
  have e3 : ∀ k, k ≠ 3 → hi g b k = hi w b k := fun k h1 => by rw [eg, hi_col _ _ h1, hi_sq]
  have e4 : ∀ k, k ≠ 2 → hq g b k = hq w b k := fun k h1 => by rw [eg, hq_si, hq_col _ _ h1]
  have e5 : hi g b 3 = 1 := by rw [eg, hi_hit]
  have e6 : hq g b 2 = some K := by rw [eg, hq_si, hq_hit]
  have f2 : CFb b w g := ⟨⟨[], by rw [eg, List.append_nil]; rfl⟩, fun a k h1 _ _ => e1 a k (by omega), fun a k h1 => e2 a k (by omega)⟩
  have Xg := f2.fx Xw hb
  have k0' : hk (sq w b 2 (some K)) b = some (0, 0) := k0
  refine ⟨g, ?_, (f1.cfb (by omega)).trans f2, (e3 5 (by decide)).trans (k1'.2 b 5 (Nat.le_refl _) (by omega)).1, (e1 9 11 (by omega)).trans (f1.2.1 9 11 (by omega) (by decide) (by decide)), ?_⟩
  · rw [rc9 c.1, bd_some, a1, b1_some, putQ_of 2 (some K) k0, bd_some, putZ_of 3 k0' (Or.inr rfl), bd_some, eg]
  cases hr : gW T i u with
  | inl e =>
    rw [hr] at a4
    exact DD.same a4 Xg (fun k => e1 9 k (by omega))
  | inr r =>
    rw [hr] at a4
    obtain ⟨b1', b2', b3'⟩ := a4
    rw [← hK] at b3'
    refine ⟨b1'.same Xg (fun k => e1 9 k (by omega)) (fun k => e1 11 k (by omega)) (fun k => e1 12 k (by omega)), gr_hk f2.1 k0, gr_hk f2.1 k1, gr_hk f2.1 k3, (e4 _ (by decide)).trans r0, (e4 _ (by decide)).trans r4, (e3 _ (by decide)).trans c1, fun n hn => (e1 _ _ (by omega)).trans (c2 n hn), fun l' hl' => ?_, ?_⟩
    · obtain ⟨q1, cb, (p1 : b + 3 < q1), p2, p3, p4, p5, p6, (p7 : b + 3 < cb), p8⟩ := c3 l' hl'
      exact ⟨q1, cb, p1, (e2 _ _ (by omega)).trans p2, gr_hk f2.1 p3, (e1 _ _ (by omega)).trans p4, (e1 _ _ (by omega)).trans p5, (e2 _ _ (by omega)).trans p6, p7, gr_hk f2.1 p8.1, fun j hj => (e1 _ _ (by omega)).trans (p8.2 j hj)⟩
    · exact ⟨e5, K, e6, by show b + 3 < K; omega, gr_hk f2.1 b3'.1, fun j hj => (e1 _ _ (by omega)).trans (b3'.2 j hj)⟩
/-- a number is written -/
theorem num_put {b n : Nat} {v : Int32} {h : Hp} (hb : 88 ≤ b) (hn : n < 7) (k0 : hk h b = some (0, 0)) (k3 : hk h (b + 3) = some (10, 7)) (r4 : hq h b 4 = some (b + 3)) : (if nI n < (0 : Int32) then
              some h
            else
              (getQ h (some b) 0 4).bind fun x46 =>
              (aln h x46 10).bind fun x48 =>
              if x48 ≤ nI n then
                some h
              else
                (getQ h (some b) 0 4).bind fun x51 =>
                (wrI h x51 (nI n) v).bind fun h53 =>
                some h53 : Option (Hp)) = some (si h (b + 3) n v) := by
  rw [if_neg (nI_pos (by omega)), getQ_of 4 k0, r4, bd_some, aln_eq k3, bd_some, if_neg (by rw [nI_leI (by omega) (by omega)]; omega), bd_some, wrI_eq v k3 (by omega) hn (by decide), bd_some]
theorem num_fr {b n : Nat} {v : Int32} {h : Hp} : Fr [] [(b + 3, n)] h (si h (b + 3) n v) := Fr.fld (by simp)
theorem num_cfb {b n : Nat} {v : Int32} {h : Hp} : CFb b h (si h (b + 3) n v) := ⟨⟨[], (List.append_nil _).symm⟩, fun a k h1 _ _ => hi_row _ _ _ (by omega), fun _ _ _ => rfl⟩
theorem num_cx {b n : Nat} {v : Int32} {h : Hp} {A : Ac} (hn : n < 7) (c : CX h b A) : CX (si h (b + 3) n v) b (upd A.1 n v, A.2) := by
  obtain ⟨k0, k1, k3, r0, r4, c1, c2, c3, c4⟩ := c
  refine ⟨k0, k1, k3, r0, r4, (hi_row _ _ _ (by omega)).trans c1, fun j hj => ?_, fun l' hl' => ?_, ?_⟩
  · show _ = upd A.1 n v j
    unfold upd
    by_cases q : j = n
    · rw [if_pos q, q, hi_hit]
    · rw [if_neg q, hi_col _ _ q]
      exact c2 j hj
  · obtain ⟨q1, cb, (p1 : b + 3 < q1), p2, p3, p4, p5, p6, (p7 : b + 3 < cb), p8⟩ := c3 l' hl'
    exact ⟨q1, cb, p1, p2, p3, (hi_row _ _ _ (by omega)).trans p4, (hi_row _ _ _ (by omega)).trans p5, p6, p7, p8.1, fun j hj => (hi_row _ _ _ (by omega)).trans (p8.2 j hj)⟩
  · show CE _ _ b A.2.2.2
    cases hA : A.2.2.2 with
    | none =>
      rw [hA] at c4
      exact (hi_row _ _ _ (by omega)).trans c4
    | some C =>
      rw [hA] at c4
      obtain ⟨q1, eb, q2, (q3 : b + 3 < eb), q4⟩ := c4
      exact ⟨(hi_row _ _ _ (by omega)).trans q1, eb, q2, q3, q4.1, fun j hj => (hi_row _ _ _ (by omega)).trans (q4.2 j hj)⟩
theorem c_lonce (gt : GT T N) {b i u M : Nat} {A : Ac} {h : Hp} (hb : 88 ≤ b) (nb : b + 3 < h.1.length) (c : CT h T Pl N i u) (hu : u ≤ 80) (cx : CX h b A) (hM : hi h 9 11 = nI M) (hM9 : M < 2 ^ 9) (t0 : T i ≠ 0) (tl0 : ∀ k, hi h 0 k = ls0.getD k 0) (tl1 : ∀ k, hi h 1 k = ms0.getD k 0) : ∃ g, f_X2_readOnce 9 (some b) h = some g ∧ CFb b h g ∧ CLn h g T Pl N b (gLn T (i, u, M, A)) := by
  have l := c.1.len
  have X := c.1
  have c7 := c.2.2.2.2.1
  have tl := okT_lt (gt.2.2.2 i)
  obtain ⟨w, hw⟩ : ∃ w, w = T i := ⟨_, rfl⟩
  unfold gLn
  simp only
  rw [if_neg t0, ← hw]
  rw [← hw] at c7 tl t0
  have q1 : ¬ nI w < (1 : Int32) := fun z => by have := (nI_ltI (b := 1) (by omega) (by decide)).mp z; omega
  have q8 : (8 : Int32) < nI w ↔ 8 < w := nI_ltI (a := 8) (by decide) (by omega)
  have rfs : ∃ g, f_X2_refuse 9 (2 : Int32) h = some g ∧ Fr [] [(9, 7), (9, 12), (9, 13)] h g ∧ DD g T Pl (i, 2) := c_refuse gt c (w := 2) (Or.inl rfl)
  obtain ⟨gr, ra1, ra2, ra3⟩ := rfs
  unfold f_X2_readOnce
  rw [gi9 X, bd_some, c7, if_neg q1]
  by_cases c8 : 8 < w
  · rw [if_pos (q8.mpr c8), if_neg (by omega), rc9 X, bd_some, ra1, bd_some]
    exact ⟨gr, rfl, ra2.cfb (by omega) (by decide) (by decide), ra3⟩
  rw [if_neg (fun z => c8 (q8.mp z)), gi9 X, bd_some, hM, seen_bit hM9 (by omega)]
  by_cases cs : M.testBit w = true
  · rw [if_pos cs, if_neg (by decide), rc9 X, bd_some, ra1, bd_some, if_neg (fun z => by rw [cs] at z; cases z.2)]
    exact ⟨gr, rfl, ra2.cfb (by omega) (by decide) (by decide), ra3⟩
  have cs' : M.testBit w = false := by cases h' : M.testBit w <;> simp_all
  obtain ⟨s1, s2⟩ := seen_put hM9 (w := w) (by omega)
  rw [if_neg cs, if_pos rfl, bd_some, s1, pi9 X, bd_some, if_pos ⟨by omega, cs'⟩]
  obtain ⟨g0, e0⟩ : ∃ g, g = si h 9 11 (nI (M ||| 2 ^ w)) := ⟨_, rfl⟩
  rw [← e0]
  have F0 : CFb b h g0 := by rw [e0]; exact si11_cfb
  have K0 : KB b h g0 := by rw [e0]; exact si11_kb hb
  have fr0 : Fr [] [(9, 11)] h g0 := by rw [e0]; exact Fr.fld (by decide)
  have ct0 : CT g0 T Pl N i u := c.fr fr0 (by decide) (by decide)
  have m0 : hi g0 9 11 = nI (M ||| 2 ^ w) := by rw [e0, hi_hit]
  have ne : i ≠ N := fun e => by rw [e] at hw; have := gt.2.1; omega
  have ci := c.2.2.2.2.2.2
  obtain ⟨g1, a1, a2, a3⟩ := c_nextT gt ct0 (by omega)
  have kk0 : g0.1 = h.1 := fr0.1
  have kk1 : g1.1 = h.1 := a2.1.trans fr0.1
  have F1 : CFb b h g1 := F0.trans (a2.cfb (by rw [kk0]; omega) (by decide) (by decide))
  have X1 : CX g1 b A := (cx.kb K0).kb (a2.kb hb (by decide) (by decide))
  have m1 : hi g1 9 11 = nI (M ||| 2 ^ w) := (a2.ef (by decide) (by decide)).trans m0
  have n1 : hi g1 b 5 = hi h b 5 := (a2.ef (by simp) (by simp <;> omega)).trans (fr0.ef (by simp) (by simp <;> omega))
  rw [rc9 ct0.1, bd_some, a1, bd_some]
  have qw1 : nI w = (1 : Int32) ↔ w = 1 := nI_eq (b := 1) (by omega) (by decide)
  by_cases c1 : w = 1
  · rw [if_pos (qw1.mpr c1), if_pos c1]
    obtain ⟨g, r1, r2, r3, r4, r5⟩ := emp_A gt hb (by rw [kk1]; exact nb) a3 hu X1
    refine ⟨g, r1, F1.trans r2, ?_⟩
    cases hr : gW T (i + 1) u with
    | inl e =>
      rw [hr] at r5
      exact r5
    | inr r =>
      rw [hr] at r5
      exact ⟨r5.1, r5.2, r3.trans n1, r4.trans m1⟩
  rw [if_neg (fun z => c1 (qw1.mp z)), if_neg c1]
  obtain ⟨n, hn⟩ : ∃ n, n = w - 2 := ⟨_, rfl⟩
  have hn7 : n < 7 := by omega
  have en : nI w - (2 : Int32) = nI n := by rw [show (2 : Int32) = nI 2 from rfl, pk_sub (by omega), hn]
  obtain ⟨t1, t2, t3, t4⟩ := lo_tab n hn7
  have kA : hk g1 0 = some (10, 7) := a3.1.kd (a := 0) (by decide) (by decide) rfl
  have kB : hk g1 1 = some (10, 7) := a3.1.kd (a := 1) (by decide) (by decide) rfl
  have vA : hi g1 0 n = nI (loN n) := by rw [F1.2.1 0 n (by omega) (by decide) (by unfold BQx; simp), tl0, t1]
  have vB : hi g1 1 n = nI (hiN n) := by rw [F1.2.1 1 n (by omega) (by decide) (by unfold BQx; simp), tl1, t2]
  rw [en, at_in kA hn7 (by decide), b1_some, at_in kB hn7 (by decide), b1_some, vA, vB, rc9 a3.1, bd_some, ← hn]
  have cn := c_num gt a3 t3 t4
  -- behind a fault at the number
  have bad : ∀ g2 e, f_X2_takeNumber 9 (nI (loN n)) (nI (hiN n)) g1 = some (nI (loN n), g2) → Fr [] [(9, 7), (9, 12), (9, 13)] g1 g2 → DD g2 T Pl e → ∃ g, (b1 (f_X2_takeNumber 9 (nI (loN n)) (nI (hiN n)) g1) fun x35 h31 =>
          Option.bind ((if nI n < (0 : Int32) then
              some h31
            else
              (getQ h31 (some b) 0 4).bind fun x46 =>
              (aln h31 x46 10).bind fun x48 =>
              if x48 ≤ nI n then
                some h31
              else
                (getQ h31 (some b) 0 4).bind fun x51 =>
                (wrI h31 x51 (nI n) x35).bind fun h53 =>
                some h53 : Option (Hp))) fun h55 =>
          (rc h55 (some 9) 2).bind fun g59 =>
          (f_X2_take g59 (59 : Int32) h55).bind fun h57 =>
          some h57) = some g ∧ CFb b h g ∧ DD g T Pl e := by
    intro g2 e b1' b2' b3'
    have X2 : CX g2 b A := X1.kb (b2'.kb hb (by decide) (by decide))
    have kk2 : g2.1 = h.1 := b2'.1.trans kk1
    rw [b1', b1_some, num_put hb hn7 X2.1 X2.2.2.1 X2.2.2.2.2.1, bd_some]
    obtain ⟨g3, e3⟩ : ∃ g, g = si g2 (b + 3) n (nI (loN n)) := ⟨_, rfl⟩
    have fr3 : Fr [] [(b + 3, n)] g2 g3 := by rw [e3]; exact num_fr
    have F3 : CFb b g2 g3 := by rw [e3]; exact num_cfb
    have d3 : DD g3 T Pl e := b3'.same (fr3.fx b3'.1) (fun k => by rw [e3]; exact hi_row _ _ _ (by omega))
    obtain ⟨g4, z1, z2, z3⟩ := c_takeD d3 (w := 59) (by decide)
    rw [← e3, rc9 d3.1, bd_some, z1, bd_some]
    exact ⟨g4, rfl, ((F1.trans (b2'.cfb (by rw [kk1]; omega) (by decide) (by decide))).trans F3).trans (z2.cfb (by rw [fr3.1, kk2]; omega) (by decide) (by decide)), z3⟩
  by_cases c3 : 1000 ≤ T (i + 1)
  · rw [if_pos c3]
    by_cases c4 : loN n ≤ T (i + 1) - 1000 ∧ T (i + 1) - 1000 ≤ hiN n
    · rw [if_pos c4]
      obtain ⟨g2, b1', b2', b3'⟩ := cn.1 c3 c4
      have X2 : CX g2 b A := X1.kb (b2'.kb hb (by decide) (by decide))
      have kk2 : g2.1 = h.1 := b2'.1.trans kk1
      rw [b1', b1_some, num_put hb hn7 X2.1 X2.2.2.1 X2.2.2.2.2.1, bd_some]
      obtain ⟨g3, e3⟩ : ∃ g, g = si g2 (b + 3) n (nI (T (i + 1) - 1000)) := ⟨_, rfl⟩
      have fr3 : Fr [] [(b + 3, n)] g2 g3 := by rw [e3]; exact num_fr
      have F3 : CFb b g2 g3 := by rw [e3]; exact num_cfb
      have X3 : CX g3 b (upd A.1 n (nI (T (i + 1) - 1000)), A.2) := by rw [e3]; exact num_cx hn7 X2
      have ct3 : CT g3 T Pl N (i + 1 + 1) u := b3'.same (fr3.fx b3'.1) (fun k => by rw [e3]; exact hi_row _ _ _ (by omega)) (fun k => by rw [e3]; exact hi_row _ _ _ (by omega)) (fun k => by rw [e3]; exact hi_row _ _ _ (by omega))
      have F3' : CFb b h g3 := (F1.trans (b2'.cfb (by rw [kk1]; omega) (by decide) (by decide))).trans F3
      have kk3 : g3.1 = h.1 := fr3.1.trans kk2
      have tk' := c_take gt ct3 (w := 59) (by decide)
      rw [← e3, rc9 ct3.1, bd_some]
      by_cases c5 : T (i + 2) = 59
      · rw [if_pos c5]
        obtain ⟨g4, z1, z2, z3⟩ := tk'.1 c5
        have z1' : f_X2_take 9 (59 : Int32) g3 = some g4 := z1
        rw [z1', bd_some]
        refine ⟨g4, rfl, F3'.trans (z2.cfb (by rw [kk3]; omega) (by decide) (by decide)), z3, X3.kb (z2.kb hb (by decide) (by decide)), ?_, ?_⟩
        · rw [z2.ef (by simp) (by simp <;> omega), e3, hi_row _ _ _ (by omega), b2'.ef (by simp) (by simp <;> omega)]
          exact n1
        · show hi g4 9 11 = nI (M ||| 2 ^ w)
          rw [z2.ef (by simp) (by simp), e3, hi_row _ _ _ (by omega), b2'.ef (by simp) (by simp)]
          exact m1
      · rw [if_neg c5]
        obtain ⟨g4, z1, z2, z3⟩ := tk'.2 c5
        have z1' : f_X2_take 9 (59 : Int32) g3 = some g4 := z1
        rw [z1', bd_some]
        exact ⟨g4, rfl, F3'.trans (z2.cfb (by rw [kk3]; omega) (by decide) (by decide)), z3⟩
    · rw [if_neg c4]
      obtain ⟨g2, b1', b2', b3'⟩ := cn.2.1 c3 c4
      exact bad g2 _ b1' b2' b3'
  · rw [if_neg c3]
    obtain ⟨g2, b1', b2', b3'⟩ := cn.2.2 (by omega)
    exact bad g2 _ b1' b2' b3'
end Co
