/-! The class reads as the grammar says. -/
def CRes (g : Hp) (T Pl : Nat → Nat) (N : Nat) (s : PS) : GR → Prop
  | .inl e => DD g T Pl e ∧ ∃ m, hi g 9 9 = nI m ∧ m + s.1 ≤ s.2.2.length + N
  | .inr s' => CT g T Pl N s'.1 s'.2.1 ∧ SP g s'.2.2
theorem CRes.mono {g : Hp} {T Pl : Nat → Nat} {N : Nat} {s s1 : PS} {r : GR} (hl : s1.2.2.length + s.1 ≤ s.2.2.length + s1.1) (c : CRes g T Pl N s1 r) : CRes g T Pl N s r := by
  cases r with
  | inl e =>
    obtain ⟨c1, m, c2, c3⟩ := c
    exact ⟨c1, m, c2, by omega⟩
  | inr s' => exact c
section Ce
variable {T Pl : Nat → Nat} {N : Nat}
theorem c_lf (gt : GT T N) {h : Hp} {s : PS} (c : CT h T Pl N s.1 s.2.1) (sp : SP h s.2.2) (hl : s.2.2.length < s.1) {b m : Nat} (hb : b ≤ 20000) (hm : m = 17 ∨ m = 22) : ∃ g, f_X2_readLeaf 9 (nI b) (nI m) h = some g ∧ Fr [13] BR h g ∧ CRes g T Pl N s (gLeaf T b m s) := by
  have X := c.1
  have c7 := c.2.2.2.2.1
  have ci := c.2.2.2.2.2.2
  have hN := gt.1
  have tl := okT_lt (gt.2.2.2 s.1)
  have q1 : nI (T s.1) < (13 : Int32) ↔ T s.1 < 13 := nI_ltI (b := 13) (by omega) (by decide)
  have q2 : nI (T s.1) ≤ nI m ↔ T s.1 ≤ m := nI_leI (by omega) (by omega)
  unfold gLeaf f_X2_readLeaf
  have bad : ¬ (13 ≤ T s.1 ∧ T s.1 ≤ m) → ∃ g, (((rc h (some 9) 2).bind fun g6 => (f_X2_refuse g6 (2 : Int32) h).bind fun h4 => some h4) = some g) ∧ Fr [13] BR h g ∧ CRes g T Pl N s (if 13 ≤ T s.1 ∧ T s.1 ≤ m then .inr (s.1 + 1, s.2.1, s.2.2 ++ [b + T s.1 - 13]) else .inl (s.1, 2)) := by
    intro cc
    obtain ⟨g, a1, a2, a3⟩ := c_refuse gt c (w := 2) (Or.inl rfl)
    have a1' : f_X2_refuse 9 (2 : Int32) h = some g := a1
    rw [if_neg cc]
    exact ⟨g, by rw [rc9 X, bd_some, a1', bd_some], a2.wk (by decide) (by decide), a3, _, (a2.ef (by decide) (by decide)).trans sp.1, by omega⟩
  rw [gi9 X, bd_some, c7]
  by_cases c1 : T s.1 < 13
  · rw [if_pos (q1.mpr c1)]
    exact bad (by omega)
  · rw [if_neg (fun z => c1 (q1.mp z)), bd_some]
    by_cases c2 : T s.1 ≤ m
    · have ne : s.1 ≠ N := fun e => by rw [e] at c1 c2; have := gt.2.1; omega
      have ev : nI b + nI (T s.1) - (13 : Int32) = nI (b + T s.1 - 13) := by
        rw [nI_add, show (13 : Int32) = nI 13 from rfl, pk_sub (by omega)]
      rw [if_pos (q2.mpr c2), if_pos ⟨by omega, c2⟩, bd_some, rc9 X, bd_some, ev, c_step X sp.1 (by omega), bd_some]
      have fr : Fr [13] [(9, 9)] h (si (si h 13 s.2.2.length (nI (b + T s.1 - 13))) 9 9 (nI (s.2.2.length + 1))) := (Fr.row (by decide)).trans (Fr.fld (by decide))
      have ct := c.fr fr (by decide) (by decide)
      obtain ⟨g, a1, a2, a3⟩ := c_nextT gt ct (by omega)
      refine ⟨g, by rw [rc9 ct.1, bd_some, a1, bd_some], (fr.wk (by decide) (by decide)).trans (a2.wk (by decide) (by decide)), a3, ?_⟩
      exact (sp.put _).fr a2 (by decide) (by decide) (by decide) (by decide)
    · rw [if_neg (fun z => c2 (q2.mp z))]
      exact bad (fun z => c2 z.2)
theorem c_loop (gt : GT T N) {f a b : Nat} (ha : a < 5) (ih : ∀ h (s : PS), CT h T Pl N s.1 s.2.1 → SP h s.2.2 → s.2.2.length < s.1 → s.2.1 ≤ 80 → ∃ g, f_rg f 0 9 (nI (a + 1)) (nI b) h = some g ∧ Fr [13] BR h g ∧ CRes g T Pl N s (G T f 0 (a + 1) b s)) (most : Nat) (hM : most ≤ 900) :
    ∀ m n c h (s : PS), c + m = most → m < n → CT h T Pl N s.1 s.2.1 → SP h s.2.2 → s.2.2.length < s.1 → s.2.1 ≤ 80 → ∃ g, f_X2_readLevel_L55 (f_rg f) n 9 (nI a) (nI b) (nI most) (nI c) h = some g ∧ Fr [13] BR h g ∧ CRes g T Pl N s (gL T (G T f 0 (a + 1) b) a m s) := by
  intro m
  induction m with
  | zero =>
    intro n c h s hc hn ct sp hl hu
    obtain ⟨n, rfl⟩ : ∃ n', n = n' + 1 := ⟨n - 1, by omega⟩
    refine ⟨h, ?_, Fr.rfl, ct, sp⟩
    rw [f_X2_readLevel_L55.eq_2, if_pos (by rw [nI_leI (by omega) (by omega)]; omega)]
  | succ m ihm =>
    intro n c h s hc hn ct sp hl hu
    obtain ⟨n, rfl⟩ : ∃ n', n = n' + 1 := ⟨n - 1, by omega⟩
    have X := ct.1
    have c7 := ct.2.2.2.2.1
    have ci := ct.2.2.2.2.2.2
    have hN := gt.1
    have tl := okT_lt (gt.2.2.2 s.1)
    have qc : ¬ nI most ≤ nI c := by rw [nI_leI (by omega) (by omega)]; omega
    rw [f_X2_readLevel_L55.eq_2, if_neg qc, gi9 X, bd_some, c7, c_level tl, b1_some]
    unfold gL
    by_cases cl : lvO (T s.1) = a
    · have l5 : lvO (T s.1) < 5 := by omega
      have jt := lvO_jtok l5
      have ne : s.1 ≠ N := fun e => by rw [e] at jt; have := gt.2.1; omega
      rw [if_pos l5, cl, if_pos rfl, if_pos rfl, gi9 X, bd_some, c7, rc9 X, bd_some]
      obtain ⟨g1, a1, a2, a3⟩ := c_nextT gt ct (by omega)
      have sp1 : SP g1 s.2.2 := sp.fr a2 (by decide) (by decide) (by decide) (by decide)
      obtain ⟨g2, b1', b2', b3'⟩ := ih g1 (s.1 + 1, s.2.1, s.2.2) a3 sp1 (by show s.2.2.length < s.1 + 1; omega) hu
      rw [a1, bd_some, rc9 a3.1, bd_some, nI_1, b1', bd_some]
      have fr2 : Fr [13] BR h g2 := (a2.wk (by decide) (by decide)).trans b2'
      have gp := gp_all hN gt.2.1 gt.2.2.2 f 0 (a + 1) b (s.1 + 1, s.2.1, s.2.2) (fun _ => by omega) (fun z => by omega) (by show s.1 + 1 ≤ N; omega) hu
      cases hr : G T f 0 (a + 1) b (s.1 + 1, s.2.1, s.2.2) with
      | inl e =>
        rw [hr] at b3'
        obtain ⟨d, m', d1, d2⟩ := b3'
        simp only at d2
        have fr3 : Fr [13] BR g2 (si (si g2 13 m' ((20000 : Int32) + nI (T s.1))) 9 9 (nI (m' + 1))) := (Fr.row (by decide)).trans (Fr.fld (by decide))
        have d' : DD (si (si g2 13 m' ((20000 : Int32) + nI (T s.1))) 9 9 (nI (m' + 1))) T Pl e := d.fr (A := [13]) (B := [(9, 9)]) ((Fr.row (by decide)).trans (Fr.fld (by decide))) (by decide) (by decide)
        refine ⟨_, ?_, fr2.trans fr3, d', m' + 1, hi_hit _ _ _, by omega⟩
        rw [rc9 d.1, bd_some, c_step d.1 d1 (by omega), bd_some]
        have na : ¬ (-1 : Int32) = nI a := fun z => nI_m1 (by omega) z.symm
        obtain ⟨n, rfl⟩ : ∃ n', n = n' + 1 := ⟨n - 1, by omega⟩
        rw [f_X2_readLevel_L55.eq_2, gi9 d'.1, bd_some, d'.2.2.2.1, c_levelD, b1_some, if_neg na]
        split <;> rfl
      | inr s' =>
        rw [hr] at b3' gp
        obtain ⟨d, d1⟩ := b3'
        rw [if_pos rfl] at gp
        obtain ⟨p1, p2, p3, p4, p5, dd, p6, p7, p8⟩ := gp
        simp only at p1 p3 p6 p7
        have ev : (20000 : Int32) + nI (T s.1) = nI (20000 + T s.1) := nI_add 20000 _
        have len : s'.2.2.length = s.2.2.length + dd.length := by rw [p6, List.length_append]
        have fr3 : Fr [13] [(9, 9)] g2 (si (si g2 13 s'.2.2.length (nI (20000 + T s.1))) 9 9 (nI (s'.2.2.length + 1))) := (Fr.row (by decide)).trans (Fr.fld (by decide))
        have d' := d.fr fr3 (by decide) (by decide)
        obtain ⟨g3, e1, e2, e3⟩ := ihm n (c + 1) (si (si g2 13 s'.2.2.length (nI (20000 + T s.1))) 9 9 (nI (s'.2.2.length + 1))) (s'.1, s'.2.1, s'.2.2 ++ [20000 + T s.1]) (by omega) (by omega) d' (d1.put _) (by show (s'.2.2 ++ [20000 + T s.1]).length < s'.1; rw [List.length_append, List.length_singleton]; omega) p4
        rw [elim_inr]
        refine ⟨g3, ?_, (fr2.trans (fr3.wk (by decide) (by decide))).trans e2, e3.mono ?_⟩
        · rw [rc9 d.1, bd_some, ev, c_step d.1 d1.1 (by omega), bd_some, nI_1]
          exact e1
        · show (s'.2.2 ++ [20000 + T s.1]).length + s.1 ≤ s.2.2.length + s'.1
          rw [List.length_append, List.length_singleton]
          omega
    · refine ⟨h, ?_, Fr.rfl, ?_⟩
      · by_cases l5 : lvO (T s.1) < 5
        · rw [if_pos l5, if_neg (fun z => cl ((nI_eq (by omega) (by omega)).mp z))]
        · rw [if_neg l5, if_neg (fun z => nI_m1 (by omega) z.symm)]
      · rw [if_neg cl]
        exact ⟨ct, sp⟩
theorem c_take (gt : GT T N) {h : Hp} {i u w : Nat} (c : CT h T Pl N i u) (hw : w < 1000 ∧ w ≠ 25 ∧ w ≠ 26) : (T i = w → ∃ g, f_X2_take 9 (nI w) h = some g ∧ Fr [] [(9, 6), (9, 7)] h g ∧ CT g T Pl N (i + 1) u) ∧ (T i ≠ w → ∃ g, f_X2_take 9 (nI w) h = some g ∧ Fr [] [(9, 7), (9, 12), (9, 13)] h g ∧ DD g T Pl (i, 2)) := by
  have X := c.1
  have c7 := c.2.2.2.2.1
  have ci := c.2.2.2.2.2.2
  have tl := okT_lt (gt.2.2.2 i)
  constructor
  · intro e
    have ne : i ≠ N := fun e' => by rw [e'] at e; have := gt.2.1; omega
    obtain ⟨g, a1, a2, a3⟩ := c_nextT gt c (by omega)
    refine ⟨g, ?_, a2, a3⟩
    unfold f_X2_take
    rw [gi9 X, bd_some, c7, if_pos (by rw [e]), rc9 X, bd_some, a1, bd_some, bd_some]
  · intro e
    obtain ⟨g, a1, a2, a3⟩ := c_refuse gt c (w := 2) (Or.inl rfl)
    have a1' : f_X2_refuse 9 (2 : Int32) h = some g := a1
    refine ⟨g, ?_, a2, a3⟩
    unfold f_X2_take
    rw [gi9 X, bd_some, c7, if_neg (fun z => e ((nI_eq (by omega) (by omega)).mp z)), rc9 X, bd_some, a1', bd_some, bd_some]
theorem c_takeD {h : Hp} {e : Nat × Nat} (d : DD h T Pl e) {w : Int32} (hw : ¬ (26 : Int32) = w) : ∃ g, f_X2_take 9 w h = some g ∧ Fr [] [(9, 7)] h g ∧ DD g T Pl e := by
  obtain ⟨g, a1, a2, a3⟩ := c_refuseD d 2
  refine ⟨g, ?_, a2, a3⟩
  unfold f_X2_take
  rw [gi9 d.1, bd_some, d.2.2.2.1, if_neg hw, rc9 d.1, bd_some, a1, bd_some, bd_some]
theorem c_rg (gt : GT T N) : ∀ f k a b, (k = 0 ∧ a ≤ 5 ∧ b ≤ 7 ∧ 8 * (8 - b) < a + f ∨ k = 1 ∧ a ≤ 7 ∧ 8 * (8 - a) < 3 + f ∨ k = 2 ∧ a ≤ 7 ∧ 8 * (8 - a) < 6 + f) → ∀ h (s : PS), CT h T Pl N s.1 s.2.1 → SP h s.2.2 → s.2.2.length < s.1 → s.2.1 ≤ 80 → (k = 1 → T s.1 = 12) → ∃ g, f_rg f k 9 (nI a) (nI b) h = some g ∧ Fr [13] BR h g ∧ CRes g T Pl N s (G T f k a b s) := by
  intro f
  induction f with
  | zero => intro k a b hk'; omega
  | succ f ih =>
    intro k a b hk' h s ct sp hl hu h12
    have X := ct.1
    have c7 := ct.2.2.2.2.1
    have ci := ct.2.2.2.2.2.2
    have hN := gt.1
    have tl := okT_lt (gt.2.2.2 s.1)
    rw [f_rg.eq_2]
    unfold G
    rcases hk' with ⟨k0, ha, hb, hf⟩ | ⟨k1, ha, hf⟩ | ⟨k2, ha, hf⟩
    · rw [if_pos k0, if_pos k0]
      unfold f_X2_readLevel
      by_cases c1 : a < 5
      · rw [if_pos (show nI a < (5 : Int32) from (nI_ltI (b := 5) (by omega) (by decide)).mpr c1), if_pos c1]
        have e2 : nI a = (2 : Int32) ↔ a = 2 := nI_eq (b := 2) (by omega) (by decide)
        have e12 : nI (T s.1) = (12 : Int32) ↔ T s.1 = 12 := nI_eq (b := 12) (by omega) (by decide)
        have ih1 : ∀ h (s : PS), CT h T Pl N s.1 s.2.1 → SP h s.2.2 → s.2.2.length < s.1 → s.2.1 ≤ 80 → ∃ g, f_rg f 0 9 (nI (a + 1)) (nI b) h = some g ∧ Fr [13] BR h g ∧ CRes g T Pl N s (G T f 0 (a + 1) b s) := fun h s z1 z2 z3 z4 => ih 0 (a + 1) b (Or.inl ⟨rfl, by omega, hb, by omega⟩) h s z1 z2 z3 z4 (fun z => by omega)
        have rest : ¬ (a = 2 ∧ T s.1 = 12) → ∃ g, ((rc h (some 9) 2).bind fun g5 => (f_rg f 0 g5 (nI a + 1) (nI b) h).bind fun h3 => b1 ((if nI a = (2 : Int32) then some (1, h3) else some (900, h3) : Option (Int32 × Hp))) fun w8 h9 => (f_X2_readLevel_L55 (f_rg f) fu 9 (nI a) (nI b) w8 0 h9).bind fun h32 => some h32) = some g ∧ Fr [13] BR h g ∧ CRes g T Pl N s (if a = 2 ∧ T s.1 = 12 then G T f 1 b 0 s else Sum.elim .inl (gL T (G T f 0 (a + 1) b) a (if a = 2 then 1 else 900)) (G T f 0 (a + 1) b s)) := by
          intro cc
          rw [if_neg cc]
          obtain ⟨g1, a1, a2, a3⟩ := ih1 h s ct sp hl hu
          have sel : b1 ((if nI a = (2 : Int32) then some (1, g1) else some (900, g1) : Option (Int32 × Hp))) (fun w8 h9 => (f_X2_readLevel_L55 (f_rg f) fu 9 (nI a) (nI b) w8 0 h9).bind fun h32 => some h32) = f_X2_readLevel_L55 (f_rg f) fu 9 (nI a) (nI b) (nI (if a = 2 then 1 else 900)) (nI 0) g1 := by
            have id : ∀ z : Option Hp, (z.bind fun h32 => some h32) = z := fun z => by cases z <;> rfl
            by_cases c2 : a = 2
            · rw [if_pos (e2.mpr c2), if_pos c2, b1_some, id]
              rfl
            · rw [if_neg (fun z => c2 (e2.mp z)), if_neg c2, b1_some, id]
              rfl
          rw [rc9 X, bd_some, nI_1, a1, bd_some, sel]
          have gp := gp_all hN gt.2.1 gt.2.2.2 f 0 (a + 1) b s (fun _ => by omega) (fun z => by omega) ci hu
          cases hr : G T f 0 (a + 1) b s with
          | inl e =>
            rw [hr] at a3
            refine ⟨g1, ?_, a2, a3⟩
            have na : ¬ (-1 : Int32) = nI a := fun z => nI_m1 (by omega) z.symm
            obtain ⟨n, en⟩ := fu_ex 1 (by decide)
            rw [en, f_X2_readLevel_L55.eq_2, if_neg (by split <;> decide), gi9 a3.1.1, bd_some, a3.1.2.2.2.1, c_levelD, b1_some, if_neg na]
          | inr s' =>
            rw [hr] at a3 gp
            rw [if_pos rfl] at gp
            obtain ⟨p1, p2, p3, p4, p5, dd, p6, p7, p8⟩ := gp
            have len : s'.2.2.length = s.2.2.length + dd.length := by rw [p6, List.length_append]
            have m9 : (if a = 2 then 1 else 900) ≤ 900 := by split <;> omega
            obtain ⟨g2, b1', b2', b3'⟩ := c_loop gt c1 ih1 (if a = 2 then 1 else 900) m9 (if a = 2 then 1 else 900) fu 0 g1 s' (by omega) (fu_gt (by omega)) a3.1 a3.2 (by omega) p4
            rw [elim_inr]
            exact ⟨g2, b1', a2.trans b2', b3'.mono (by omega)⟩
        by_cases c2 : a = 2
        · rw [if_pos (e2.mpr c2), gi9 X, bd_some, c7]
          by_cases c3 : T s.1 = 12
          · obtain ⟨g, a1, a2, a3⟩ := ih 1 b 0 (Or.inr (Or.inl ⟨rfl, hb, by omega⟩)) h s ct sp hl hu (fun _ => c3)
            have a1' : f_rg f 1 9 (nI b) 0 h = some g := a1
            rw [if_pos (e12.mpr c3), if_pos ⟨c2, c3⟩]
            exact ⟨g, by rw [rc9 X, bd_some, a1', bd_some], a2, a3⟩
          · rw [if_neg (fun z => c3 (e12.mp z))]
            exact rest (fun z => c3 z.2)
        · rw [if_neg (fun z => c2 (e2.mp z))]
          exact rest (fun z => c2 z.1)
      · rw [if_neg (show ¬ nI a < (5 : Int32) from fun z => c1 ((nI_ltI (b := 5) (by omega) (by decide)).mp z)), if_neg c1]
        obtain ⟨g, a1, a2, a3⟩ := ih 2 b 0 (Or.inr (Or.inr ⟨rfl, hb, by omega⟩)) h s ct sp hl hu (fun z => by omega)
        have a1' : f_rg f 2 9 (nI b) 0 h = some g := a1
        exact ⟨g, by rw [rc9 X, bd_some, a1', bd_some], a2, a3⟩
    · rw [if_neg (by omega), if_pos k1, if_neg (by omega), if_pos k1]
      have t12 := h12 k1
      have ne : s.1 ≠ N := fun e => by rw [e] at t12; have := gt.2.1; omega
      unfold f_X2_readNot
      have e7 : nI a < (7 : Int32) ↔ a < 7 := nI_ltI (b := 7) (by omega) (by decide)
      by_cases c1 : a < 7
      · rw [if_pos (e7.mpr c1), if_pos c1]
        obtain ⟨g1, a1, a2, a3⟩ := c_nextT gt ct (by omega)
        have sp1 : SP g1 s.2.2 := sp.fr a2 (by decide) (by decide) (by decide) (by decide)
        obtain ⟨g2, b1', b2', b3'⟩ := ih 0 2 (a + 1) (Or.inl ⟨rfl, by omega, by omega, by omega⟩) g1 (s.1 + 1, s.2.1, s.2.2) a3 sp1 (by show s.2.2.length < s.1 + 1; omega) hu (fun z => by omega)
        have b1'' : f_rg f 0 9 2 (nI (a + 1)) g1 = some g2 := b1'
        rw [rc9 X, bd_some, a1, bd_some, rc9 a3.1, bd_some, nI_1, b1'', bd_some]
        have fr2 : Fr [13] BR h g2 := (a2.wk (by decide) (by decide)).trans b2'
        have gp := gp_all hN gt.2.1 gt.2.2.2 f 0 2 (a + 1) (s.1 + 1, s.2.1, s.2.2) (fun _ => by omega) (fun z => by omega) (by show s.1 + 1 ≤ N; omega) hu
        cases hr : G T f 0 2 (a + 1) (s.1 + 1, s.2.1, s.2.2) with
        | inl e =>
          rw [hr] at b3'
          obtain ⟨d, m', d1, d2⟩ := b3'
          simp only at d2
          have d' : DD (si (si g2 13 m' 20012) 9 9 (nI (m' + 1))) T Pl e := d.fr (A := [13]) (B := [(9, 9)]) ((Fr.row (by decide)).trans (Fr.fld (by decide))) (by decide) (by decide)
          refine ⟨_, ?_, fr2.trans ((Fr.row (by decide)).trans (Fr.fld (by decide))), d', m' + 1, hi_hit _ _ _, by omega⟩
          rw [rc9 d.1, bd_some, c_step d.1 d1 (by omega), bd_some]
        | inr s' =>
          rw [hr] at b3' gp
          obtain ⟨d, d1⟩ := b3'
          rw [if_pos rfl] at gp
          obtain ⟨p1, p2, p3, p4, p5, dd, p6, p7, p8⟩ := gp
          simp only at p1 p3 p6 p7
          have len : s'.2.2.length = s.2.2.length + dd.length := by rw [p6, List.length_append]
          have fr3 : Fr [13] [(9, 9)] g2 (si (si g2 13 s'.2.2.length (nI 20012)) 9 9 (nI (s'.2.2.length + 1))) := (Fr.row (by decide)).trans (Fr.fld (by decide))
          rw [elim_inr]
          refine ⟨_, ?_, fr2.trans (fr3.wk (by decide) (by decide)), d.fr fr3 (by decide) (by decide), d1.put _⟩
          rw [rc9 d.1, bd_some, c_step d.1 d1.1 (by omega), bd_some]
          rfl
      · rw [if_neg (fun z => c1 (e7.mp z)), if_neg c1]
        obtain ⟨g, a1, a2, a3⟩ := c_refuse gt ct (w := 2) (Or.inl rfl)
        have a1' : f_X2_refuse 9 (2 : Int32) h = some g := a1
        exact ⟨g, by rw [rc9 X, bd_some, a1', bd_some], a2.wk (by decide) (by decide), a3, _, (a2.ef (by decide) (by decide)).trans sp.1, by omega⟩
    · rw [if_neg (by omega), if_neg (by omega), if_neg (by omega), if_neg (by omega)]
      unfold f_X2_readUnit
      have c10 := ct.2.2.2.2.2.1.1
      have e80 : nI s.2.1 < (80 : Int32) ↔ s.2.1 < 80 := nI_ltI (b := 80) (by omega) (by decide)
      have bad : ∃ g, ((rc h (some 9) 2).bind fun g105 => (f_X2_refuse g105 (2 : Int32) h).bind fun h103 => some h103) = some g ∧ Fr [13] BR h g ∧ CRes g T Pl N s (.inl (s.1, 2)) := by
        obtain ⟨g, a1, a2, a3⟩ := c_refuse gt ct (w := 2) (Or.inl rfl)
        have a1' : f_X2_refuse 9 (2 : Int32) h = some g := a1
        exact ⟨g, by rw [rc9 X, bd_some, a1', bd_some], a2.wk (by decide) (by decide), a3, _, (a2.ef (by decide) (by decide)).trans sp.1, by omega⟩
      rw [gi9 X, bd_some, c10]
      by_cases c1 : s.2.1 < 80
      · rw [if_pos (e80.mpr c1), if_pos c1, bd_some, nI_1, pi9 X, bd_some]
        obtain ⟨h6, e6⟩ : ∃ h6, h6 = si h 9 10 (nI (s.2.1 + 1)) := ⟨_, rfl⟩
        rw [← e6]
        have fr6 : Fr [] [(9, 10)] h h6 := by rw [e6]; exact Fr.fld (by decide)
        have ct6 : CT h6 T Pl N s.1 (s.2.1 + 1) := by
          obtain ⟨-, tb, y12, y6, y7, y10, yi⟩ := ct
          exact ⟨fr6.fx X, tb.fr fr6 (by decide) (by decide) (by decide) (by decide) (by decide) (by decide), (fr6.ef (by decide) (by decide)).trans y12, (fr6.ef (by decide) (by decide)).trans y6, (fr6.ef (by decide) (by decide)).trans y7, ⟨by rw [e6]; exact hi_hit _ _ _, (fr6.ef (by decide) (by decide)).trans y10.2⟩, yi⟩
        have sp6 : SP h6 s.2.2 := sp.fr fr6 (by decide) (by decide) (by decide) (by decide)
        have X6 := ct6.1
        have f67 : hi h6 9 7 = nI (T s.1) := ct6.2.2.2.2.1
        have fr6' : Fr [13] BR h h6 := fr6.wk (by decide) (by decide)
        have e1000 : nI (T s.1) < (1000 : Int32) ↔ T s.1 < 1000 := nI_ltI (b := 1000) (by omega) (by decide)
        have e23 : nI (T s.1) = (23 : Int32) ↔ T s.1 = 23 := nI_eq (b := 23) (by omega) (by decide)
        have e40 : nI (T s.1) = (40 : Int32) ↔ T s.1 = 40 := nI_eq (b := 40) (by omega) (by decide)
        have e7 : (7 : Int32) ≤ nI a ↔ 7 ≤ a := nI_leI (a := 7) (by decide) (by omega)
        rw [gi9 X6, bd_some, f67]
        by_cases c2 : 1000 ≤ T s.1
        · rw [if_neg (fun z => by have := e1000.mp z; omega), if_pos c2, bd_some]
          have ne : s.1 ≠ N := fun e => by rw [e] at c2; have := gt.2.1; omega
          have ev : nI (T s.1) - (1000 : Int32) = nI (T s.1 - 1000) := by rw [show (1000 : Int32) = nI 1000 from rfl, pk_sub c2]
          have fr7 : Fr [13] [(9, 9)] h6 (si (si h6 13 s.2.2.length (nI (T s.1 - 1000))) 9 9 (nI (s.2.2.length + 1))) := (Fr.row (by decide)).trans (Fr.fld (by decide))
          have ct7 := ct6.fr fr7 (by decide) (by decide)
          obtain ⟨g, a1, a2, a3⟩ := c_nextT gt ct7 (by omega)
          refine ⟨g, ?_, (fr6'.trans (fr7.wk (by decide) (by decide))).trans (a2.wk (by decide) (by decide)), a3, (sp6.put _).fr a2 (by decide) (by decide) (by decide) (by decide)⟩
          rw [rc9 X6, bd_some, ev, c_step X6 sp6.1 (by omega), bd_some, rc9 ct7.1, bd_some, a1, bd_some, bd_some]
        · rw [if_pos (e1000.mpr (by omega)), if_neg c2, bd_some]
          by_cases c3 : T s.1 = 23
          · rw [if_pos (e23.mpr c3), if_pos c3]
            have ne : s.1 ≠ N := fun e => by rw [e] at c3; have := gt.2.1; omega
            obtain ⟨g1, a1, a2, a3⟩ := c_nextT gt ct6 (by omega)
            have sp1 : SP g1 s.2.2 := sp6.fr a2 (by decide) (by decide) (by decide) (by decide)
            obtain ⟨g2, b1', b2', b3'⟩ := c_lf gt (s := (s.1 + 1, s.2.1 + 1, s.2.2)) a3 sp1 (by show s.2.2.length < s.1 + 1; omega) (b := 10010) (m := 17) (by decide) (Or.inl rfl)
            have b1'' : f_X2_readLeaf 9 (10010 : Int32) (17 : Int32) g1 = some g2 := b1'
            refine ⟨g2, ?_, (fr6'.trans (a2.wk (by decide) (by decide))).trans b2', b3'.mono (by show s.2.2.length + s.1 ≤ s.2.2.length + (s.1 + 1); omega)⟩
            rw [rc9 X6, bd_some, a1, bd_some, rc9 a3.1, bd_some, b1'', bd_some, bd_some]
          · rw [if_neg (fun z => c3 (e23.mp z)), if_neg c3, bd_some]
            obtain ⟨g3, d1, d2, d3⟩ := c_lf gt (s := (s.1, s.2.1 + 1, s.2.2)) ct6 sp6 hl (b := 10000) (m := 22) (by decide) (Or.inr rfl)
            have d1' : f_X2_readLeaf 9 (10000 : Int32) (22 : Int32) h6 = some g3 := d1
            have leaf : ∃ g, (Option.bind ((rc h6 (some 9) 2).bind fun g64 => (f_X2_readLeaf g64 (10000 : Int32) (22 : Int32) h6).bind fun h62 => some h62) fun h101 => some h101) = some g ∧ Fr [13] BR h g ∧ CRes g T Pl N s (gLeaf T 10000 22 (s.1, s.2.1 + 1, s.2.2)) :=
              ⟨g3, by rw [rc9 X6, bd_some, d1', bd_some, bd_some], fr6'.trans d2, d3.mono (Nat.le_refl _)⟩
            by_cases c4 : T s.1 = 40
            · rw [if_pos (e40.mpr c4)]
              by_cases c5 : a < 7
              · rw [if_neg (fun z => by have := e7.mp z; omega), if_pos ⟨c4, c5⟩]
                have ne : s.1 ≠ N := fun e => by rw [e] at c4; have := gt.2.1; omega
                obtain ⟨g1, a1, a2, a3⟩ := c_nextT gt ct6 (by omega)
                have sp1 : SP g1 s.2.2 := sp6.fr a2 (by decide) (by decide) (by decide) (by decide)
                obtain ⟨g2, b1', b2', b3'⟩ := ih 0 0 (a + 1) (Or.inl ⟨rfl, by omega, by omega, by omega⟩) g1 (s.1 + 1, s.2.1 + 1, s.2.2) a3 sp1 (by show s.2.2.length < s.1 + 1; omega) (by show s.2.1 + 1 ≤ 80; omega) (fun z => by omega)
                have b1'' : f_rg f 0 9 0 (nI (a + 1)) g1 = some g2 := b1'
                have fr2 : Fr [13] BR h g2 := (fr6'.trans (a2.wk (by decide) (by decide))).trans b2'
                rw [rc9 X6, bd_some, a1, bd_some, rc9 a3.1, bd_some, nI_1, b1'', bd_some]
                cases hr : G T f 0 0 (a + 1) (s.1 + 1, s.2.1 + 1, s.2.2) with
                | inl e =>
                  rw [hr] at b3'
                  obtain ⟨d, m', z1, z2⟩ := b3'
                  simp only at z2
                  obtain ⟨g4, t1, t2, t3⟩ := c_takeD d (w := 41) (by decide)
                  exact ⟨g4, by rw [rc9 d.1, bd_some, t1, bd_some, bd_some], fr2.trans (t2.wk (by decide) (by decide)), t3, m', (t2.ef (by decide) (by decide)).trans z1, by omega⟩
                | inr s' =>
                  rw [hr] at b3'
                  obtain ⟨d, z1⟩ := b3'
                  have gp := gp_all hN gt.2.1 gt.2.2.2 f 0 0 (a + 1) (s.1 + 1, s.2.1 + 1, s.2.2) (fun _ => by omega) (fun z => by omega) (by show s.1 + 1 ≤ N; omega) (by show s.2.1 + 1 ≤ 80; omega)
                  rw [hr, if_pos rfl] at gp
                  obtain ⟨p1, p2, p3, p4, p5, dd, p6, p7, p8⟩ := gp
                  simp only at p1 p3 p6 p7
                  have len : s'.2.2.length = s.2.2.length + dd.length := by rw [p6, List.length_append]
                  have tk' := c_take gt d (w := 41) (by decide)
                  rw [elim_inr]
                  by_cases c6 : T s'.1 = 41
                  · rw [if_pos c6]
                    obtain ⟨g4, t1, t2, t3⟩ := tk'.1 c6
                    have t1' : f_X2_take 9 (41 : Int32) g2 = some g4 := t1
                    exact ⟨g4, by rw [rc9 d.1, bd_some, t1', bd_some, bd_some], fr2.trans (t2.wk (by decide) (by decide)), t3, z1.fr t2 (by decide) (by decide) (by decide) (by decide)⟩
                  · rw [if_neg c6]
                    obtain ⟨g4, t1, t2, t3⟩ := tk'.2 c6
                    have t1' : f_X2_take 9 (41 : Int32) g2 = some g4 := t1
                    exact ⟨g4, by rw [rc9 d.1, bd_some, t1', bd_some, bd_some], fr2.trans (t2.wk (by decide) (by decide)), t3, _, (t2.ef (by decide) (by decide)).trans z1.1, by omega⟩
              · rw [if_pos (e7.mpr (by omega)), if_neg (fun z => c5 z.2)]
                exact leaf
            · rw [if_neg (fun z => c4 (e40.mp z)), if_neg (fun z => c4 z.1)]
              exact leaf
      · rw [if_neg (fun z => c1 (e80.mp z)), if_neg c1]
        exact bad
end Ce
