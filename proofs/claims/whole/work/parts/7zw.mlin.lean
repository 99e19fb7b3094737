/-! The model reads a number's line; any line; all lines. -/
section Mn
variable {B : Nat → Nat} {n N : Nat}
theorem rn_eq {q : Nat} (hq' : q < 7) (h : Hp) : f_X9_readNumber 45 (nI q) h = (getQ h (some 45) 8 11).bind fun x15 => (rc h (some 45) 8).bind fun g19 => b1 (f_X9_numeral g19 (nI (loN q)) (nI (hiN q)) h) fun x21 h17 => (wrI h17 x15 ((28 : Int32) + nI q) x21).bind fun h22 => (getQ h22 (some 45) 8 23).bind fun x24 => (wrZ h22 x24 ((28 : Int32) + nI q) 1).bind fun h26 => some h26 := by
  rcases (show q = 0 ∨ q = 1 ∨ q = 2 ∨ q = 3 ∨ q = 4 ∨ q = 5 ∨ q = 6 by omega) with rfl | rfl | rfl | rfl | rfl | rfl | rfl <;> rfl
theorem e28 (l : Nat) : (28 : Int32) + nI l = nI (28 + l) := by rw [show (28 : Int32) = nI 28 from rfl, nI_add]
theorem m_rnum {h : Hp} {i u base M q : Nat} {A : Ac} (m : MR h B n i) (hu : hi h 45 27 = nI u) (mb : MB h base M A) (hb : base ≤ i) (hq' : q < 7) : ∃ g, f_X9_readNumber 45 (nI q) h = some g ∧ LG h g ∧ PL g B n (hi h 49 4) (if 1000 ≤ tT B n i then if loN q ≤ tT B n i - 1000 ∧ tT B n i - 1000 ≤ hiN q then .inr (i + 1, u, M ||| 2 ^ (q + 2), (upd A.1 q (nI (tT B n i - 1000)), A.2.1, A.2.2.1, A.2.2.2)) else .inl (i, 4) else .inl (i, 2)) := by
  have X := m.1.1
  obtain ⟨t1, t2, t3, t4⟩ := lo_tab q hq'
  have mn := m_numeral m t3 t4
  have un : ∀ (v : Int32) (g1 g3 : Hp), f_X9_numeral 45 (nI (loN q)) (nI (hiN q)) h = some (v, g1) → FX g1 → g3 = si (si g1 48 (28 + q) v) 60 (28 + q) 1 → f_X9_readNumber 45 (nI q) h = some g3 ∧ LG g1 g3 ∧ FrM [48, 60] [] g1 g3 := by
    intro v g1 g3 a1 X1 e3
    have X2 : FX (si g1 48 (28 + q) v) := FX_of X1 rfl (fun _ _ => rfl)
    refine ⟨?_, ?_, ?_⟩
    · rw [rn_eq hq', q45_11 X, bd_some, rc45 X, bd_some, a1, b1_some, e28, w48 X1 (by omega), bd_some, q45_23 X2, bd_some, w60 X2 (by omega) (Or.inr rfl), bd_some, ← e3]
    · rw [e3]
      exact (LG.put (by decide) (by omega)).trans (LG.put (by decide) (by omega))
    · rw [e3]
      exact (FrM.row (by decide) (by decide)).trans (FrM.row (by decide) (by decide))
  by_cases c3 : 1000 ≤ tT B n i
  · rw [if_pos c3]
    by_cases c4 : loN q ≤ tT B n i - 1000 ∧ tT B n i - 1000 ≤ hiN q
    · rw [if_pos c4]
      obtain ⟨g1, a1, a2, a3⟩ := mn.1 c3 c4
      obtain ⟨g3, e3⟩ : ∃ g, g = si (si g1 48 (28 + q) (nI (tT B n i - 1000))) 60 (28 + q) 1 := ⟨_, rfl⟩
      obtain ⟨r1, r2, r3⟩ := un _ g1 g3 a1 a3.1.1 e3
      have mb1 := mb.fr a2 (by decide) (by decide)
      obtain ⟨m1', m2', m3', m4', m5', m6'⟩ := mb1
      have ko : ∀ x j, x ∉ [48, 60] → x ≠ 45 → hi g3 x j = hi g1 x j := fun x j hx h45 => r3.ei _ hx h45
      have k5 : ∀ j, j < 3600 + base → hi g3 55 j = hi g1 55 j ∧ hi g3 56 j = hi g1 56 j := fun j _ => ⟨ko _ _ (by decide) (by decide), ko _ _ (by decide) (by decide)⟩
      refine ⟨g3, r1, (LG.of a2 (by decide) (by decide)).trans r2, a3.fr r3 (by decide) (by decide), (r3.ef (by decide)).trans ((a2.ef (by decide)).trans hu), (ko _ _ (by decide) (by decide)).trans (a2.ei _ (by decide) (by decide)), base, by show base ≤ i + 1; omega, (r3.ef (by decide)).trans m1', fun j hj => ?_, fun j hj => ?_, (ko _ _ (by decide) (by decide)).trans m4', fun l' hl' => ⟨(ko _ _ (by decide) (by decide)).trans (m5' l' hl').1, (ko _ _ (by decide) (by decide)).trans (m5' l' hl').2.1, (m5' l' hl').2.2.kp (Nat.le_refl _) (ko _ _ (by decide) (by decide)) (ko _ _ (by decide) (by decide)) k5⟩, m6'.kp (Nat.le_refl _) (ko _ _ (by decide) (by decide)) (ko _ _ (by decide) (by decide)) (ko _ _ (by decide) (by decide)) k5⟩
      · show hi g3 48 (28 + j) = upd A.1 q _ j
        unfold upd
        rw [e3, hi_row _ _ _ (by decide)]
        by_cases qq : j = q
        · rw [if_pos qq, qq, hi_hit]
        · rw [if_neg qq, hi_col _ _ (by omega)]
          exact m2' j hj
      · rw [e3, seen_or]
        by_cases qq : j = q
        · rw [qq, hi_hit, if_pos (by simp)]
        · rw [hi_col _ _ (by omega), hi_row _ _ _ (by decide), m3' j hj, show decide (q + 2 = j + 2) = false from decide_eq_false (by omega), Bool.or_false]
    · rw [if_neg c4]
      obtain ⟨g1, a1, a2, a3⟩ := mn.2.1 c3 c4
      obtain ⟨r1, r2, r3⟩ := un _ g1 _ a1 a3.1.1 rfl
      exact ⟨_, r1, (LG.of a2 (by decide) (by decide)).trans r2, a3.fr r3 (by decide) (by decide)⟩
  · rw [if_neg c3]
    obtain ⟨g1, a1, a2, a3⟩ := mn.2.2 (by omega)
    obtain ⟨r1, r2, r3⟩ := un _ g1 _ a1 a3.1.1 rfl
    exact ⟨_, r1, (LG.of a2 (by decide) (by decide)).trans r2, a3.fr r3 (by decide) (by decide)⟩
/-- the ; and the count of lines -/
def rls (h100 : Hp) : Option Hp :=
    (rc h100 (some 45) 8).bind fun g104 =>
    b1 (f_X9_is g104 (59 : Int32) h100) fun x106 h102 =>
    (rc h102 (some 45) 8).bind fun g109 =>
    (f_X9_must g109 x106 h102).bind fun h107 =>
    (getQ h107 (some 45) 8 12).bind fun x111 =>
    (rdI h107 x111 10 4).bind fun x113 =>
    (wrI h107 x111 4 (x113 + (1 : Int32))).bind fun h115 =>
    some h115
theorem rls_P {h : Hp} {ln : Int32} {r : (Nat × Nat) ⊕ LnS} (p : PL h B n ln r) : ∃ g, rls h = some g ∧ LG h g ∧ PL g B n (ln + 1) (Sum.elim .inl (gS (tT B n)) r) := by
  have un : ∀ (x : Int32) (g1 g2 : Hp), FX h → f_X9_is 45 59 h = some (x, h) → f_X9_must 45 x h = some g1 → FX g1 → g2 = si g1 49 4 (hi g1 49 4 + 1) → rls h = some g2 ∧ LG g1 g2 ∧ FrM [49] [] g1 g2 := by
    intro x g1 g2 X a1 a2 X1 e2
    refine ⟨?_, ?_, ?_⟩
    · unfold rls
      rw [rc45 X, bd_some, a1, b1_some, rc45 X, bd_some, a2, bd_some, q45_12 X1, bd_some, r49l X1, bd_some, w49l X1, bd_some, ← e2]
    · rw [e2]; exact LG.put (by decide) (by omega)
    · rw [e2]; exact FrM.row (by decide) (by decide)
  cases r with
  | inl e =>
    have m : MD h B n e := p
    obtain ⟨x, a1⟩ := m_isD m 59
    obtain ⟨r1, r2, r3⟩ := un x h _ m.1.1 a1 (m_mustD m x) m.1.1 rfl
    exact ⟨_, r1, r2, m.fr r3 (by decide) (by decide)⟩
  | inr s =>
    obtain ⟨m, p2, p3, base, p4, p5⟩ := p
    have a1 := m_is m (c := 59) (by decide) (v := 59) rfl
    rw [elim_inr]
    unfold gS
    by_cases c5 : tT B n s.1 = 59
    · rw [if_pos c5]
      rw [if_pos c5] at a1
      obtain ⟨g1, b1', b2', b3'⟩ := m_must1 m (v := 1) rfl
      obtain ⟨r1, r2, r3⟩ := un 1 g1 _ m.1.1 a1 b1' b3'.1.1 rfl
      refine ⟨_, r1, (LG.of b2' (by decide) (by decide)).trans r2, b3'.fr r3 (by decide) (by decide), (r3.ef (by decide)).trans ((b2'.ef (by decide)).trans p2), ?_, base, by show base ≤ s.1 + 1; omega, (p5.fr b2' (by decide) (by decide)).fr r3 (by decide) (by decide)⟩
      rw [hi_hit, b2'.ei _ (by decide) (by decide), p3]
    · rw [if_neg c5]
      rw [if_neg c5] at a1
      obtain ⟨g1, b1', b2', b3'⟩ := m_must0 m (v := 0) rfl
      obtain ⟨r1, r2, r3⟩ := un 0 g1 _ m.1.1 a1 b1' b3'.1.1 rfl
      exact ⟨_, r1, (LG.of b2' (by decide) (by decide)).trans r2, b3'.fr r3 (by decide) (by decide)⟩
def rlt (x5 x10 x15 w49 : Int32) (h50 : Hp) : Option Hp :=
  Option.bind ((if w49 = (0 : Int32) then
      some h50
    else
      (rc h50 (some 45) 8).bind fun g59 =>
      (f_X9_wrong g59 h50).bind fun h57 =>
      some h57 : Option (Hp))) fun h61 =>
  (rc h61 (some 45) 8).bind fun g65 =>
  b1 (f_X9_isGood g65 h61) fun x67 h63 =>
  if x67 = (0 : Int32) then
    some h63
  else
    (rc h63 (some 45) 8).bind fun g71 =>
    (f_X9_next g71 h63).bind fun h69 =>
    Option.bind ((if x5 = (0 : Int32) then
        if x10 = (0 : Int32) then
          (rc h69 (some 45) 8).bind fun g90 =>
          (f_X9_readNumber g90 x15 h69).bind fun h88 =>
          some h88
        else
          (rc h69 (some 45) 8).bind fun g94 =>
          (f_X9_readEmpty g94 h69).bind fun h92 =>
          some h92
      else
        (rc h69 (some 45) 8).bind fun g98 =>
        (f_X9_readCounts g98 h69).bind fun h96 =>
        some h96 : Option (Hp))) fun h100 => rls h100
theorem rlt_bad {h : Hp} {i : Nat} (m : MR h B n i) (x5 x10 x15 : Int32) : ∃ g, rlt x5 x10 x15 1 h = some g ∧ LG h g ∧ MD g B n (i, 2) := by
  have X := m.1.1
  obtain ⟨g, a1, a2, a3⟩ := m_wrong m
  refine ⟨g, ?_, LG.of a2 (by decide) (by decide), a3⟩
  unfold rlt
  rw [if_neg (by decide), rc45 X, bd_some, a1, bd_some, bd_some, rc45 a3.1.1, bd_some, m_bad a3, b1_some, if_pos rfl]
theorem m_line (gt : GT (tT B n) N) {h : Hp} {s : LnS} {base : Nat} (o : LOK N s) (t25 : tT B n s.1 ≠ 25) (m : MR h B n s.1) (hu : hi h 45 27 = nI s.2.1) (mb : MB h base s.2.2.1 s.2.2.2) (hb : base ≤ s.1) : ∃ g, f_X9_readLine 45 h = some g ∧ LG h g ∧ PL g B n (hi h 49 4 + 1) (gLn (tT B n) s) := by
  have X := m.1.1
  have i0 := m_isWord m (w := 0) (by decide) (W := 109330362692723) (by rw [wd_tab.1])
  have i1 := m_isWord m (w := 1) (by decide) (W := 435627783289) (by rw [wd_tab.2.1])
  have i2 := m_number m
  obtain ⟨i, u, M, A⟩ := s
  obtain ⟨o1, o2, o3, o4, o5⟩ := o
  simp only at o1 o2 o3 o4 o5 m hu mb hb i0 i1 i2 t25
  have tl := okT_lt (tT_ok B n i)
  -- the line's head: what is asked first
  have hd : ∀ (w49 : Int32), ((if (if tT B n i = 0 then (1 : Int32) else 0) = (0 : Int32) then
      if (if tT B n i = 1 then (1 : Int32) else 0) = (0 : Int32) then
        if (if 2 ≤ tT B n i ∧ tT B n i ≤ 8 then nI (tT B n i - 2) else -1) < (0 : Int32) then
          some (1, h)
        else
          (getQ h (some 45) 8 23).bind fun x35 =>
          (rdI h x35 12 ((28 : Int32) + (if 2 ≤ tT B n i ∧ tT B n i ≤ 8 then nI (tT B n i - 2) else -1))).bind fun x37 =>
          if x37 = (0 : Int32) then
            some (0, h)
          else
            some (1, h)
      else
        (getQ h (some 45) 8 24).bind fun x40 =>
        (rdI h x40 12 4).bind fun x42 =>
        some (x42, h)
    else
      (getQ h (some 45) 8 13).bind fun x44 =>
      (rdI h x44 10 4).bind fun x46 =>
      if x46 = (10 : Int32) then
        some (1, h)
      else
        some (0, h) : Option (Int32 × Hp))) = some (w49, h) → f_X9_readLine 45 h = rlt (if tT B n i = 0 then (1 : Int32) else 0) (if tT B n i = 1 then (1 : Int32) else 0) (if 2 ≤ tT B n i ∧ tT B n i ≤ 8 then nI (tT B n i - 2) else -1) w49 h := by
    intro w49 hw
    unfold f_X9_readLine
    rw [rc45 X, bd_some, i0, b1_some, rc45 X, bd_some, i1, b1_some, rc45 X, bd_some, i2, b1_some, hw, b1_some]
    rfl
  -- the line goes on
  have go : ∀ (x5 x10 x15 : Int32) (g1 g2 : Hp), f_X9_next 45 h = some g1 → FX g1 → (if x5 = (0 : Int32) then
        if x10 = (0 : Int32) then
          (rc g1 (some 45) 8).bind fun g90 =>
          (f_X9_readNumber g90 x15 g1).bind fun h88 =>
          some h88
        else
          (rc g1 (some 45) 8).bind fun g94 =>
          (f_X9_readEmpty g94 g1).bind fun h92 =>
          some h92
      else
        (rc g1 (some 45) 8).bind fun g98 =>
        (f_X9_readCounts g98 g1).bind fun h96 =>
        some h96 : Option (Hp)) = some g2 → rlt x5 x10 x15 0 h = rls g2 := by
    intro x5 x10 x15 g1 g2 a1 X1 a2
    unfold rlt
    rw [if_pos rfl, bd_some, rc45 X, bd_some, m_good m, b1_some, if_neg (by decide), rc45 X, bd_some, a1, bd_some, a2, bd_some]
  rw [gLn_gQ]
  obtain ⟨g1, n1, n2, n3⟩ := m_nextT m
  have X1 := n3.1.1
  have u1 : hi g1 45 27 = nI u := (n2.ef (by decide)).trans hu
  have mb1 : MB g1 base M A := mb.fr n2 (by decide) (by decide)
  have lg1 : LG h g1 := LG.of n2 (by decide) (by decide)
  have l49 : hi g1 49 4 = hi h 49 4 := n2.ei _ (by decide) (by decide)
  obtain ⟨b1', b2', b3', b4', b5', b6'⟩ := mb
  by_cases t0 : tT B n i = 0
  · have ne : i ≠ N := fun e => by rw [e] at t0; have := gt.2.1; omega
    by_cases c10 : A.2.2.1.length < 10
    · have q10 : ¬ nI A.2.2.1.length = (10 : Int32) := fun z => by have := (nI_eq (b := 10) (by omega) (by decide)).mp z; omega
      have h1 := hd 0 (by rw [if_pos t0, if_neg (by decide), q45_13 X, bd_some, r50l X, bd_some, b4', if_neg q10])
      obtain ⟨g2, a1, a2, a3⟩ := m_rcnt gt n3 u1 mb1 hb (by omega) o2 c10 t0
      have h2 := go (if tT B n i = 0 then (1 : Int32) else 0) (if tT B n i = 1 then (1 : Int32) else 0) (if 2 ≤ tT B n i ∧ tT B n i ≤ 8 then nI (tT B n i - 2) else -1) g1 g2 n1 X1 (by rw [if_pos t0, if_neg (by decide), rc45 X1, bd_some, a1, bd_some])
      obtain ⟨g, z1, z2, z3⟩ := rls_P a3
      rw [l49] at z3
      exact ⟨g, by rw [h1, h2, z1], (lg1.trans a2).trans z2, z3⟩
    · have q10 : nI A.2.2.1.length = (10 : Int32) := by
        have : A.2.2.1.length ≤ 10 := o4.1.1
        rw [show A.2.2.1.length = 10 by omega]
        rfl
      have h1 := hd 1 (by rw [if_pos t0, if_neg (by decide), q45_13 X, bd_some, r50l X, bd_some, b4', if_pos q10])
      obtain ⟨g, z1, z2, z3⟩ := rlt_bad m (if tT B n i = 0 then (1 : Int32) else 0) (if tT B n i = 1 then (1 : Int32) else 0) (if 2 ≤ tT B n i ∧ tT B n i ≤ 8 then nI (tT B n i - 2) else -1)
      refine ⟨g, by rw [h1, z1], z2, ?_⟩
      unfold gQ
      simp only
      rw [if_pos t0, if_neg c10]
      exact z3
  have un0 : ∀ (r : (Nat × Nat) ⊕ LnS), (if (1 ≤ tT B n i ∧ tT B n i ≤ 8) ∧ M.testBit (tT B n i) = false then
    if tT B n i = 1 then Sum.elim .inl (fun r => .inr (r.1, r.2.1, M ||| 2 ^ tT B n i, (A.1, A.2.1, A.2.2.1, some r.2.2))) (gV (tT B n) (i + 1) u)
    else if 1000 ≤ tT B n (i + 1) then
      if loN (tT B n i - 2) ≤ tT B n (i + 1) - 1000 ∧ tT B n (i + 1) - 1000 ≤ hiN (tT B n i - 2) then
        .inr (i + 2, u, M ||| 2 ^ tT B n i, (upd A.1 (tT B n i - 2) (nI (tT B n (i + 1) - 1000)), A.2.1, A.2.2.1, A.2.2.2))
      else .inl (i + 1, 4)
    else .inl (i + 1, 2)
  else .inl (i, 2)) = r → gQ (tT B n) (i, u, M, A) = r := by
    intro r hr
    unfold gQ
    simp only
    rw [if_neg t0]
    exact hr
  have bad : ∀ w : Int32, w = 1 → f_X9_readLine 45 h = rlt (if tT B n i = 0 then (1 : Int32) else 0) (if tT B n i = 1 then (1 : Int32) else 0) (if 2 ≤ tT B n i ∧ tT B n i ≤ 8 then nI (tT B n i - 2) else -1) w h → ¬ ((1 ≤ tT B n i ∧ tT B n i ≤ 8) ∧ M.testBit (tT B n i) = false) → ∃ g, f_X9_readLine 45 h = some g ∧ LG h g ∧ PL g B n (hi h 49 4 + 1) (Sum.elim .inl (gS (tT B n)) (gQ (tT B n) (i, u, M, A))) := by
    intro w hw h1 nc
    obtain ⟨g, z1, z2, z3⟩ := rlt_bad m (if tT B n i = 0 then (1 : Int32) else 0) (if tT B n i = 1 then (1 : Int32) else 0) (if 2 ≤ tT B n i ∧ tT B n i ≤ 8 then nI (tT B n i - 2) else -1)
    refine ⟨g, by rw [h1, hw, z1], z2, ?_⟩
    rw [un0 _ (if_neg nc)]
    exact z3
  by_cases t1 : tT B n i = 1
  · have ne : i ≠ N := fun e => by rw [e] at t1; have := gt.2.1; omega
    have e61 : hi h 61 4 = if M.testBit 1 = true then 1 else 0 := by
      rw [← o5]
      unfold E4 at b6'
      cases hA : A.2.2.2 with
      | none => rw [hA] at b6'; rw [if_neg (by simp)]; exact b6'
      | some C => rw [hA] at b6'; rw [if_pos (by simp)]; exact b6'.1
    have h1 := hd (if M.testBit 1 = true then 1 else 0) (by rw [if_neg t0, if_pos rfl, if_pos t1, if_neg (by decide), q45_24 X, bd_some, r61l X, bd_some, e61])
    by_cases cs : M.testBit 1 = true
    · exact bad _ (if_pos cs) h1 (fun z => by rw [t1, cs] at z; cases z.2)
    · rw [if_neg cs] at h1
      have cs' : M.testBit 1 = false := by cases h' : M.testBit 1 <;> simp_all
      obtain ⟨g2, a1, a2, a3⟩ := m_remp gt n3 u1 mb1 (by omega) (by omega) o2 o4.1.1
      have h2 := go (if tT B n i = 0 then (1 : Int32) else 0) (if tT B n i = 1 then (1 : Int32) else 0) (if 2 ≤ tT B n i ∧ tT B n i ≤ 8 then nI (tT B n i - 2) else -1) g1 g2 n1 X1 (by rw [if_neg t0, if_pos rfl, if_pos t1, if_neg (by decide), rc45 X1, bd_some, a1, bd_some])
      obtain ⟨g, z1, z2, z3⟩ := rls_P a3
      rw [l49] at z3
      refine ⟨g, by rw [h1, h2, z1], (lg1.trans a2).trans z2, ?_⟩
      rw [un0 _ (by rw [if_pos ⟨by omega, by rw [t1]; exact cs'⟩, if_pos t1, t1])]
      exact z3
  by_cases t8 : 2 ≤ tT B n i ∧ tT B n i ≤ 8
  · have ne : i ≠ N := fun e => by rw [e] at t8; have := gt.2.1; omega
    obtain ⟨q, hq'⟩ : ∃ q, tT B n i = q + 2 := ⟨tT B n i - 2, by omega⟩
    have q7 : q < 7 := by omega
    have e15 : (if 2 ≤ tT B n i ∧ tT B n i ≤ 8 then nI (tT B n i - 2) else -1) = nI q := by rw [if_pos t8, hq']; rfl
    have e60 := b3' q q7
    have h1 := hd (if M.testBit (q + 2) = true then 1 else 0) (by
      rw [if_neg t0, if_pos rfl, if_neg t1, if_pos rfl, e15, if_neg (nI_pos (by omega)), q45_23 X, bd_some, e28, r60 X (by omega), bd_some, e60]
      by_cases cs : M.testBit (q + 2) = true
      · rw [if_pos cs, if_neg (by decide)]
      · rw [if_neg cs, if_pos rfl])
    by_cases cs : M.testBit (q + 2) = true
    · exact bad _ (if_pos cs) h1 (fun z => by rw [hq', cs] at z; cases z.2)
    · rw [if_neg cs, e15] at h1
      have cs' : M.testBit (q + 2) = false := by cases h' : M.testBit (q + 2) <;> simp_all
      obtain ⟨g2, a1, a2, a3⟩ := m_rnum n3 u1 mb1 (by omega) q7
      have h2 := go (if tT B n i = 0 then (1 : Int32) else 0) (if tT B n i = 1 then (1 : Int32) else 0) (nI q) g1 g2 n1 X1 (by rw [if_neg t0, if_pos rfl, if_neg t1, if_pos rfl, rc45 X1, bd_some, a1, bd_some])
      obtain ⟨g, z1, z2, z3⟩ := rls_P a3
      rw [l49] at z3
      refine ⟨g, by rw [h1, h2, z1], (lg1.trans a2).trans z2, ?_⟩
      rw [un0 _ (by rw [if_pos ⟨by omega, by rw [hq']; exact cs'⟩, if_neg t1, hq'])]
      exact z3
  · have h1 := hd 1 (by rw [if_neg t0, if_pos rfl, if_neg t1, if_pos rfl, if_neg t8, if_pos (by decide)])
    exact bad 1 rfl h1 (fun z => by omega)
theorem m_L93 (gt : GT (tT B n) N) (v : Int32) : ∀ d k (s : LnS) (h : Hp) (base : Nat), d + 1 < k → N < s.1 + d → LOK N s → MR h B n s.1 → hi h 45 27 = nI s.2.1 → MB h base s.2.2.1 s.2.2.2 → base ≤ s.1 → hi h 49 4 = s.2.2.2.2.1 → ∃ g, f_X9_act_L93 k 45 v h = some g ∧ LG h g ∧ Sum.elim (fun e => MD g B n e) (fun s' => LOK N s' ∧ PL g B n s'.2.2.2.2.1 (.inr s')) (gTp (tT B n) d s) := by
  intro d
  induction d with
  | zero => intro k s h base _ h2 o; have := o.1; omega
  | succ d ih =>
    intro k s h base h1 h2 o m hu mb hb hl
    obtain ⟨k, rfl⟩ : ∃ k', k = k' + 1 := ⟨k - 1, by omega⟩
    have X := m.1.1
    unfold f_X9_act_L93 gTp
    rw [rc45 X, bd_some, m_good m, b1_some, if_neg (by decide), gi45 X, bd_some]
    by_cases t25 : tT B n s.1 = 25
    · rw [if_pos t25, if_pos (m.2.2.2.2.is0.mpr t25)]
      exact ⟨h, rfl, LG.refl, o, m, hu, hl, base, hb, mb⟩
    rw [if_neg t25, if_neg (fun z => t25 (m.2.2.2.2.is0.mp z)), rc45 X, bd_some]
    obtain ⟨g, a1, a2, a3⟩ := m_line gt o t25 m hu mb hb
    rw [a1, bd_some]
    cases hr : gLn (tT B n) s with
    | inl e =>
      rw [hr] at a3
      have a3' : MD g B n e := a3
      obtain ⟨k, rfl⟩ : ∃ k', k = k' + 1 := ⟨k - 1, by omega⟩
      refine ⟨g, ?_, a2, a3⟩
      unfold f_X9_act_L93
      rw [rc45 a3'.1.1, bd_some, m_bad a3', b1_some, if_pos rfl]
    | inr s' =>
      rw [hr] at a3
      obtain ⟨p1, p2, p3, base', p4, p5⟩ := a3
      obtain ⟨o', w2, w3, w4, w5⟩ := gl_all gt o hr
      obtain ⟨g', z1, z2, z3⟩ := ih k s' g base' (by omega) (by omega) o' p1 p2 p5 p4 (by rw [p3, hl, gl_lines hr])
      exact ⟨g', z1, a2.trans z2, z3⟩
end Mn
