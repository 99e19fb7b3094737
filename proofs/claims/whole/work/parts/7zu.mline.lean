/-! The model reads a line: what is pure, its frames, a when, a numeral. -/
section Gq
variable (T : Nat → Nat)
/-- when e, the sign behind it not yet asked -/
def gV (i u : Nat) : GR := if T i = 9 then Sum.elim .inl (fun s' => if lvO (T s'.1) < 5 then .inl (s'.1, 2) else .inr s') (G T 200 0 0 0 (i + 1, u, [])) else .inl (i, 2)
theorem gW_gV (i u : Nat) : gW T i u = Sum.elim .inl (fun s' => if T s'.1 = 59 then .inr (s'.1 + 1, s'.2.1, s'.2.2) else .inl (s'.1, 2)) (gV T i u) := by
  unfold gW gV
  by_cases c9 : T i = 9
  · rw [if_pos c9, if_pos c9]
    cases hr : G T 200 0 0 0 (i + 1, u, []) with
    | inl e => rfl
    | inr s' =>
      rw [elim_inr, elim_inr]
      by_cases cl : lvO (T s'.1) < 5
      · have ne : T s'.1 ≠ 59 := fun z => by rw [z] at cl; exact absurd cl (by decide)
        rw [if_pos cl, if_neg ne]
        rfl
      · rw [if_neg cl]
        rfl
  · rw [if_neg c9, if_neg c9]
    rfl
/-- a line, but for its ; -/
def gQ (s : LnS) : (Nat × Nat) ⊕ LnS :=
  if T s.1 = 0 then
    if s.2.2.2.2.2.1.length < 10 then
      if 13 ≤ T (s.1 + 1) ∧ T (s.1 + 1) ≤ 17 then
        if 1000 ≤ T (s.1 + 2) then
          if T (s.1 + 2) ≤ 1100 then Sum.elim .inl (fun r => .inr (r.1, r.2.1, s.2.2.1, (s.2.2.2.1, s.2.2.2.2.1, s.2.2.2.2.2.1 ++ [(T (s.1 + 1) - 13, nI (T (s.1 + 2) - 1000), r.2.2)], s.2.2.2.2.2.2))) (gV T (s.1 + 3) s.2.1)
          else .inl (s.1 + 2, 4)
        else .inl (s.1 + 2, 2)
      else .inl (s.1 + 1, 2)
    else .inl (s.1, 2)
  else if (1 ≤ T s.1 ∧ T s.1 ≤ 8) ∧ s.2.2.1.testBit (T s.1) = false then
    if T s.1 = 1 then Sum.elim .inl (fun r => .inr (r.1, r.2.1, s.2.2.1 ||| 2 ^ T s.1, (s.2.2.2.1, s.2.2.2.2.1, s.2.2.2.2.2.1, some r.2.2))) (gV T (s.1 + 1) s.2.1)
    else if 1000 ≤ T (s.1 + 1) then
      if loN (T s.1 - 2) ≤ T (s.1 + 1) - 1000 ∧ T (s.1 + 1) - 1000 ≤ hiN (T s.1 - 2) then
        .inr (s.1 + 2, s.2.1, s.2.2.1 ||| 2 ^ T s.1, (upd s.2.2.2.1 (T s.1 - 2) (nI (T (s.1 + 1) - 1000)), s.2.2.2.2.1, s.2.2.2.2.2.1, s.2.2.2.2.2.2))
      else .inl (s.1 + 1, 4)
    else .inl (s.1 + 1, 2)
  else .inl (s.1, 2)
def gS (s : LnS) : (Nat × Nat) ⊕ LnS := if T s.1 = 59 then .inr (s.1 + 1, s.2.1, s.2.2.1, (s.2.2.2.1, s.2.2.2.2.1 + 1, s.2.2.2.2.2)) else .inl (s.1, 2)
theorem gLn_gQ (s : LnS) : gLn T s = Sum.elim .inl (gS T) (gQ T s) := by
  unfold gLn gQ
  by_cases c0 : T s.1 = 0
  · rw [if_pos c0, if_pos c0]
    by_cases c1 : s.2.2.2.2.2.1.length < 10
    · rw [if_pos c1, if_pos c1]
      by_cases c2 : 13 ≤ T (s.1 + 1) ∧ T (s.1 + 1) ≤ 17
      · rw [if_pos c2, if_pos c2]
        by_cases c3 : 1000 ≤ T (s.1 + 2)
        · rw [if_pos c3, if_pos c3]
          by_cases c4 : T (s.1 + 2) ≤ 1100
          · rw [if_pos c4, if_pos c4, gW_gV]
            cases gV T (s.1 + 3) s.2.1 with
            | inl e => rfl
            | inr r =>
              simp only [elim_inr, gS]
              by_cases c5 : T r.1 = 59
              · rw [if_pos c5, if_pos c5]; rfl
              · rw [if_neg c5, if_neg c5]; rfl
          · rw [if_neg c4, if_neg c4]; rfl
        · rw [if_neg c3, if_neg c3]; rfl
      · rw [if_neg c2, if_neg c2]; rfl
    · rw [if_neg c1, if_neg c1]; rfl
  · rw [if_neg c0, if_neg c0]
    by_cases c1 : (1 ≤ T s.1 ∧ T s.1 ≤ 8) ∧ s.2.2.1.testBit (T s.1) = false
    · rw [if_pos c1, if_pos c1]
      by_cases c2 : T s.1 = 1
      · rw [if_pos c2, if_pos c2, gW_gV]
        cases gV T (s.1 + 1) s.2.1 with
        | inl e => rfl
        | inr r =>
          simp only [elim_inr, gS]
          by_cases c5 : T r.1 = 59
          · rw [if_pos c5, if_pos c5]; rfl
          · rw [if_neg c5, if_neg c5]; rfl
      · rw [if_neg c2, if_neg c2]
        by_cases c3 : 1000 ≤ T (s.1 + 1)
        · rw [if_pos c3, if_pos c3]
          by_cases c4 : loN (T s.1 - 2) ≤ T (s.1 + 1) - 1000 ∧ T (s.1 + 1) - 1000 ≤ hiN (T s.1 - 2)
          · rw [if_pos c4, if_pos c4]
            rfl
          · rw [if_neg c4, if_neg c4]; rfl
        · rw [if_neg c3, if_neg c3]; rfl
    · rw [if_neg c1, if_neg c1]; rfl
end Gq
/-- what a line may write -/
def LA : List Nat := [48, 49, 50, 51, 52, 53, 54, 55, 56, 57, 58, 60, 61]
/-- the shelves' rows stay -/
def KL (h g : Hp) : Prop := (∀ j, j < 28 → hi g 48 j = hi h 48 j) ∧ (∀ j, j < 4 → hi g 49 j = hi h 49 j ∧ hi g 50 j = hi h 50 j ∧ hi g 61 j = hi h 61 j) ∧ (∀ j, j < 44 → hi g 51 j = hi h 51 j ∧ hi g 52 j = hi h 52 j ∧ hi g 53 j = hi h 53 j ∧ hi g 54 j = hi h 54 j) ∧ ∀ j, j < 3600 → hi g 55 j = hi h 55 j ∧ hi g 56 j = hi h 56 j
def LG (h g : Hp) : Prop := FrM LA BEx h g ∧ KL h g
theorem KL.trans {h g k : Hp} (a : KL h g) (b : KL g k) : KL h k := ⟨fun j hj => (b.1 j hj).trans (a.1 j hj), fun j hj => ⟨(b.2.1 j hj).1.trans (a.2.1 j hj).1, (b.2.1 j hj).2.1.trans (a.2.1 j hj).2.1, (b.2.1 j hj).2.2.trans (a.2.1 j hj).2.2⟩, fun j hj => ⟨(b.2.2.1 j hj).1.trans (a.2.2.1 j hj).1, (b.2.2.1 j hj).2.1.trans (a.2.2.1 j hj).2.1, (b.2.2.1 j hj).2.2.1.trans (a.2.2.1 j hj).2.2.1, (b.2.2.1 j hj).2.2.2.trans (a.2.2.1 j hj).2.2.2⟩, fun j hj => ⟨(b.2.2.2 j hj).1.trans (a.2.2.2 j hj).1, (b.2.2.2 j hj).2.trans (a.2.2.2 j hj).2⟩⟩
theorem LG.refl {h : Hp} : LG h h := ⟨FrM.rfl, fun _ _ => rfl, fun _ _ => ⟨rfl, rfl, rfl⟩, fun _ _ => ⟨rfl, rfl, rfl, rfl⟩, fun _ _ => ⟨rfl, rfl⟩⟩
theorem LG.trans {h g k : Hp} (a : LG h g) (b : LG g k) : LG h k := ⟨a.1.trans b.1, a.2.trans b.2⟩
theorem LG.of {h g : Hp} {A C : List Nat} (fr : FrM A C h g) (hA : A.all (fun x => [57, 58, 60].contains x) = true) (hC : C.all (fun x => BEx.contains x) = true) : LG h g := by
  have a : ∀ x, x ∈ A → x = 57 ∨ x = 58 ∨ x = 60 := fun x hx => by have := List.all_eq_true.mp hA x hx; simpa using this
  have n : ∀ x, x < 57 ∨ x = 61 → x ∉ A := fun x hx z => by have := a x z; omega
  exact ⟨fr.mono (fun x hx => by rcases a x hx with rfl | rfl | rfl <;> decide) (fun x hx => by have := List.all_eq_true.mp hC x hx; simpa using this), fun j _ => fr.ei _ (n _ (by decide)) (by decide), fun j _ => ⟨fr.ei _ (n _ (by decide)) (by decide), fr.ei _ (n _ (by decide)) (by decide), fr.ei _ (n _ (by decide)) (by decide)⟩, fun j _ => ⟨fr.ei _ (n _ (by decide)) (by decide), fr.ei _ (n _ (by decide)) (by decide), fr.ei _ (n _ (by decide)) (by decide), fr.ei _ (n _ (by decide)) (by decide)⟩, fun j _ => ⟨fr.ei _ (n _ (by decide)) (by decide), fr.ei _ (n _ (by decide)) (by decide)⟩⟩
/-- one place of shelf 4 -/
theorem LG.put {h : Hp} {a k : Nat} {v : Int32} (ha : a ∈ LA) (hk' : (a = 48 ∧ 28 ≤ k) ∨ ((a = 49 ∨ a = 50 ∨ a = 61) ∧ 4 ≤ k) ∨ ((a = 51 ∨ a = 52 ∨ a = 53 ∨ a = 54) ∧ 44 ≤ k) ∨ a = 60) : LG h (si h a k v) := by
  have n45 : a ≠ 45 := by omega
  have e : ∀ x j, ¬ (x = a ∧ j = k) → hi (si h a k v) x j = hi h x j := fun x j z => by rw [hi_put, if_neg z]
  exact ⟨FrM.row ha n45, fun j hj => e _ _ (by omega), fun j hj => ⟨e _ _ (by omega), e _ _ (by omega), e _ _ (by omega)⟩, fun j hj => ⟨e _ _ (by omega), e _ _ (by omega), e _ _ (by omega), e _ _ (by omega)⟩, fun j hj => ⟨e _ _ (by omega), e _ _ (by omega)⟩⟩
theorem EF.lg {base : Nat} {h g : Hp} (e : EF base h g) : LG h g := by
  obtain ⟨fr, e⟩ := e
  exact ⟨fr.wk (by decide) (by decide), fun j _ => fr.ei _ (by decide) (by decide), fun j _ => ⟨fr.ei _ (by decide) (by decide), fr.ei _ (by decide) (by decide), fr.ei _ (by decide) (by decide)⟩, fun j _ => ⟨fr.ei _ (by decide) (by decide), fr.ei _ (by decide) (by decide), fr.ei _ (by decide) (by decide), fr.ei _ (by decide) (by decide)⟩, fun j hj => e j (by omega)⟩
section Mw
variable {B : Nat → Nat} {n N : Nat}
theorem m_isWordD {h : Hp} (X : FX h) (W : Int64) : ∃ x, f_X9_isWord 45 W h = some (x, h) := by
  unfold f_X9_isWord
  rw [gi45 X, bd_some]
  by_cases c : hi h 45 8 = 2
  · rw [if_pos c, gj45 X, bd_some]
    by_cases c2 : lg_cmp (hj h 45 10) W = 0
    · rw [if_pos c2, b1_some, zok1, bd_some]; exact ⟨_, rfl⟩
    · rw [if_neg c2, b1_some, zok0, bd_some]; exact ⟨_, rfl⟩
  · rw [if_neg c, b1_some, zok0, bd_some]; exact ⟨_, rfl⟩
theorem m_isD {h : Hp} {e : Nat × Nat} (m : MD h B n e) (v : Int32) : ∃ x, f_X9_is 45 v h = some (x, h) := by
  obtain ⟨l, -, -, -, k, hk', m6⟩ := m
  have X := l.1
  unfold f_X9_is
  rw [gi45 X, bd_some]
  by_cases c : hi h 45 8 = 4
  · rw [if_pos c, gi45 X, bd_some, m6, rc45 X, bd_some, m_sign l hk', b1_some]
    by_cases c2 : nI (if k < n then B k else 0) = v
    · rw [if_pos c2, b1_some, zok1, bd_some]; exact ⟨_, rfl⟩
    · rw [if_neg c2, b1_some, zok0, bd_some]; exact ⟨_, rfl⟩
  · rw [if_neg c, b1_some, zok0, bd_some]; exact ⟨_, rfl⟩
theorem m_numeralD {h : Hp} {e : Nat × Nat} (m : MD h B n e) (lo hh : Int32) : f_X9_numeral 45 lo hh h = some (lo, h) := by
  unfold f_X9_numeral
  rw [rc45 m.1.1, bd_some, m_bad m, b1_some, if_pos rfl]
theorem m_numeral {h : Hp} {i lo hh : Nat} (m : MR h B n i) (hlo : lo < 20000) (hhh : hh < 20000) : (1000 ≤ tT B n i → lo ≤ tT B n i - 1000 ∧ tT B n i - 1000 ≤ hh → ∃ g, f_X9_numeral 45 (nI lo) (nI hh) h = some (nI (tT B n i - 1000), g) ∧ FrM [] BN h g ∧ MR g B n (i + 1)) ∧ (1000 ≤ tT B n i → ¬ (lo ≤ tT B n i - 1000 ∧ tT B n i - 1000 ≤ hh) → ∃ g, f_X9_numeral 45 (nI lo) (nI hh) h = some (nI lo, g) ∧ FrM [] [4, 5] h g ∧ MD g B n (i, 4)) ∧ (tT B n i < 1000 → ∃ g, f_X9_numeral 45 (nI lo) (nI hh) h = some (nI lo, g) ∧ FrM [] [4, 5] h g ∧ MD g B n (i, 2)) := by
  have X := m.1.1
  have tl := okT_lt (tT_ok B n i)
  have m6 := m.2.2.1
  obtain ⟨i3, iv⟩ := m.2.2.2.2.is3
  have q1 : 1000 ≤ tT B n i → (nI (tT B n i - 1000) < nI lo ↔ tT B n i - 1000 < lo) := fun _ => nI_ltI (by omega) (by omega)
  have q2 : 1000 ≤ tT B n i → (nI (tT B n i - 1000) ≤ nI hh ↔ tT B n i - 1000 ≤ hh) := fun _ => nI_leI (by omega) (by omega)
  refine ⟨fun c1 c2 => ?_, fun c1 c2 => ?_, fun c1 => ?_⟩
  · obtain ⟨g, a1, a2, a3⟩ := m_nextT m
    refine ⟨g, ?_, a2, a3⟩
    unfold f_X9_numeral
    rw [rc45 X, bd_some, m_good m, b1_some, if_neg (by decide), gi45 X, bd_some, if_pos (i3.mpr c1), bd_some, rc45 X, bd_some, m_good m, b1_some, if_neg (by decide), gi45 X, bd_some, iv c1, if_neg (fun z => by have := (q1 c1).mp z; omega), bd_some, if_pos ((q2 c1).mpr c2.2), bd_some, gi45 X, bd_some, rc45 X, bd_some, m_good m, b1_some, if_neg (by decide), rc45 X, bd_some, a1, bd_some, bd_some, rc45 a3.1.1, bd_some, m_good a3, b1_some, if_neg (by decide), b1_some, iv c1]
  · have t26 : tT B n i ≠ 26 := by omega
    obtain ⟨g, a1, a2, a3⟩ := m_fails m (w := 4) (Or.inr rfl) (v := 4) (by unfold fk; rw [if_neg t26]; rfl)
    refine ⟨g, ?_, a2, a3⟩
    have Xg := a3.1.1
    unfold f_X9_numeral
    rw [rc45 X, bd_some, m_good m, b1_some, if_neg (by decide), gi45 X, bd_some, if_pos (i3.mpr c1), bd_some, rc45 X, bd_some, m_good m, b1_some, if_neg (by decide), gi45 X, bd_some, iv c1]
    by_cases c3 : tT B n i - 1000 < lo
    · rw [if_pos ((q1 c1).mpr c3), gi45 X, bd_some, m6, rc45 X, bd_some, a1, bd_some, bd_some, gi45 Xg, bd_some, rc45 Xg, bd_some, m_bad a3, b1_some, if_pos rfl, bd_some, rc45 Xg, bd_some, m_bad a3, b1_some, if_pos rfl, b1_some]
    · rw [if_neg (fun z => c3 ((q1 c1).mp z)), bd_some, if_neg (fun z => by have := (q2 c1).mp z; omega), gi45 X, bd_some, m6, rc45 X, bd_some, a1, bd_some, bd_some, gi45 Xg, bd_some, rc45 Xg, bd_some, m_bad a3, b1_some, if_pos rfl, bd_some, rc45 Xg, bd_some, m_bad a3, b1_some, if_pos rfl, b1_some]
  · obtain ⟨g, a1, a2, a3⟩ := m_wrong m
    refine ⟨g, ?_, a2, a3⟩
    have Xg := a3.1.1
    unfold f_X9_numeral
    rw [rc45 X, bd_some, m_good m, b1_some, if_neg (by decide), gi45 X, bd_some, if_neg (fun z => by have := i3.mp z; omega), rc45 X, bd_some, a1, bd_some, bd_some, rc45 Xg, bd_some, m_bad a3, b1_some, if_pos rfl, bd_some, gi45 Xg, bd_some, rc45 Xg, bd_some, m_bad a3, b1_some, if_pos rfl, bd_some, rc45 Xg, bd_some, m_bad a3, b1_some, if_pos rfl, b1_some]
/-- what a when writes -/
def WF (l base : Nat) (h g : Hp) : Prop := FrM [53, 54, 55, 56, 57, 58] BEx h g ∧ (∀ j, j < 3600 + base → hi g 55 j = hi h 55 j ∧ hi g 56 j = hi h 56 j) ∧ ∀ j, j ≠ 44 + l → hi g 53 j = hi h 53 j ∧ hi g 54 j = hi h 54 j
theorem WF.lg {l base : Nat} {h g : Hp} (w : WF l base h g) : LG h g := by
  obtain ⟨fr, e, e2⟩ := w
  exact ⟨fr.wk (by decide) (by decide), fun j _ => fr.ei _ (by decide) (by decide), fun j _ => ⟨fr.ei _ (by decide) (by decide), fr.ei _ (by decide) (by decide), fr.ei _ (by decide) (by decide)⟩, fun j _ => ⟨fr.ei _ (by decide) (by decide), fr.ei _ (by decide) (by decide), (e2 j (by omega)).1, (e2 j (by omega)).2⟩, fun j hj => e j (by omega)⟩
theorem e44 (l : Nat) : (44 : Int32) + nI l = nI (44 + l) := by rw [show (44 : Int32) = nI 44 from rfl, nI_add]
theorem m_whenD {h : Hp} {e : Nat × Nat} {l base : Nat} (m : MD h B n e) (hl : l ≤ 10) : ∃ g, f_X9_readWhen 45 (nI l) h = some g ∧ WF l base h g ∧ MD g B n e := by
  have X := m.1.1
  obtain ⟨x, e1⟩ := m_isWordD X 2003330414
  obtain ⟨g1, e2⟩ : ∃ g, g = si h 53 (44 + l) (hi h 45 26) := ⟨_, rfl⟩
  have fr1 : FrM [53] [] h g1 := by rw [e2]; exact FrM.row (by decide) (by decide)
  have m1 : MD g1 B n e := m.fr fr1 (by decide) (by decide)
  obtain ⟨g2, e3⟩ : ∃ g, g = si g1 54 (44 + l) (hi g1 45 26) := ⟨_, rfl⟩
  have fr2 : FrM [54] [] g1 g2 := by rw [e3]; exact FrM.row (by decide) (by decide)
  have m2 : MD g2 B n e := m1.fr fr2 (by decide) (by decide)
  refine ⟨g2, ?_, ⟨(fr1.wk (by decide) (by decide)).trans (fr2.wk (by decide) (by decide)), fun j hj => ⟨(fr2.ei _ (by decide) (by decide)).trans (fr1.ei _ (by decide) (by decide)), (fr2.ei _ (by decide) (by decide)).trans (fr1.ei _ (by decide) (by decide))⟩, fun j hj => ⟨?_, ?_⟩⟩, m2⟩
  · unfold f_X9_readWhen
    rw [rc45 X, bd_some, e1, b1_some, rc45 X, bd_some, m_mustD m, bd_some, q45_16 X, bd_some, gi45 X, bd_some, e44, w53 X (by omega), bd_some, ← e2, rc45 m1.1.1, bd_some, m_bad m1, b1_some, if_pos rfl, bd_some, q45_17 m1.1.1, bd_some, gi45 m1.1.1, bd_some, w54 m1.1.1 (by omega), bd_some, ← e3]
  · rw [fr2.ei _ (by decide) (by decide), e2, hi_col _ _ hj]
  · rw [e3, hi_col _ _ hj, fr1.ei _ (by decide) (by decide)]
theorem m_when (gt : GT (tT B n) N) {h : Hp} {i u l base : Nat} (m : MR h B n i) (hu : hi h 45 27 = nI u) (hc : hi h 45 26 = nI base) (hb : base ≤ i) (hi' : i ≤ N) (hu80 : u ≤ 80) (hl : l ≤ 10) : ∃ g, f_X9_readWhen 45 (nI l) h = some g ∧ WF l base h g ∧ Sum.elim (fun e => MD g B n e) (fun r => MR g B n r.1 ∧ hi g 45 27 = nI r.2.1 ∧ MCd g base r.2.2 ∧ hi g 53 (44 + l) = nI base ∧ hi g 54 (44 + l) = nI (base + r.2.2.length)) (gV (tT B n) i u) := by
  have X := m.1.1
  have iw := m_isWord m (w := 9) (by decide) (W := 2003330414) (by rw [wd_tab.2.2.2.2.2.2.2.2.2.1])
  unfold gV
  -- what follows the step of e
  have fin : ∀ g1 g2 g3 g4 : Hp, f_X9_must 45 (if tT B n i = 9 then 1 else 0) h = some g1 → FX g1 → FrM [] [4, 5, 6, 7, 8, 9, 10] h g1 → g2 = si g1 53 (44 + l) (hi g1 45 26) → ((b1 (f_X9_isGood 45 g2) fun x20 h16 => Option.bind ((if x20 = (0 : Int32) then some h16 else (rc h16 (some 45) 8).bind fun g28 => (f_X9_e g28 h16).bind fun h26 => some h26 : Option (Hp))) fun h30 => some h30) = some g3) → EF base g2 g3 → g4 = si g3 54 (44 + l) (hi g3 45 26) → f_X9_readWhen 45 (nI l) h = some g4 ∧ WF l base h g4 ∧ FrM [54] [] g3 g4 := by
    intro g1 g2 g3 g4 a1 x1 f1 e2 a3 f3 e4
    have x2 : FX g2 := by rw [e2]; exact FX_of x1 rfl (fun _ _ => rfl)
    have x3 : FX g3 := f3.1.fx x2
    have fr2 : FrM [53] [] g1 g2 := by rw [e2]; exact FrM.row (by decide) (by decide)
    have fr4 : FrM [54] [] g3 g4 := by rw [e4]; exact FrM.row (by decide) (by decide)
    refine ⟨?_, ⟨((f1.wk (by decide) (by decide)).trans (fr2.wk (by decide) (by decide))).trans ((f3.1.wk (by decide) (by decide)).trans (fr4.wk (by decide) (by decide))), fun j hj => ⟨?_, ?_⟩, fun j hj => ⟨?_, ?_⟩⟩, fr4⟩
    · unfold f_X9_readWhen
      rw [rc45 X, bd_some, iw, b1_some, rc45 X, bd_some, a1, bd_some, q45_16 x1, bd_some, gi45 x1, bd_some, e44, w53 x1 (by omega), bd_some, ← e2, rc45 x2, bd_some]
      cases hg : f_X9_isGood 45 g2 with
      | none => rw [hg] at a3; cases a3
      | some p =>
        rw [hg] at a3
        obtain ⟨x20, h16⟩ := p
        rw [b1_some] at a3 ⊢
        cases hm : ((if x20 = (0 : Int32) then some h16 else (rc h16 (some 45) 8).bind fun g28 => (f_X9_e g28 h16).bind fun h26 => some h26 : Option (Hp))) with
        | none => rw [hm] at a3; cases a3
        | some z =>
          rw [hm, bd_some] at a3
          cases a3
          rw [bd_some, q45_17 x3, bd_some, gi45 x3, bd_some, w54 x3 (by omega), bd_some, ← e4]
    · rw [fr4.ei _ (by decide) (by decide), (f3.2 j hj).1, fr2.ei _ (by decide) (by decide), f1.ei _ (by decide) (by decide)]
    · rw [fr4.ei _ (by decide) (by decide), (f3.2 j hj).2, fr2.ei _ (by decide) (by decide), f1.ei _ (by decide) (by decide)]
    · rw [fr4.ei _ (by decide) (by decide), f3.1.ei _ (by decide) (by decide), e2, hi_col _ _ hj, f1.ei _ (by decide) (by decide)]
    · rw [e4, hi_col _ _ hj, f3.1.ei _ (by decide) (by decide), fr2.ei _ (by decide) (by decide), f1.ei _ (by decide) (by decide)]
  by_cases c9 : tT B n i = 9
  · rw [if_pos c9]
    have ne : i ≠ N := fun e => by rw [e] at c9; have := gt.2.1; omega
    obtain ⟨g1, a1, a2, a3⟩ := m_must1 m (v := if tT B n i = 9 then 1 else 0) (by rw [if_pos c9])
    obtain ⟨g2, e2⟩ : ∃ g, g = si g1 53 (44 + l) (hi g1 45 26) := ⟨_, rfl⟩
    have fr2 : FrM [53] [] g1 g2 := by rw [e2]; exact FrM.row (by decide) (by decide)
    have m2 : MR g2 B n (i + 1) := a3.fr fr2 (by decide) (by decide)
    have u2 : hi g2 45 27 = nI u := (fr2.ef (by decide)).trans ((a2.ef (by decide)).trans hu)
    have c2 : hi g2 45 26 = nI base := (fr2.ef (by decide)).trans ((a2.ef (by decide)).trans hc)
    obtain ⟨g3, b1', b2', b3'⟩ := z_e gt m2 u2 c2 (by omega) (by omega) hu80
    have st : ((b1 (f_X9_isGood 45 g2) fun x20 h16 => Option.bind ((if x20 = (0 : Int32) then some h16 else (rc h16 (some 45) 8).bind fun g28 => (f_X9_e g28 h16).bind fun h26 => some h26 : Option (Hp))) fun h30 => some h30) = some g3) := by
      rw [m_good m2, b1_some, if_neg (by decide), rc45 m2.1.1, bd_some, b1', bd_some, bd_some]
    obtain ⟨r1, r2, r3⟩ := fin g1 g2 g3 _ a1 a3.1.1 (a2.wk (by decide) (by decide)) e2 st b2' rfl
    refine ⟨_, r1, r2, ?_⟩
    cases hr : G (tT B n) 200 0 0 0 (i + 1, u, []) with
    | inl e =>
      rw [hr] at b3'
      exact MD.fr b3' r3 (by decide) (by decide)
    | inr s' =>
      rw [hr] at b3'
      rw [elim_inr]
      have b3'' : if lvO (tT B n s'.1) < 5 then MD g3 B n (s'.1, 2) else MR g3 B n s'.1 ∧ hi g3 45 27 = nI s'.2.1 ∧ MCd g3 base s'.2.2 := b3'
      by_cases cl : lvO (tT B n s'.1) < 5
      · rw [if_pos cl] at b3'' ⊢
        exact MD.fr b3'' r3 (by decide) (by decide)
      · rw [if_neg cl] at b3'' ⊢
        obtain ⟨p1, p2, p3⟩ := b3''
        refine ⟨p1.fr r3 (by decide) (by decide), (r3.ef (by decide)).trans p2, p3.fr r3 (by decide) (by decide) (by decide), ?_, ?_⟩
        · rw [r3.ei _ (by decide) (by decide), b2'.1.ei _ (by decide) (by decide), e2, hi_hit, a2.ef (by decide)]
          exact hc
        · rw [hi_hit]
          exact p3.1
  · rw [if_neg c9]
    obtain ⟨g1, a1, a2, a3⟩ := m_must0 m (v := if tT B n i = 9 then 1 else 0) (by rw [if_neg c9])
    obtain ⟨g2, e2⟩ : ∃ g, g = si g1 53 (44 + l) (hi g1 45 26) := ⟨_, rfl⟩
    have fr2 : FrM [53] [] g1 g2 := by rw [e2]; exact FrM.row (by decide) (by decide)
    have m2 : MD g2 B n (i, 2) := a3.fr fr2 (by decide) (by decide)
    have st : ((b1 (f_X9_isGood 45 g2) fun x20 h16 => Option.bind ((if x20 = (0 : Int32) then some h16 else (rc h16 (some 45) 8).bind fun g28 => (f_X9_e g28 h16).bind fun h26 => some h26 : Option (Hp))) fun h30 => some h30) = some g2) := by
      rw [m_bad m2, b1_some, if_pos rfl, bd_some]
    obtain ⟨r1, r2, r3⟩ := fin g1 g2 g2 _ a1 a3.1.1 (a2.wk (by decide) (by decide)) e2 st EF.refl rfl
    exact ⟨_, r1, r2, m2.fr r3 (by decide) (by decide)⟩
end Mw
