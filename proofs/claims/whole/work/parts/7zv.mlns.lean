/-! The model reads a line. -/
theorem gv_all {T : Nat → Nat} {N : Nat} (gt : GT T N) {i u : Nat} (hi' : i ≤ N) (hu : u ≤ 80) {r : PS} (e : gV T i u = .inr r) : r.2.2.length + i + 1 ≤ r.1 ∧ r.1 ≤ N ∧ r.2.1 ≤ 80 := by
  unfold gV at e
  have hN := gt.1
  by_cases c9 : T i = 9
  · rw [if_pos c9] at e
    have ne : i ≠ N := fun z => by rw [z] at c9; have := gt.2.1; omega
    have gp := gp_all hN gt.2.1 gt.2.2.2 200 0 0 0 (i + 1, u, []) (fun _ => by decide) (fun z => by omega) (by show i + 1 ≤ N; omega) hu
    cases hr : G T 200 0 0 0 (i + 1, u, []) with
    | inl e' => rw [hr] at e; cases e
    | inr s' =>
      rw [hr] at e gp
      rw [if_pos rfl] at gp
      obtain ⟨p1, p2, p3, p4, p5, dd, p6, p7, p8⟩ := gp
      simp only at p1 p3 p6 p7 p8
      rw [elim_inr] at e
      by_cases cl : lvO (T s'.1) < 5
      · rw [if_pos cl] at e; cases e
      · rw [if_neg cl] at e
        cases e
        have ed : r.2.2 = dd := p6
        exact ⟨by rw [ed]; omega, p2, p4⟩
  · rw [if_neg c9] at e; cases e
def C4 (h : Hp) (base l : Nat) (C : List Nat) : Prop := ∃ fr, hi h 53 (44 + l) = nI fr ∧ hi h 54 (44 + l) = nI (fr + C.length) ∧ fr + C.length ≤ base ∧ ∀ j (hj : j < C.length), hi h 55 (3600 + fr + j) = mc C[j] ∧ mnOk C[j] (hi h 56 (3600 + fr + j))
def E4 (h : Hp) (base : Nat) (e : Option (List Nat)) : Prop := match e with
  | none => hi h 61 4 = 0
  | some C => hi h 61 4 = 1 ∧ C4 h base 10 C
/-- the act being read, in shelf 4 -/
def MB (h : Hp) (base M : Nat) (A : Ac) : Prop := hi h 45 26 = nI base ∧ (∀ q, q < 7 → hi h 48 (28 + q) = A.1 q) ∧ (∀ q, q < 7 → hi h 60 (28 + q) = if M.testBit (q + 2) = true then 1 else 0) ∧ hi h 50 4 = nI A.2.2.1.length ∧ (∀ l (hl : l < A.2.2.1.length), hi h 51 (44 + l) = nI A.2.2.1[l].1 ∧ hi h 52 (44 + l) = A.2.2.1[l].2.1 ∧ C4 h base l A.2.2.1[l].2.2) ∧ E4 h base A.2.2.2
theorem C4.kp {h g : Hp} {base b' l : Nat} {C : List Nat} (c : C4 h base l C) (hb : base ≤ b') (e1 : hi g 53 (44 + l) = hi h 53 (44 + l)) (e2 : hi g 54 (44 + l) = hi h 54 (44 + l)) (e3 : ∀ j, j < 3600 + base → hi g 55 j = hi h 55 j ∧ hi g 56 j = hi h 56 j) : C4 g b' l C := by
  obtain ⟨fr, c1, c2, c3, c4⟩ := c
  refine ⟨fr, e1.trans c1, e2.trans c2, by omega, fun j hj => ?_⟩
  rw [(e3 _ (by omega)).1, (e3 _ (by omega)).2]
  exact c4 j hj
theorem E4.kp {h g : Hp} {base b' : Nat} {e : Option (List Nat)} (c : E4 h base e) (hb : base ≤ b') (e0 : hi g 61 4 = hi h 61 4) (e1 : hi g 53 54 = hi h 53 54) (e2 : hi g 54 54 = hi h 54 54) (e3 : ∀ j, j < 3600 + base → hi g 55 j = hi h 55 j ∧ hi g 56 j = hi h 56 j) : E4 g b' e := by
  cases e with
  | none => exact e0.trans c
  | some C => exact ⟨e0.trans c.1, c.2.kp hb e1 e2 e3⟩
theorem MB.fr {h g : Hp} {base M : Nat} {A : Ac} (m : MB h base M A) {L C : List Nat} (fr : FrM L C h g) (hL : [48, 50, 51, 52, 53, 54, 55, 56, 60, 61].all (fun x => !L.contains x) = true) (hC : 26 ∉ C) : MB g base M A := by
  simp at hL
  obtain ⟨p48, p50, p51, p52, p53, p54, p55, p56, p60, p61⟩ := hL
  obtain ⟨m1, m2, m3, m4, m5, m6⟩ := m
  have e3 : ∀ j, j < 3600 + base → hi g 55 j = hi h 55 j ∧ hi g 56 j = hi h 56 j := fun j _ => ⟨fr.ei _ p55 (by decide), fr.ei _ p56 (by decide)⟩
  exact ⟨(fr.ef hC).trans m1, fun q hq' => (fr.ei _ p48 (by decide)).trans (m2 q hq'), fun q hq' => (fr.ei _ p60 (by decide)).trans (m3 q hq'), (fr.ei _ p50 (by decide)).trans m4, fun l hl => ⟨(fr.ei _ p51 (by decide)).trans (m5 l hl).1, (fr.ei _ p52 (by decide)).trans (m5 l hl).2.1, (m5 l hl).2.2.kp (Nat.le_refl _) (fr.ei _ p53 (by decide)) (fr.ei _ p54 (by decide)) e3⟩, m6.kp (Nat.le_refl _) (fr.ei _ p61 (by decide)) (fr.ei _ p53 (by decide)) (fr.ei _ p54 (by decide)) e3⟩
/-- after a line, or a part of it -/
def PL (g : Hp) (B : Nat → Nat) (n : Nat) (ln : Int32) : (Nat × Nat) ⊕ LnS → Prop
  | .inl e => MD g B n e
  | .inr s => MR g B n s.1 ∧ hi g 45 27 = nI s.2.1 ∧ hi g 49 4 = ln ∧ ∃ base, base ≤ s.1 ∧ MB g base s.2.2.1 s.2.2.2
section Ml
variable {B : Nat → Nat} {n N : Nat}
theorem r50l {h : Hp} (X : FX h) : rdI h (some 50) 10 (4 : Int32) = some (hi h 50 4) := r50 X (i := 4) (by decide)
theorem w50l {h : Hp} (X : FX h) (v : Int32) : wrI h (some 50) (4 : Int32) v = some (si h 50 4 v) := w50 X (i := 4) (by decide) v
theorem r49l {h : Hp} (X : FX h) : rdI h (some 49) 10 (4 : Int32) = some (hi h 49 4) := r49 X (i := 4) (by decide)
theorem w49l {h : Hp} (X : FX h) (v : Int32) : wrI h (some 49) (4 : Int32) v = some (si h 49 4 v) := w49 X (i := 4) (by decide) v
theorem r61l {h : Hp} (X : FX h) : rdI h (some 61) 12 (4 : Int32) = some (hi h 61 4) := r61 X (i := 4) (by decide)
theorem w61l {h : Hp} (X : FX h) : wrZ h (some 61) (4 : Int32) 1 = some (si h 61 4 1) := w61 X (i := 4) (by decide) (Or.inr rfl)
/-- from the percent on -/
def rct (x3 x28 : Int32) (h24 : Hp) : Option Hp :=
  (wrI h24 (some 52) ((44 : Int32) + x3) x28).bind fun h29 =>
  (rc h29 (some 45) 8).bind fun g33 =>
  (f_X9_readWhen g33 x3 h29).bind fun h31 =>
  (rc h31 (some 45) 8).bind fun g37 =>
  b1 (f_X9_isGood g37 h31) fun x39 h35 =>
  Option.bind ((if x39 = (0 : Int32) then
      some h35
    else
      (getQ h35 (some 45) 8 13).bind fun x47 =>
      (rdI h35 x47 10 4).bind fun x49 =>
      (wrI h35 x47 4 (x49 + (1 : Int32))).bind fun h51 =>
      some h51 : Option (Hp))) fun h53 =>
  some h53
theorem rct_D {h : Hp} {e : Nat × Nat} {l : Nat} (m : MD h B n e) (hl : l ≤ 10) (v : Int32) : ∃ g, rct (nI l) v h = some g ∧ LG h g ∧ MD g B n e := by
  have X := m.1.1
  obtain ⟨g1, e1⟩ : ∃ g, g = si h 52 (44 + l) v := ⟨_, rfl⟩
  have fr1 : FrM [52] [] h g1 := by rw [e1]; exact FrM.row (by decide) (by decide)
  have lg1 : LG h g1 := by rw [e1]; exact LG.put (by decide) (by omega)
  have m1 : MD g1 B n e := m.fr fr1 (by decide) (by decide)
  obtain ⟨g2, a1, a2, a3⟩ := m_whenD (base := 0) m1 hl
  refine ⟨g2, ?_, lg1.trans a2.lg, a3⟩
  unfold rct
  rw [e44, w52 X (by omega), bd_some, ← e1, rc45 m1.1.1, bd_some, a1, bd_some, rc45 a3.1.1, bd_some, m_bad a3, b1_some, if_pos rfl, bd_some]
theorem rct_A (gt : GT (tT B n) N) {h : Hp} {i u base M k : Nat} {A : Ac} {v : Int32} (m : MR h B n i) (hu : hi h 45 27 = nI u) (mb : MB h base M A) (h51 : hi h 51 (44 + A.2.2.1.length) = nI k) (hb : base ≤ i) (hi' : i ≤ N) (hu80 : u ≤ 80) (hl : A.2.2.1.length < 10) : ∃ g, rct (nI A.2.2.1.length) v h = some g ∧ LG h g ∧ PL g B n (hi h 49 4) (Sum.elim .inl (fun r => .inr (r.1, r.2.1, M, (A.1, A.2.1, A.2.2.1 ++ [(k, v, r.2.2)], A.2.2.2))) (gV (tT B n) i u)) := by
  have X := m.1.1
  obtain ⟨l, el⟩ : ∃ l, l = A.2.2.1.length := ⟨_, rfl⟩
  obtain ⟨g1, e1⟩ : ∃ g, g = si h 52 (44 + l) v := ⟨_, rfl⟩
  have fr1 : FrM [52] [] h g1 := by rw [e1]; exact FrM.row (by decide) (by decide)
  have lg1 : LG h g1 := by rw [e1]; exact LG.put (by decide) (by omega)
  have m1 : MR g1 B n i := m.fr fr1 (by decide) (by decide)
  obtain ⟨g2, a1, a2, a3⟩ := m_when gt m1 ((fr1.ef (by decide)).trans hu) ((fr1.ef (by decide)).trans mb.1) hb hi' hu80 (l := l) (by omega)
  rw [← el] at h51 ⊢
  have un : ∀ z, (b1 (f_X9_isGood 45 g2) fun x39 h35 => Option.bind ((if x39 = (0 : Int32) then some h35 else (getQ h35 (some 45) 8 13).bind fun x47 => (rdI h35 x47 10 4).bind fun x49 => (wrI h35 x47 4 (x49 + (1 : Int32))).bind fun h51 => some h51 : Option (Hp))) fun h53 => some h53) = z → FX g2 → rct (nI l) v h = z := by
    intro z hz X2
    unfold rct
    rw [e44, w52 X (by omega), bd_some, ← e1, rc45 m1.1.1, bd_some, a1, bd_some, rc45 X2, bd_some]
    exact hz
  cases hr : gV (tT B n) i u with
  | inl e =>
    rw [hr] at a3
    have a3' : MD g2 B n e := a3
    exact ⟨g2, un _ (by rw [m_bad a3', b1_some, if_pos rfl, bd_some]) a3'.1.1, lg1.trans a2.lg, a3⟩
  | inr r =>
    rw [hr] at a3
    obtain ⟨p1, p2, p3, p4, p5⟩ := a3
    obtain ⟨v1, v2, v3⟩ := gv_all gt hi' hu80 hr
    obtain ⟨g3, e3⟩ : ∃ g, g = si g2 50 4 (nI (l + 1)) := ⟨_, rfl⟩
    have fr3 : FrM [50] [] g2 g3 := by rw [e3]; exact FrM.row (by decide) (by decide)
    have lg3 : LG g2 g3 := by rw [e3]; exact LG.put (by decide) (by omega)
    obtain ⟨m1', m2', m3', m4', m5', m6'⟩ := mb
    have c50 : hi g2 50 4 = nI l := (a2.1.ei _ (by decide) (by decide)).trans ((fr1.ei _ (by decide) (by decide)).trans (m4'.trans (by rw [el])))
    have k5 : ∀ j, j < 3600 + base → hi g3 55 j = hi h 55 j ∧ hi g3 56 j = hi h 56 j := fun j hj => by
      rw [fr3.ei _ (by decide) (by decide), fr3.ei _ (by decide) (by decide), (a2.2.1 j hj).1, (a2.2.1 j hj).2, fr1.ei _ (by decide) (by decide), fr1.ei _ (by decide) (by decide)]
      exact ⟨rfl, rfl⟩
    have k3 : ∀ j, j ≠ 44 + l → hi g3 53 j = hi h 53 j ∧ hi g3 54 j = hi h 54 j := fun j hj => by
      rw [fr3.ei _ (by decide) (by decide), fr3.ei _ (by decide) (by decide), (a2.2.2 j hj).1, (a2.2.2 j hj).2, fr1.ei _ (by decide) (by decide), fr1.ei _ (by decide) (by decide)]
      exact ⟨rfl, rfl⟩
    have g52 : ∀ j, hi g3 52 j = hi g1 52 j := fun j => by rw [fr3.ei _ (by decide) (by decide), a2.1.ei _ (by decide) (by decide)]
    have ko : ∀ x j, x ∉ [50, 52, 53, 54, 55, 56, 57, 58] → x ≠ 45 → hi g3 x j = hi h x j := fun x j hx h45 => by
      simp at hx
      rw [fr3.ei _ (by simp; omega) h45, a2.1.ei _ (by simp; omega) h45, fr1.ei _ (by simp; omega) h45]
    have p3' : MCd g3 base r.2.2 := p3.fr fr3 (by decide) (by decide) (by decide)
    refine ⟨g3, un _ (by rw [m_good p1, b1_some, if_neg (by decide), q45_13 p1.1.1, bd_some, r50l p1.1.1, bd_some, c50, nI_1, w50l p1.1.1, bd_some, bd_some, ← e3]) p1.1.1, (lg1.trans a2.lg).trans lg3, p1.fr fr3 (by decide) (by decide), (fr3.ef (by decide)).trans p2, ko _ _ (by decide) (by decide), base + r.2.2.length, by show base + r.2.2.length ≤ r.1; omega, p3'.1, fun q hq' => (ko _ _ (by decide) (by decide)).trans (m2' q hq'), fun q hq' => (ko _ _ (by decide) (by decide)).trans (m3' q hq'), ?_, fun l' hl' => ?_, ?_⟩
    · show hi g3 50 4 = nI (A.2.2.1 ++ [_]).length
      rw [e3, hi_hit, List.length_append, List.length_singleton, ← el]
    · simp only [List.length_append, List.length_singleton] at hl'
      by_cases q : l' = A.2.2.1.length
      · subst q
        have ge : (A.2.2.1 ++ [(k, v, r.2.2)])[A.2.2.1.length]'(by rw [List.length_append, List.length_singleton]; omega) = (k, v, r.2.2) := by rw [List.getElem_append_right (Nat.le_refl _)]; simp
        simp only [ge]
        rw [← el]
        refine ⟨(ko _ _ (by decide) (by decide)).trans h51, by rw [g52, e1, hi_hit], base, ?_, ?_, Nat.le_refl _, p3'.2⟩
        · rw [fr3.ei _ (by decide) (by decide)]; exact p4
        · rw [fr3.ei _ (by decide) (by decide)]; exact p5
      · have ge : (A.2.2.1 ++ [(k, v, r.2.2)])[l']'(by rw [List.length_append, List.length_singleton]; omega) = A.2.2.1[l']'(by omega) := List.getElem_append_left (by omega)
        simp only [ge]
        obtain ⟨s1, s2, s3⟩ := m5' l' (by omega)
        exact ⟨(ko _ _ (by decide) (by decide)).trans s1, (by rw [g52, e1, hi_col _ _ (by omega)]; exact s2), s3.kp (by omega) (k3 _ (by omega)).1 (k3 _ (by omega)).2 k5⟩
    · exact m6'.kp (by omega) (ko _ _ (by decide) (by decide)) (k3 54 (by omega)).1 (k3 54 (by omega)).2 k5
theorem m_rcnt (gt : GT (tT B n) N) {h : Hp} {i u base M : Nat} {A : Ac} (m : MR h B n (i + 1)) (hu : hi h 45 27 = nI u) (mb : MB h base M A) (hb : base ≤ i) (hi' : i + 1 ≤ N) (hu80 : u ≤ 80) (hl : A.2.2.1.length < 10) (t0 : tT B n i = 0) : ∃ g, f_X9_readCounts 45 h = some g ∧ LG h g ∧ PL g B n (hi h 49 4) (gQ (tT B n) (i, u, M, A)) := by
  have X := m.1.1
  obtain ⟨l, el⟩ : ∃ l, l = A.2.2.1.length := ⟨_, rfl⟩
  have c50 : hi h 50 4 = nI l := by rw [el]; exact mb.2.2.2.1
  unfold gQ
  simp only
  rw [if_pos t0, if_pos hl]
  have un : ∀ (x9 w11 : Int32) (g1 g2 g3 : Hp) (x28 : Int32) z, f_X9_kindHere 45 h = some (x9, h) → (if x9 < (0 : Int32) then some ((0 : Int32), h) else some (1, h)) = some (w11, h) → f_X9_must 45 w11 h = some g1 → FX g1 → g2 = si g1 51 (44 + l) x9 → f_X9_numeral 45 0 100 g2 = some (x28, g3) → rct (nI l) x28 g3 = z → f_X9_readCounts 45 h = z := by
    intro x9 w11 g1 g2 g3 x28 z a1 a2 a3 X1 e2 a4 a5
    have X2 : FX g2 := by rw [e2]; exact FX_of X1 rfl (fun _ _ => rfl)
    unfold f_X9_readCounts
    rw [q45_13 X, bd_some, r50l X, bd_some, c50, rc45 X, bd_some, a1, b1_some, a2, b1_some, rc45 X, bd_some, a3, bd_some, q45_14 X1, bd_some, e44, w51 X1 (by omega), bd_some, ← e2, q45_15 X2, bd_some, rc45 X2, bd_some, a4, b1_some]
    unfold rct at a5
    rw [e44] at a5
    exact a5
  have mk := m_kind m
  by_cases ck : 13 ≤ tT B n (i + 1) ∧ tT B n (i + 1) ≤ 17
  · rw [if_pos ck] at mk ⊢
    have ne : i + 1 ≠ N := fun e => by rw [e] at ck; have := gt.2.1; omega
    obtain ⟨g1, a1, a2, a3⟩ := m_must1 m (v := 1) rfl
    obtain ⟨g2, e2⟩ : ∃ g, g = si g1 51 (44 + l) (nI (tT B n (i + 1) - 13)) := ⟨_, rfl⟩
    have fr2 : FrM [51] [] g1 g2 := by rw [e2]; exact FrM.row (by decide) (by decide)
    have lg2 : LG h g2 := (LG.of a2 (by decide) (by decide)).trans (by rw [e2]; exact LG.put (by decide) (by omega))
    have m2 : MR g2 B n (i + 2) := a3.fr fr2 (by decide) (by decide)
    have w11 : (if nI (tT B n (i + 1) - 13) < (0 : Int32) then some ((0 : Int32), h) else some (1, h)) = some (1, h) := if_neg (nI_pos (by omega))
    have mb2 : MB g2 base M A := by
      have mb1 := mb.fr a2 (by decide) (by decide)
      obtain ⟨m1', m2', m3', m4', m5', m6'⟩ := mb1
      have ko : ∀ x j, x ≠ 51 → x ≠ 45 → hi g2 x j = hi g1 x j := fun x j hx h45 => fr2.ei _ (by simpa using hx) h45
      have k5 : ∀ j, j < 3600 + base → hi g2 55 j = hi g1 55 j ∧ hi g2 56 j = hi g1 56 j := fun j _ => ⟨ko _ _ (by decide) (by decide), ko _ _ (by decide) (by decide)⟩
      exact ⟨(fr2.ef (by decide)).trans m1', fun q hq' => (ko _ _ (by decide) (by decide)).trans (m2' q hq'), fun q hq' => (ko _ _ (by decide) (by decide)).trans (m3' q hq'), (ko _ _ (by decide) (by decide)).trans m4', fun l' hl' => ⟨(by rw [e2, hi_col _ _ (by omega)]; exact (m5' l' hl').1), (ko _ _ (by decide) (by decide)).trans (m5' l' hl').2.1, (m5' l' hl').2.2.kp (Nat.le_refl _) (ko _ _ (by decide) (by decide)) (ko _ _ (by decide) (by decide)) k5⟩, m6'.kp (Nat.le_refl _) (ko _ _ (by decide) (by decide)) (ko _ _ (by decide) (by decide)) (ko _ _ (by decide) (by decide)) k5⟩
    have mn := m_numeral m2 (lo := 0) (hh := 100) (by decide) (by decide)
    have n49 : hi g2 49 4 = hi h 49 4 := (fr2.ei _ (by decide) (by decide)).trans (a2.ei _ (by decide) (by decide))
    by_cases c3 : 1000 ≤ tT B n (i + 2)
    · rw [if_pos c3]
      have ne2 : i + 2 ≠ N := fun e => by rw [e] at c3; have := gt.2.1; omega
      by_cases c4 : tT B n (i + 2) ≤ 1100
      · rw [if_pos c4]
        obtain ⟨g3, b1', b2', b3'⟩ := mn.1 c3 ⟨Nat.zero_le _, by omega⟩
        obtain ⟨g, r1, r2, r3⟩ := rct_A gt (v := nI (tT B n (i + 2) - 1000)) (k := tT B n (i + 1) - 13) b3' ((b2'.ef (by decide)).trans ((fr2.ef (by decide)).trans ((a2.ef (by decide)).trans hu))) (mb2.fr b2' (by decide) (by decide)) (by rw [b2'.ei _ (by decide) (by decide), e2, el, hi_hit]) (by omega) (by omega) hu80 hl
        rw [← el] at r1
        rw [b2'.ei _ (by decide) (by decide), n49] at r3
        exact ⟨g, un _ _ g1 g2 g3 _ _ mk w11 a1 a3.1.1 e2 b1' r1, (lg2.trans (LG.of b2' (by decide) (by decide))).trans r2, r3⟩
      · rw [if_neg c4]
        obtain ⟨g3, b1', b2', b3'⟩ := mn.2.1 c3 (fun z => by omega)
        obtain ⟨g, r1, r2, r3⟩ := rct_D b3' (l := l) (by omega) 0
        exact ⟨g, un _ _ g1 g2 g3 _ _ mk w11 a1 a3.1.1 e2 b1' r1, (lg2.trans (LG.of b2' (by decide) (by decide))).trans r2, r3⟩
    · rw [if_neg c3]
      obtain ⟨g3, b1', b2', b3'⟩ := mn.2.2 (by omega)
      obtain ⟨g, r1, r2, r3⟩ := rct_D b3' (l := l) (by omega) 0
      exact ⟨g, un _ _ g1 g2 g3 _ _ mk w11 a1 a3.1.1 e2 b1' r1, (lg2.trans (LG.of b2' (by decide) (by decide))).trans r2, r3⟩
  · rw [if_neg ck] at mk ⊢
    obtain ⟨g1, a1, a2, a3⟩ := m_must0 m (v := 0) rfl
    obtain ⟨g2, e2⟩ : ∃ g, g = si g1 51 (44 + l) (-1) := ⟨_, rfl⟩
    have fr2 : FrM [51] [] g1 g2 := by rw [e2]; exact FrM.row (by decide) (by decide)
    have lg2 : LG h g2 := (LG.of a2 (by decide) (by decide)).trans (by rw [e2]; exact LG.put (by decide) (by omega))
    have m2 : MD g2 B n (i + 1, 2) := a3.fr fr2 (by decide) (by decide)
    obtain ⟨g, r1, r2, r3⟩ := rct_D m2 (l := l) (by omega) 0
    exact ⟨g, un _ 0 g1 g2 g2 0 _ mk (if_pos (by decide)) a1 a3.1.1 e2 (m_numeralD m2 0 100) r1, lg2.trans r2, r3⟩
/-- empty -/
theorem m_remp (gt : GT (tT B n) N) {h : Hp} {i u base M : Nat} {A : Ac} (m : MR h B n i) (hu : hi h 45 27 = nI u) (mb : MB h base M A) (hb : base ≤ i) (hi' : i ≤ N) (hu80 : u ≤ 80) (hl10 : A.2.2.1.length ≤ 10) : ∃ g, f_X9_readEmpty 45 h = some g ∧ LG h g ∧ PL g B n (hi h 49 4) (Sum.elim .inl (fun r => .inr (r.1, r.2.1, M ||| 2 ^ 1, (A.1, A.2.1, A.2.2.1, some r.2.2))) (gV (tT B n) i u)) := by
  have X := m.1.1
  obtain ⟨g2, a1, a2, a3⟩ := m_when gt m hu mb.1 hb hi' hu80 (l := 10) (by decide)
  have a1' : f_X9_readWhen 45 (10 : Int32) h = some g2 := a1
  have X2 : FX g2 := a2.1.fx X
  obtain ⟨g3, e3⟩ : ∃ g, g = si g2 61 4 1 := ⟨_, rfl⟩
  have fr3 : FrM [61] [] g2 g3 := by rw [e3]; exact FrM.row (by decide) (by decide)
  have lg3 : LG g2 g3 := by rw [e3]; exact LG.put (by decide) (by omega)
  refine ⟨g3, ?_, a2.lg.trans lg3, ?_⟩
  · unfold f_X9_readEmpty
    rw [rc45 X, bd_some, a1', bd_some, q45_24 X2, bd_some, w61l X2, bd_some, ← e3]
  cases hr : gV (tT B n) i u with
  | inl e =>
    rw [hr] at a3
    exact MD.fr a3 fr3 (by decide) (by decide)
  | inr r =>
    rw [hr] at a3
    obtain ⟨p1, p2, p3, p4, p5⟩ := a3
    obtain ⟨v1, v2, v3⟩ := gv_all gt hi' hu80 hr
    obtain ⟨m1', m2', m3', m4', m5', m6'⟩ := mb
    have k5 : ∀ j, j < 3600 + base → hi g3 55 j = hi h 55 j ∧ hi g3 56 j = hi h 56 j := fun j hj => by
      rw [fr3.ei _ (by decide) (by decide), fr3.ei _ (by decide) (by decide), (a2.2.1 j hj).1, (a2.2.1 j hj).2]
      exact ⟨rfl, rfl⟩
    have k3 : ∀ j, j ≠ 54 → hi g3 53 j = hi h 53 j ∧ hi g3 54 j = hi h 54 j := fun j hj => by
      rw [fr3.ei _ (by decide) (by decide), fr3.ei _ (by decide) (by decide), (a2.2.2 j hj).1, (a2.2.2 j hj).2]
      exact ⟨rfl, rfl⟩
    have ko : ∀ x j, x ∉ [61, 53, 54, 55, 56, 57, 58] → x ≠ 45 → hi g3 x j = hi h x j := fun x j hx h45 => by
      simp at hx
      rw [fr3.ei _ (by simp; omega) h45, a2.1.ei _ (by simp; omega) h45]
    have p3' : MCd g3 base r.2.2 := p3.fr fr3 (by decide) (by decide) (by decide)
    refine ⟨p1.fr fr3 (by decide) (by decide), (fr3.ef (by decide)).trans p2, ko _ _ (by decide) (by decide), base + r.2.2.length, by show base + r.2.2.length ≤ r.1; omega, p3'.1, fun q hq' => (ko _ _ (by decide) (by decide)).trans (m2' q hq'), fun q hq' => ?_, (ko _ _ (by decide) (by decide)).trans m4', fun l' hl' => ?_, ?_⟩
    · rw [ko _ _ (by decide) (by decide), m3' q hq', seen_or, show decide (1 = q + 2) = false from decide_eq_false (by omega), Bool.or_false]
    · obtain ⟨s1, s2, s3⟩ := m5' l' hl'
      have hl'' : l' < A.2.2.1.length := hl'
      exact ⟨(ko _ _ (by decide) (by decide)).trans s1, (ko _ _ (by decide) (by decide)).trans s2, s3.kp (by omega) (k3 _ (by omega)).1 (k3 _ (by omega)).2 k5⟩
    · refine ⟨by rw [e3, hi_hit], base, ?_, ?_, Nat.le_refl _, p3'.2⟩
      · rw [fr3.ei _ (by decide) (by decide)]; exact p4
      · rw [fr3.ei _ (by decide) (by decide)]; exact p5
end Ml
