/-! A fact is told: the state after it. -/
theorem CD.rows {g g' : Hp} {s l : Nat} {C : List Nat} (D : CD g s l C) (E : ∀ a k, 48 ≤ a → a ≤ 61 → hi g' a k = hi g a k) : CD g' s l C := by
  obtain ⟨f, D1, D2, D3, D4⟩ := D
  refine ⟨f, by rw [E _ _ (by decide) (by decide)]; exact D1, by rw [E _ _ (by decide) (by decide)]; exact D2, D3, fun j hj => ?_⟩
  rw [E _ _ (by decide) (by decide), E _ _ (by decide) (by decide)]
  exact D4 j hj
theorem MA.rows {g g' : Hp} {s : Nat} {A : Ac} (M : MA g s A) (E : ∀ a k, 48 ≤ a → a ≤ 61 → hi g' a k = hi g a k) : MA g' s A := by
  obtain ⟨M1, M2, ⟨M3, M4⟩, M5⟩ := M
  refine ⟨fun n hn => by rw [E _ _ (by decide) (by decide)]; exact M1 n hn, by rw [E _ _ (by decide) (by decide)]; exact M2, ⟨by rw [E _ _ (by decide) (by decide)]; exact M3, fun l hl => ?_⟩, ?_⟩
  · rw [E _ _ (by decide) (by decide), E _ _ (by decide) (by decide)]
    exact ⟨(M4 l hl).1, (M4 l hl).2.1, (M4 l hl).2.2.rows E⟩
  · unfold MEm at M5 ⊢
    cases hA : A.2.2.2 with
    | none =>
      rw [hA] at M5
      show hi g' 61 s = 0
      rw [E _ _ (by decide) (by decide)]
      exact M5
    | some C =>
      rw [hA] at M5
      show hi g' 61 s = 1 ∧ CD g' s 10 C
      rw [E _ _ (by decide) (by decide)]
      exact ⟨M5.1, M5.2.rows E⟩
theorem CCx.kp2 {h h' : Hp} {cb : Nat} {C : List Nat} (c : CCx h cb C) (K : ∀ a y, hk h a = some y → hk h' a = some y) (E : ∀ k, hi h' cb k = hi h cb k) : CCx h' cb C := ⟨K _ _ c.1, fun j hj => (E j).trans (c.2 j hj)⟩
theorem CA.kp2 {P P' : Nat → Prop} {h h' : Hp} {b : Nat} {A : Ac} (c : CA P h b A) (K : ∀ a y, hk h a = some y → hk h' a = some y) (hP : ∀ a y, hk h a = some y → P a → P' a) (E : ∀ a y, hk h a = some y → P a → y ≠ (1, 0) → (∀ k, hi h' a k = hi h a k) ∧ ∀ k, hq h' a k = hq h a k) : CA P' h' b A := by
  obtain ⟨rb, nb, p1, p2, p3, p4, p5, p6, p7, p8, p9, p10, p11, p12, p13⟩ := c
  have ne : ∀ {kd n : Nat}, kd ≠ 1 → ((kd, n) : Nat × Nat) ≠ (1, 0) := fun h e => h (congrArg Prod.fst e)
  have k1 := E b _ p4 p1 (ne (by decide))
  have k2 := E rb _ p6 p2 (ne (by decide))
  have k3 := E nb _ p9 p3 (ne (by decide))
  refine ⟨rb, nb, hP _ _ p4 p1, hP _ _ p6 p2, hP _ _ p9 p3, K _ _ p4, (k1.2 _).trans p5, K _ _ p6, (k1.1 _).trans p7, (k1.2 _).trans p8, K _ _ p9, fun n hn => (k3.1 _).trans (p10 n hn), (k1.1 _).trans p11, fun l hl => ?_, ?_⟩
  · obtain ⟨q, cb, q1, q2, q3, q4, q5, q6, q7, q8⟩ := p12 l hl
    have j1 := E q _ q3 q1 (ne (by decide))
    exact ⟨q, cb, hP _ _ q3 q1, (k2.2 _).trans q2, K _ _ q3, (j1.1 _).trans q4, (j1.1 _).trans q5, (j1.2 _).trans q6, hP _ _ q8.1 q7, q8.kp2 K (E cb _ q8.1 q7 (ne (by decide))).1⟩
  · unfold CE at p13 ⊢
    cases hA : A.2.2.2 with
    | none =>
      rw [hA] at p13
      exact (k1.1 _).trans p13
    | some C =>
      rw [hA] at p13
      obtain ⟨q1, eb, q2, q3, q4⟩ := p13
      exact ⟨(k1.1 _).trans q1, eb, (k1.2 _).trans q2, hP _ _ q4.1 q3, q4.kp2 K (E eb _ q4.1 q3 (ne (by decide))).1⟩
section Nx
variable {F F' : Nat → Nat → Int32} {wk : Int32} {n : Nat}
theorem nx_none : ∀ d m, n - m = d → (nx F wk n m = none ↔ ∀ f, m ≤ f → f < n → F 1 f ≠ wk) := by
  intro d
  induction d with
  | zero =>
    intro m hm
    exact ⟨fun _ f h1 h2 => by omega, fun _ => nx_end (by omega)⟩
  | succ d ih =>
    intro m hm
    by_cases e : F 1 m = wk
    · rw [nx_hit (by omega) e]
      exact ⟨(fun z => by cases z), fun z => absurd e (z m (Nat.le_refl _) (by omega))⟩
    · rw [nx_skip (by omega) e, ih (m + 1) (by omega)]
      refine ⟨fun z f h1 h2 => ?_, fun z f h1 h2 => z f (by omega) h2⟩
      by_cases q : f = m
      · subst q; exact e
      · exact z f (by omega) h2
theorem nx_lt : ∀ d m, n - m = d → ∀ x, nx F wk n m = some x → m ≤ x ∧ x < n := by
  intro d
  induction d with
  | zero =>
    intro m hm x e
    rw [nx_end (by omega)] at e
    cases e
  | succ d ih =>
    intro m hm x e
    by_cases q : F 1 m = wk
    · rw [nx_hit (by omega) q] at e
      cases e
      omega
    · rw [nx_skip (by omega) q] at e
      have := ih (m + 1) (by omega) x e
      omega
theorem nx_more (a : ∀ f, f < n → F' 1 f = F 1 f) : ∀ d m, n - m = d → m ≤ n → nx F' wk (n + 1) m = (nx F wk n m).orElse (fun _ => if F' 1 n = wk then some n else none) := by
  intro d
  induction d with
  | zero =>
    intro m hm hm2
    obtain rfl : m = n := by omega
    rw [nx_end (F := F) (Nat.le_refl _)]
    show _ = (if F' 1 m = wk then some m else none)
    by_cases e : F' 1 m = wk
    · rw [nx_hit (by omega) e, if_pos e]
    · rw [nx_skip (by omega) e, nx_end (Nat.le_refl _), if_neg e]
  | succ d ih =>
    intro m hm hm2
    by_cases e : F 1 m = wk
    · rw [nx_hit (by omega) (by rw [a m (by omega)]; exact e), nx_hit (by omega) e]
      rfl
    · rw [nx_skip (by omega) (by rw [a m (by omega)]; exact e), nx_skip (F := F) (by omega) e]
      exact ih (m + 1) (by omega) (by omega)
theorem lx_some : ∀ m l, lx F wk m = some l → l < m ∧ F 1 l = wk ∧ ∀ f, l < f → f < m → F 1 f ≠ wk
  | 0, l, e => by cases e
  | m + 1, l, e => by
    have e' : (if F 1 m = wk then some m else lx F wk m) = some l := e
    by_cases q : F 1 m = wk
    · rw [if_pos q] at e'
      cases e'
      exact ⟨by omega, q, fun f h1 h2 => by omega⟩
    · rw [if_neg q] at e'
      obtain ⟨h1, h2, h3⟩ := lx_some m l e'
      refine ⟨by omega, h2, fun f h4 h5 => ?_⟩
      by_cases z : f = m
      · subst z; exact q
      · exact h3 f h4 (by omega)
theorem lx_none : ∀ m, lx F wk m = none → ∀ f, f < m → F 1 f ≠ wk
  | 0, _, f, hf => absurd hf (Nat.not_lt_zero _)
  | m + 1, e, f, hf => by
    have e' : (if F 1 m = wk then some m else lx F wk m) = none := e
    by_cases q : F 1 m = wk
    · rw [if_pos q] at e'
      cases e'
    · rw [if_neg q] at e'
      by_cases z : f = m
      · subst z; exact q
      · exact lx_none m e' f (by omega)
theorem lx_same (a : ∀ f, f < n → F' 1 f = F 1 f) : ∀ m, m ≤ n → lx F' wk m = lx F wk m
  | 0, _ => rfl
  | m + 1, hm => by
    show (if F' 1 m = wk then some m else lx F' wk m) = (if F 1 m = wk then some m else lx F wk m)
    rw [a m (by omega), lx_same a m (by omega)]
theorem BCn_same (a : ∀ f, f < n → F' 0 f = F 0 f ∧ F' 1 f = F 1 f) : ∀ m, m ≤ n → BCn F' wk m = BCn F wk m
  | 0, _ => rfl
  | m + 1, hm => by
    show (if F' 0 m = 2 ∧ F' 1 m = wk then BCn F' wk m + 1 else BCn F' wk m) = (if F 0 m = 2 ∧ F 1 m = wk then BCn F wk m + 1 else BCn F wk m)
    rw [(a m (by omega)).1, (a m (by omega)).2, BCn_same a m (by omega)]
/-- the facts with one more -/
def tF (F : Nat → Nat → Int32) (nf : Nat) (x : Nat → Int32) : Nat → Nat → Int32 := fun j f => if f = nf ∧ j < 7 then x j else F j f
theorem tF_o (F : Nat → Nat → Int32) {nf f : Nat} (x : Nat → Int32) (j : Nat) (h : f ≠ nf) : tF F nf x j f = F j f := if_neg (fun z => h z.1)
theorem tF_h (F : Nat → Nat → Int32) (nf : Nat) (x : Nat → Int32) {j : Nat} (h : j < 7) : tF F nf x j nf = x j := if_pos ⟨rfl, h⟩
end Nx
section To
variable {h g : Hp} {nw nf : Nat} {F : Nat → Nat → Int32} {A : Nat → Ac} {pls tms : Nat → Int32} {tme : Nat} {wa fa : Nat → Nat}
theorem INVp.told (I : INVp h nw nf F A pls tms tme wa fa) (hn : nf < 250) {w n0' : Nat} (hw : w < nw) (en : n0' = h.1.length) {x : Nat → Int32} (x1 : x 1 = nI w) (r : RGf (tF F nf x) nw nf) (bc : BCn (tF F nf x) (nI w) (nf + 1) ≤ 10) (Xg : FX g)
    (kd : ∀ a y, hk h a = some y → hk g a = some y) (kn : hk g n0' = some (1, 0))
    (E : ∀ a k, a ≠ n0' → ¬ (a = 8 ∧ k = 5) → ¬ (a = wa w ∧ (k = 4 ∨ k = 5)) → ¬ (64 ≤ a ∧ a ≤ 70 ∧ k = nf) → ¬ (a = 63 ∧ k = w) → ¬ (a = 45 ∧ k = 41) → hi g a k = hi h a k)
    (E8 : hi g 8 5 = nI (nf + 1)) (Ew5 : hi g (wa w) 5 = 0) (Ew4 : hi g (wa w) 4 = nI (BCn (tF F nf x) (nI w) (nf + 1))) (E63 : hi g 63 w = nI (BCn (tF F nf x) (nI w) (nf + 1))) (Em : ∀ j, j < 7 → hi g (64 + j) nf = x j) (E41 : hi g 45 41 = nI (nf + 1))
    (En : hi g n0' 0 = nI nf ∧ hi g n0' 1 = x 0 ∧ hi g n0' 2 = x 2 ∧ hi g n0' 3 = x 3 ∧ hi g n0' 4 = x 4 ∧ hi g n0' 5 = x 5 ∧ hi g n0' 6 = x 1 ∧ hi g n0' 7 = x 6)
    (Q : ∀ a k, a ≠ n0' → ¬ (a = 16 ∧ k = nf) → ¬ (a = wa w ∧ (k = 2 ∨ k = 3)) → (∀ l, lx F (nI w) nf = some l → ¬ (a = fa l ∧ k = 8)) → hq g a k = hq h a k)
    (Q16 : hq g 16 nf = some n0') (Qw3 : hq g (wa w) 3 = some n0') (Qw2 : lx F (nI w) nf = none → hq g (wa w) 2 = some n0') (Qw2' : lx F (nI w) nf ≠ none → hq g (wa w) 2 = hq h (wa w) 2) (Ql : ∀ l, lx F (nI w) nf = some l → hq g (fa l) 8 = some n0') (Qn : hq g n0' 8 = none) :
    INVp g nw (nf + 1) (tF F nf x) A pls tms tme wa (fun f => if f = nf then n0' else fa f) := by
  obtain ⟨X, M, T, c, tp⟩ := I
  have hw10 := M.2.1
  have n88 : 88 ≤ n0' := by rw [en]; exact X.len
  have w88 := T.ge hw
  have lt : ∀ a y, hk h a = some y → a < n0' := fun a y e => by
    rw [en]
    rcases Nat.lt_or_ge a h.1.length with q | q
    · exact q
    · have : hk h a = none := List.getElem?_eq_none q
      rw [this] at e
      cases e
  have aw : ∀ w', w' < nw → wa w' + 4 < n0' := fun w' hw' => lt _ _ (T.2.2.2.1 w' hw').2.1.2.2.2.2.2.1
  have af : ∀ f, f < nf → fa f < n0' := fun f hf => lt _ _ (T.2.2.2.2.1 f hf).2.1
  have fw : ∀ f w', f < nf → w' < nw → fa f < wa w' ∨ wa w' + 4 < fa f := fun f w' hf hw' => T.apart hw' hf
  obtain ⟨F', eF'⟩ : ∃ F', F' = tF F nf x := ⟨_, rfl⟩
  have o : ∀ f, f < nf → ∀ j, F' j f = F j f := fun f hf j => by rw [eF']; exact tF_o F x j (by omega)
  have hh : ∀ j, j < 7 → F' j nf = x j := fun j hj => by rw [eF']; exact tF_h F nf x hj
  have a1 : ∀ f, f < nf → F' 1 f = F 1 f := fun f hf => o f hf 1
  have bo : ∀ w', w' < nw → w' ≠ w → BCn F' (nI w') (nf + 1) = BCn F (nI w') nf := fun w' hw' ne => by
    show (if F' 0 nf = 2 ∧ F' 1 nf = nI w' then BCn F' (nI w') nf + 1 else BCn F' (nI w') nf) = _
    rw [if_neg, BCn_same (fun f hf => ⟨o f hf 0, o f hf 1⟩) nf (Nat.le_refl _)]
    rintro ⟨-, z⟩
    rw [hh 1 (by decide), x1, nI_eq (by omega) (by omega)] at z
    omega
  rw [← eF'] at r bc Ew4 E63 ⊢
  refine ⟨Xg, ?_, ?_, ?_, ?_⟩
  · obtain ⟨T1, T2, T3, T4, T5, T6, T7, T8, T9, T10, T11, T12, T13⟩ := M
    refine ⟨by rw [E _ _ (by omega) (by omega) (by omega) (by omega) (by omega) (by omega)]; exact T1, T2, E41, by omega, ?_, ⟨fun f hf => ?_, fun w' hw' => ?_⟩, fun s hs => ⟨(T7 s hs).1.rows (fun a k h1 h2 => E _ _ (by omega) (by omega) (by omega) (by omega) (by omega) (by omega)), (T7 s hs).2⟩, ?_, ?_, T10, fun w' hw' => ?_, by rw [E _ _ (by omega) (by omega) (by omega) (by omega) (by omega) (by omega)]; exact T12, T13⟩
    · funext j f
      by_cases hj : j < 7
      · rw [vF_at _ _ hj]
        by_cases q : f = nf
        · subst q
          rw [hh j hj]
          exact Em j hj
        · have q' : F' j f = F j f := by rw [eF']; exact tF_o F x j q
          rw [q', E _ _ (by omega) (by omega) (by omega) (by omega) (by omega) (by omega), ← T5, vF_at _ _ hj]
      · have q' : F' j f = F j f := by rw [eF']; exact if_neg (fun z => hj z.2)
        rw [q', ← T5]
        unfold vF
        rw [if_neg hj, if_neg hj]
    · by_cases q : f = nf
      · subst q
        exact r
      · have hf' : f < nf := by omega
        have := T6.1 f hf'
        unfold RGf at this ⊢
        rw [o f hf' 0, o f hf' 1, o f hf' 2, o f hf' 3, o f hf' 4, o f hf' 5, o f hf' 6]
        exact this
    · by_cases q : w' = w
      · subst q
        exact bc
      · rw [bo w' hw' q]
        exact T6.2 w' hw'
    · rw [← T8]
      funext k
      exact E _ _ (by omega) (by omega) (by omega) (by omega) (by omega) (by omega)
    · rw [← T9]
      funext k
      exact E _ _ (by omega) (by omega) (by omega) (by omega) (by omega) (by omega)
    · by_cases q : w' = w
      · subst q
        exact E63
      · rw [bo w' hw' q, E _ _ (by omega) (by omega) (by omega) (by omega) (by omega) (by omega)]
        exact T11 w' hw'
  · have T' := T
    obtain ⟨T1, T2, T3, T4, T5, T6, T7, T8⟩ := T
    have nfa : ∀ l, lx F (nI w) nf = some l → l < nf := fun l e => (lx_some nf l e).1
    have mp : ∀ z : Option Nat, (∀ y, z = some y → y < nf) → z.map (fun f => if f = nf then n0' else fa f) = z.map fa := fun z hz => by
      cases z with
      | none => rfl
      | some y =>
        have := hz y rfl
        show some (if y = nf then n0' else fa y) = some (fa y)
        rw [if_neg (by omega)]
    have mn : (some nf).map (fun f => if f = nf then n0' else fa f) = some n0' := by
      show some (if nf = nf then n0' else fa nf) = _
      rw [if_pos rfl]
    refine ⟨by rw [E _ _ (by omega) (by omega) (by omega) (by omega) (by omega) (by omega)]; exact T1, E8, by rw [E _ _ (by omega) (by omega) (by omega) (by omega) (by omega) (by omega)]; exact T3, fun w' hw' => ?_, fun f hf => ?_, fun f hf => ?_, fun s hs => ?_, T8⟩
    · obtain ⟨w1, w2, w3, w4, w5, w6, w7⟩ := T4 w' hw'
      have g1 := T'.ge hw'
      have g2 := aw w' hw'
      have nl : ∀ k, ∀ l, lx F (nI w) nf = some l → ¬ (wa w' = fa l ∧ k = 8) := fun k l e z => by
        have := fw l w' (nfa l e) hw'
        omega
      have sp : w' ≠ w → wa w' ≠ wa w := fun ne => by
        have := T'.sep hw' hw ne
        omega
      refine ⟨by rw [Q _ _ (by omega) (by omega) (by omega) (fun l e z => by have := (T5 l (nfa l e)).1; omega)]; exact w1, ?_, by rw [E _ _ (by omega) (by omega) (by omega) (by omega) (by omega) (by omega)]; exact w3, by rw [E _ _ (by omega) (by omega) (by omega) (by omega) (by omega) (by omega)]; exact w4, ?_, ?_, ?_⟩
      · unfold WX at w2 ⊢
        obtain ⟨y0, y1, y2, y3, y4, y5, y6⟩ := w2
        rw [Q _ _ (by omega) (by omega) (by omega) (nl _), Q _ _ (by omega) (by omega) (by omega) (nl _), Q _ _ (by omega) (by omega) (by omega) (nl _), Q _ _ (by omega) (by omega) (by omega) (nl _)]
        exact ⟨y0, kd _ _ y1, kd _ _ y2, kd _ _ y3, kd _ _ y4, kd _ _ y5, y6⟩
      · by_cases q : w' = w
        · subst q
          exact Ew4
        · have := sp q
          rw [bo w' hw' q, E _ _ (by omega) (by omega) (by omega) (by omega) (by omega) (by omega)]
          exact w5
      · rw [nx_more (F := F) a1 nf 0 (by omega) (Nat.zero_le _)]
        by_cases q : w' = w
        · subst q
          cases hl : lx F (nI w') nf with
          | none =>
            have e0 : nx F (nI w') nf 0 = none := (nx_none nf 0 (by omega)).mpr (fun f _ hf => lx_none nf hl f hf)
            rw [e0]
            show _ = Option.map _ (if F' 1 nf = nI w' then some nf else none)
            rw [if_pos (by rw [hh 1 (by decide), x1]), mn]
            exact Qw2 hl
          | some l =>
            obtain ⟨l1, l2, l3⟩ := lx_some nf l hl
            cases e0 : nx F (nI w') nf 0 with
            | none => exact absurd l2 ((nx_none nf 0 (by omega)).mp e0 l (Nat.zero_le _) l1)
            | some y =>
              have y1 := nx_lt nf 0 (by omega) y e0
              show _ = Option.map _ (some y)
              rw [mp (some y) (fun z e => by cases e; exact y1.2), Qw2' (by rw [hl]; exact fun z => by cases z), w6, e0]
        · have := sp q
          rw [Q _ _ (by omega) (by omega) (by omega) (nl _), w6]
          cases e0 : nx F (nI w') nf 0 with
          | none =>
            show none = Option.map _ (if F' 1 nf = nI w' then some nf else none)
            rw [if_neg]
            · rfl
            · rw [hh 1 (by decide), x1, nI_eq (by omega) (by omega)]
              omega
          | some y =>
            have y1 := nx_lt nf 0 (by omega) y e0
            show _ = Option.map _ (some y)
            rw [mp (some y) (fun z e => by cases e; exact y1.2)]
      · show _ = Option.map _ (if F' 1 nf = nI w' then some nf else lx F' (nI w') nf)
        by_cases q : w' = w
        · subst q
          rw [if_pos (by rw [hh 1 (by decide), x1]), mn]
          exact Qw3
        · have := sp q
          rw [if_neg, lx_same a1 nf (Nat.le_refl _), mp _ (fun y e => (lx_some nf y e).1), Q _ _ (by omega) (by omega) (by omega) (nl _)]
          · exact w7
          · rw [hh 1 (by decide), x1, nI_eq (by omega) (by omega)]
            omega
    · by_cases q : f = nf
      · subst q
        obtain ⟨n0, n1, n2, n3, n4, n5, n6, n7⟩ := En
        simp only [if_pos]
        rw [hh 0 (by decide), hh 1 (by decide), hh 2 (by decide), hh 3 (by decide), hh 4 (by decide), hh 5 (by decide), hh 6 (by decide), nx_end (Nat.le_refl _)]
        exact ⟨n88, kn, n0, n1, n2, n3, n4, n5, n6, n7, Qn⟩
      · have hf' : f < nf := by omega
        obtain ⟨c0, c1, c2, c3, c4, c5, c6, c7, c8, c9, c10⟩ := T5 f hf'
        have g1 := fw f w hf' hw
        have g2 := af f hf'
        simp only [if_neg q]
        rw [o f hf' 0, o f hf' 1, o f hf' 2, o f hf' 3, o f hf' 4, o f hf' 5, o f hf' 6]
        have EE : ∀ k, hi g (fa f) k = hi h (fa f) k := fun k => E _ _ (by omega) (by omega) (by omega) (by omega) (by omega) (by omega)
        rw [EE, EE, EE, EE, EE, EE, EE, EE]
        refine ⟨c0, kd _ _ c1, c2, c3, c4, c5, c6, c7, c8, c9, ?_⟩
        rw [nx_more (F := F) a1 (nf - (f + 1)) (f + 1) rfl (by omega)]
        by_cases e1 : F 1 f = nI w
        · cases hl : lx F (nI w) nf with
          | none => exact absurd e1 (lx_none nf hl f hf')
          | some l =>
            obtain ⟨l1, l2, l3⟩ := lx_some nf l hl
            by_cases fl : f = l
            · subst fl
              have e0 : nx F (F 1 f) nf (f + 1) = none := (nx_none _ (f + 1) rfl).mpr (fun f' h1 h2 => by rw [e1]; exact l3 f' (by omega) h2)
              rw [e0]
              show _ = Option.map _ (if F' 1 nf = F 1 f then some nf else none)
              rw [if_pos (by rw [hh 1 (by decide), x1, e1]), mn]
              exact Ql f hl
            · have fne : fa f ≠ fa l := fun z => fl (fa_inj T' (by omega) l1 hf' z)
              have hlt : f < l := by
                rcases Nat.lt_or_ge f l with q1 | q1
                · exact q1
                · exact absurd e1 (l3 f (by omega) hf')
              rw [Q _ _ (by omega) (by omega) (by omega) (fun l' e z => by rw [hl] at e; cases e; exact fne z.1), c10]
              cases e0 : nx F (F 1 f) nf (f + 1) with
              | none => exact absurd (l2.trans e1.symm) ((nx_none _ (f + 1) rfl).mp e0 l (by omega) l1)
              | some y =>
                have y1 := nx_lt _ (f + 1) rfl y e0
                show _ = Option.map _ (some y)
                rw [mp (some y) (fun z e => by cases e; exact y1.2)]
        · rw [Q _ _ (by omega) (by omega) (by omega) (fun l' e z => by
            have l2 := (lx_some nf l' e)
            have := fa_inj T' (by omega) l2.1 hf' z.1
            rw [this] at e1
            exact e1 l2.2.1), c10]
          cases e0 : nx F (F 1 f) nf (f + 1) with
          | none =>
            show none = Option.map _ (if F' 1 nf = F 1 f then some nf else none)
            rw [if_neg]
            · rfl
            · rw [hh 1 (by decide), x1]
              exact fun z => e1 z.symm
          | some y =>
            have y1 := nx_lt _ (f + 1) rfl y e0
            show _ = Option.map _ (some y)
            rw [mp (some y) (fun z e => by cases e; exact y1.2)]
    · by_cases q : f = nf
      · subst q
        simp only [if_pos]
        exact Q16
      · simp only [if_neg q]
        rw [Q _ _ (by omega) (by omega) (by omega) (fun l e z => by have := (T5 l (nfa l e)).1; omega)]
        exact T6 f (by omega)
    · obtain ⟨b, b1', b2'⟩ := T7 s hs
      refine ⟨b, by rw [Q _ _ (by omega) (by omega) (by omega) (fun l e z => by have := (T5 l (nfa l e)).1; omega)]; exact b1', b2'.kp2 kd (fun a y _ hx => hx) (fun a y hy hx hk1 => ?_)⟩
      have o' := hx.1
      unfold OKA at o'
      have := lt a y hy
      have p := hx.2 w hw
      refine ⟨fun k => E _ _ (by omega) (by omega) (by omega) (by omega) (by omega) (by omega), fun k => Q _ _ (by omega) (by omega) (by omega) (fun l e z => ?_)⟩
      rw [z.1, (T5 l (nfa l e)).2.1] at hy
      exact hk1 (Option.some.inj hy).symm
  · intro w' hw'
    have g1 := T.ge hw'
    have g2 := aw w' hw'
    by_cases q : w' = w
    · subst q
      exact Or.inl Ew5
    · have sp := T.sep hw hw' (fun z => q z.symm)
      rw [E _ _ (by omega) (by omega) (by omega) (by omega) (by omega) (by omega), E _ _ (by omega) (by omega) (by omega) (by omega) (by omega) (by omega)]
      rcases c w' hw' with z | z
      · exact Or.inl z
      · refine Or.inr ⟨z.1, CW_more (F := F) (fun f' hf' => ⟨a1 f' hf', fun _ j => o f' hf' j⟩) ?_ (z.2.same (fun b j hb => E _ _ (by omega) (by omega) (by omega) (by omega) (by omega) (by omega)))⟩
        rw [hh 1 (by decide), x1]
        intro z2
        rw [nI_eq (by omega) (by omega)] at z2
        omega
  · refine ⟨fun w' hw' q => ?_, tp.2.same (fun a k ha => E _ _ (by omega) (by omega) (by omega) (by omega) (by omega) (by omega))⟩
    rw [E _ _ (by omega) (by omega) (by omega) (by omega) (by omega) (by omega)] at q
    have q2 := q
    rw [M.1, nI_leI (by omega) (by omega)] at q2
    rw [E _ _ (by omega) (by omega) (by omega) (by omega) (by omega) (by omega)]
    exact tp.1 w' hw' q
end To
