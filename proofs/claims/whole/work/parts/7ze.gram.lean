/-! What a text says: the grammar over tokens. -/
/-- where the reading is, the units so far, the steps so far -/
abbrev PS : Type := Nat × Nat × List Nat
/-- a fault (the token's place in the row, its sort), or the state behind -/
abbrev GR : Type := (Nat × Nat) ⊕ PS
def lvO (t : Nat) : Nat := if t = 10 then 0 else if t = 11 then 1 else if t = 60 ∨ t = 61 ∨ t = 62 then 2 else if t = 43 ∨ t = 45 then 3 else if t = 42 ∨ t = 47 then 4 else 9
theorem lvO_lt {t : Nat} (h : lvO t < 5) : (lvO t = 0 ∧ t = 10) ∨ (lvO t = 1 ∧ t = 11) ∨ (lvO t = 2 ∧ (t = 60 ∨ t = 61 ∨ t = 62)) ∨ (lvO t = 3 ∧ (t = 43 ∨ t = 45)) ∨ (lvO t = 4 ∧ (t = 42 ∨ t = 47)) := by
  unfold lvO at h ⊢
  by_cases c1 : t = 10
  · rw [if_pos c1]; exact Or.inl ⟨rfl, c1⟩
  · rw [if_neg c1] at h ⊢
    by_cases c2 : t = 11
    · rw [if_pos c2]; exact Or.inr (Or.inl ⟨rfl, c2⟩)
    · rw [if_neg c2] at h ⊢
      by_cases c3 : t = 60 ∨ t = 61 ∨ t = 62
      · rw [if_pos c3]; exact Or.inr (Or.inr (Or.inl ⟨rfl, c3⟩))
      · rw [if_neg c3] at h ⊢
        by_cases c4 : t = 43 ∨ t = 45
        · rw [if_pos c4]; exact Or.inr (Or.inr (Or.inr (Or.inl ⟨rfl, c4⟩)))
        · rw [if_neg c4] at h ⊢
          by_cases c5 : t = 42 ∨ t = 47
          · rw [if_pos c5]; exact Or.inr (Or.inr (Or.inr (Or.inr ⟨rfl, c5⟩)))
          · rw [if_neg c5] at h; omega
theorem lvO_jtok {t : Nat} (h : lvO t < 5) : jtok t ∧ t ≠ 25 ∧ t ≠ 26 ∧ t < 100 := by
  have := lvO_lt h
  unfold jtok
  omega
def gLeaf (T : Nat → Nat) (b m : Nat) (s : PS) : GR := if 13 ≤ T s.1 ∧ T s.1 ≤ m then .inr (s.1 + 1, s.2.1, s.2.2 ++ [b + T s.1 - 13]) else .inl (s.1, 2)
def gL (T : Nat → Nat) (g : PS → GR) (L : Nat) : Nat → PS → GR
  | 0, s => .inr s
  | m + 1, s => if lvO (T s.1) = L then Sum.elim .inl (fun s' => gL T g L m (s'.1, s'.2.1, s'.2.2 ++ [20000 + T s.1])) (g (s.1 + 1, s.2.1, s.2.2)) else .inr s
def G (T : Nat → Nat) : Nat → Nat → Nat → Nat → PS → GR
  | 0, _, _, _, s => .inl (s.1, 2)
  | f + 1, k, a, b, s =>
    if k = 0 then
      if a < 5 then
        if a = 2 ∧ T s.1 = 12 then G T f 1 b 0 s
        else Sum.elim .inl (gL T (G T f 0 (a + 1) b) a (if a = 2 then 1 else 900)) (G T f 0 (a + 1) b s)
      else G T f 2 b 0 s
    else if k = 1 then
      if a < 7 then Sum.elim .inl (fun s' => .inr (s'.1, s'.2.1, s'.2.2 ++ [20012])) (G T f 0 2 (a + 1) (s.1 + 1, s.2.1, s.2.2)) else .inl (s.1, 2)
    else
      if s.2.1 < 80 then
        if 1000 ≤ T s.1 then .inr (s.1 + 1, s.2.1 + 1, s.2.2 ++ [T s.1 - 1000])
        else if T s.1 = 23 then gLeaf T 10010 17 (s.1 + 1, s.2.1 + 1, s.2.2)
        else if T s.1 = 40 ∧ a < 7 then Sum.elim .inl (fun s' => if T s'.1 = 41 then .inr (s'.1 + 1, s'.2.1, s'.2.2) else .inl (s'.1, 2)) (G T f 0 0 (a + 1) (s.1 + 1, s.2.1 + 1, s.2.2))
        else gLeaf T 10000 22 (s.1, s.2.1 + 1, s.2.2)
      else .inl (s.1, 2)
/-- steps that put one number more on the stack -/
def one (u : Nat) (d : List Nat) : Prop := (∀ x ∈ d, okS x) ∧ ∀ k rest, k + u ≤ 80 → okc rest (k + 1) → okc (d ++ rest) k
/-- what may follow a part of level a -/
def lvQ (a t : Nat) : Prop := ∀ L, a ≤ L → L < 5 → lvO t = L → L = 2
def GP (T : Nat → Nat) (N q : Nat) (s : PS) : GR → Prop
  | .inl e => s.1 ≤ e.1 ∧ e.1 ≤ N ∧ e.2 = 2
  | .inr s' => s.1 < s'.1 ∧ s'.1 ≤ N ∧ s.2.1 < s'.2.1 ∧ s'.2.1 ≤ 80 ∧ lvQ q (T s'.1) ∧ ∃ d, s'.2.2 = s.2.2 ++ d ∧ d.length + s.1 ≤ s'.1 ∧ one (s'.2.1 - s.2.1) d
section Gr
variable {T : Nat → Nat} {N : Nat}
theorem one_leaf {x u : Nat} (hx : x < 10015) (hu : 1 ≤ u) : one u [x] := by
  refine ⟨fun y hy => ?_, fun k rest h1 h2 => ?_⟩
  · rw [List.mem_singleton.mp hy]; exact Or.inl hx
  · show okc (x :: rest) k
    unfold okc
    rw [if_pos (by omega)]
    exact ⟨by omega, h2⟩
theorem gp_leaf (hN : N ≤ 900) (tN : T N = 25 ∨ T N = 26) (oT : ∀ i, okT (T i)) {b m : Nat} (hb : b = 10010 ∧ m = 17 ∨ b = 10000 ∧ m = 22) {s : PS} {s0 u : Nat} {q : Nat} (hq : 5 ≤ q) (h0 : s0 ≤ s.1) (h1 : s.1 ≤ N) (hu : u + 1 = s.2.1) (h80 : s.2.1 ≤ 80) : GP T N q (s0, u, s.2.2) (gLeaf T b m s) := by
  unfold gLeaf
  by_cases c : 13 ≤ T s.1 ∧ T s.1 ≤ m
  · rw [if_pos c]
    have ne : s.1 ≠ N := fun e => by rw [e] at c; omega
    refine ⟨by show s0 < s.1 + 1; omega, by show s.1 + 1 ≤ N; omega, by show u < s.2.1; omega, h80, fun L z1 z2 => by omega, _, rfl, by show 1 + s0 ≤ s.1 + 1; omega, ?_⟩
    exact one_leaf (by omega) (by show 1 ≤ s.2.1 - u; omega)
  · rw [if_neg c]
    exact ⟨h0, h1, rfl⟩
theorem gp_L (hN : N ≤ 900) (tN : T N = 25 ∨ T N = 26) {g : PS → GR} {a : Nat} (ha : a < 5) (hg : ∀ s : PS, s.1 ≤ N → s.2.1 ≤ 80 → GP T N (a + 1) s (g s)) : ∀ m (s0 s : PS), (a = 2 ∧ m ≤ 1 ∨ N < s.1 + m) → s0.1 < s.1 → s.1 ≤ N → s0.2.1 < s.2.1 → s.2.1 ≤ 80 → lvQ (a + 1) (T s.1) → (∃ d, s.2.2 = s0.2.2 ++ d ∧ d.length + s0.1 ≤ s.1 ∧ one (s.2.1 - s0.2.1) d) → GP T N a s0 (gL T g a m s) := by
  intro m
  induction m with
  | zero =>
    intro s0 s hm h1 h2 h3 h4 h5 h6
    unfold gL
    refine ⟨h1, h2, h3, h4, fun L z1 z2 z3 => ?_, h6⟩
    by_cases e : a = L
    · omega
    · exact h5 L (by omega) z2 z3
  | succ m ih =>
    intro s0 s hm h1 h2 h3 h4 h5 h6
    unfold gL
    by_cases c : lvO (T s.1) = a
    · rw [if_pos c]
      have jt := lvO_jtok (t := T s.1) (by omega)
      have ne : s.1 ≠ N := fun e => by rw [e] at jt; omega
      have hs := hg (s.1 + 1, s.2.1, s.2.2) (by show s.1 + 1 ≤ N; omega) h4
      cases hr : g (s.1 + 1, s.2.1, s.2.2) with
      | inl e =>
        rw [hr] at hs
        obtain ⟨p1, p2, p3⟩ := hs
        simp only at p1
        exact ⟨by omega, p2, p3⟩
      | inr s' =>
        rw [hr] at hs
        obtain ⟨p1, p2, p3, p4, p5, d1, p6, p7, p8⟩ := hs
        simp only at p1 p3 p6 p7 p8
        rw [elim_inr]
        obtain ⟨d, q1, q2, q3⟩ := h6
        refine ih s0 (s'.1, s'.2.1, s'.2.2 ++ [20000 + T s.1]) (by show a = 2 ∧ m ≤ 1 ∨ N < s'.1 + m; omega) (by show s0.1 < s'.1; omega) p2 (by show s0.2.1 < s'.2.1; omega) p4 p5 ⟨d ++ (d1 ++ [20000 + T s.1]), ?_, ?_, ?_, ?_⟩
        · show s'.2.2 ++ [20000 + T s.1] = _
          rw [p6, q1, List.append_assoc, List.append_assoc]
        · show (d ++ (d1 ++ [20000 + T s.1])).length + s0.1 ≤ s'.1
          rw [List.length_append, List.length_append, List.length_singleton]
          omega
        · intro x hx
          rcases List.mem_append.mp hx with hx | hx
          · exact q3.1 x hx
          · rcases List.mem_append.mp hx with hx | hx
            · exact p8.1 x hx
            · rw [List.mem_singleton.mp hx]
              exact Or.inr (Or.inr ⟨by omega, by rw [Nat.add_sub_cancel_left]; exact jt.1⟩)
        · intro k rest z1 z2
          simp only at z1
          rw [List.append_assoc, List.append_assoc]
          refine q3.2 k _ (by omega) (p8.2 (k + 1) _ (by omega) ?_)
          show okc ((20000 + T s.1) :: rest) (k + 1 + 1)
          have j12 : 20000 + T s.1 ≠ 20012 := by have := jt.1; unfold jtok at this; omega
          unfold okc
          rw [if_neg (by omega), if_neg j12]
          exact ⟨by omega, z2⟩
    · rw [if_neg c]
      refine ⟨h1, h2, h3, h4, fun L z1 z2 z3 => ?_, h6⟩
      by_cases e : a = L
      · omega
      · exact h5 L (by omega) z2 z3
theorem gp_all (hN : N ≤ 900) (tN : T N = 25 ∨ T N = 26) (oT : ∀ i, okT (T i)) : ∀ f k a b (s : PS), (k = 0 → a ≤ 5) → (k = 1 → T s.1 = 12) → s.1 ≤ N → s.2.1 ≤ 80 → GP T N (if k = 0 then a else if k = 1 then 2 else 5) s (G T f k a b s) := by
  intro f
  induction f with
  | zero =>
    intro k a b s _ _ h1 h2
    unfold G
    exact ⟨Nat.le_refl _, h1, rfl⟩
  | succ f ih =>
    intro k a b s ha h12 h1 h2
    unfold G
    by_cases k0 : k = 0
    · rw [if_pos k0, if_pos k0]
      have ha' := ha k0
      by_cases c1 : a < 5
      · rw [if_pos c1]
        by_cases c2 : a = 2 ∧ T s.1 = 12
        · rw [if_pos c2]
          have := ih 1 b 0 s (fun z => by omega) (fun _ => c2.2) h1 h2
          rw [if_neg (by decide), if_pos rfl] at this
          rw [c2.1]
          exact this
        · rw [if_neg c2]
          have hs := ih 0 (a + 1) b s (fun _ => by omega) (fun z => by omega) h1 h2
          rw [if_pos rfl] at hs
          have hg : ∀ s : PS, s.1 ≤ N → s.2.1 ≤ 80 → GP T N (a + 1) s (G T f 0 (a + 1) b s) := fun s h1 h2 => by
            have := ih 0 (a + 1) b s (fun _ => by omega) (fun z => by omega) h1 h2
            rw [if_pos rfl] at this
            exact this
          cases hr : G T f 0 (a + 1) b s with
          | inl e =>
            rw [hr] at hs
            exact hs
          | inr s' =>
            rw [hr] at hs
            obtain ⟨p1, p2, p3, p4, p5, p6⟩ := hs
            rw [elim_inr]
            refine gp_L hN tN c1 hg _ s s' ?_ p1 p2 p3 p4 p5 p6
            by_cases e : a = 2
            · rw [if_pos e]; exact Or.inl ⟨e, Nat.le_refl _⟩
            · rw [if_neg e]; exact Or.inr (by omega)
      · rw [if_neg c1]
        have := ih 2 b 0 s (fun z => by omega) (fun z => by omega) h1 h2
        rw [if_neg (by decide), if_neg (by decide)] at this
        rw [show a = 5 by omega]
        exact this
    · rw [if_neg k0, if_neg k0]
      by_cases k1 : k = 1
      · rw [if_pos k1, if_pos k1]
        have t12 := h12 k1
        have ne : s.1 ≠ N := fun e => by rw [e] at t12; omega
        by_cases c : a < 7
        · rw [if_pos c]
          have hs := ih 0 2 (a + 1) (s.1 + 1, s.2.1, s.2.2) (fun _ => by omega) (fun z => by omega) (by show s.1 + 1 ≤ N; omega) h2
          rw [if_pos rfl] at hs
          cases hr : G T f 0 2 (a + 1) (s.1 + 1, s.2.1, s.2.2) with
          | inl e =>
            rw [hr] at hs
            obtain ⟨p1, p2, p3⟩ := hs
            simp only at p1
            exact ⟨by omega, p2, p3⟩
          | inr s' =>
            rw [hr] at hs
            obtain ⟨p1, p2, p3, p4, p5, d, p6, p7, p8⟩ := hs
            simp only at p1 p3 p6 p7 p8
            rw [elim_inr]
            refine ⟨by show s.1 < s'.1; omega, p2, p3, p4, p5, d ++ [20012], ?_, ?_, ?_, ?_⟩
            · show s'.2.2 ++ [20012] = _
              rw [p6, List.append_assoc]
            · show (d ++ [20012]).length + s.1 ≤ s'.1
              rw [List.length_append, List.length_singleton]
              omega
            · intro x hx
              rcases List.mem_append.mp hx with hx | hx
              · exact p8.1 x hx
              · rw [List.mem_singleton.mp hx]
                exact Or.inr (Or.inl rfl)
            · intro k rest z1 z2
              rw [List.append_assoc]
              refine p8.2 k _ z1 ?_
              show okc (20012 :: rest) (k + 1)
              unfold okc
              rw [if_neg (by decide), if_pos rfl]
              exact ⟨by omega, z2⟩
        · rw [if_neg c]
          exact ⟨Nat.le_refl _, h1, rfl⟩
      · rw [if_neg k1, if_neg k1]
        by_cases c1 : s.2.1 < 80
        · rw [if_pos c1]
          by_cases c2 : 1000 ≤ T s.1
          · rw [if_pos c2]
            have ne : s.1 ≠ N := fun e => by rw [e] at c2; omega
            have oo : T s.1 < 11000 := by
              rcases oT s.1 with o | o | o
              · omega
              · have := isS_iff.mp o; omega
              · exact o.2
            exact ⟨by show s.1 < s.1 + 1; omega, by show s.1 + 1 ≤ N; omega, by show s.2.1 < s.2.1 + 1; omega, by show s.2.1 + 1 ≤ 80; omega, fun L z1 z2 => by omega, _, rfl, by show 1 + s.1 ≤ s.1 + 1; omega, one_leaf (by omega) (by show 1 ≤ s.2.1 + 1 - s.2.1; omega)⟩
          · rw [if_neg c2]
            by_cases c3 : T s.1 = 23
            · rw [if_pos c3]
              have ne : s.1 ≠ N := fun e => by rw [e] at c3; omega
              exact gp_leaf hN tN oT (s := (s.1 + 1, s.2.1 + 1, s.2.2)) (Or.inl ⟨rfl, rfl⟩) (Nat.le_refl _) (by show s.1 ≤ s.1 + 1; omega) (by show s.1 + 1 ≤ N; omega) rfl (by show s.2.1 + 1 ≤ 80; omega)
            · rw [if_neg c3]
              by_cases c4 : T s.1 = 40 ∧ a < 7
              · rw [if_pos c4]
                have ne : s.1 ≠ N := fun e => by rw [e] at c4; omega
                have hs := ih 0 0 (a + 1) (s.1 + 1, s.2.1 + 1, s.2.2) (fun _ => by omega) (fun z => by omega) (by show s.1 + 1 ≤ N; omega) (by show s.2.1 + 1 ≤ 80; omega)
                rw [if_pos rfl] at hs
                cases hr : G T f 0 0 (a + 1) (s.1 + 1, s.2.1 + 1, s.2.2) with
                | inl e =>
                  rw [hr] at hs
                  obtain ⟨p1, p2, p3⟩ := hs
                  simp only at p1
                  exact ⟨by omega, p2, p3⟩
                | inr s' =>
                  rw [hr] at hs
                  obtain ⟨p1, p2, p3, p4, p5, d, p6, p7, p8⟩ := hs
                  simp only at p1 p3 p6 p7 p8
                  rw [elim_inr]
                  by_cases c5 : T s'.1 = 41
                  · rw [if_pos c5]
                    have ne' : s'.1 ≠ N := fun e => by rw [e] at c5; omega
                    exact ⟨by show s.1 < s'.1 + 1; omega, by show s'.1 + 1 ≤ N; omega, by show s.2.1 < s'.2.1; omega, p4, fun L z1 z2 => by omega, d, p6, by show d.length + s.1 ≤ s'.1 + 1; omega, p8.1, fun k rest z1 z2 => p8.2 k rest (by simp only at z1; omega) z2⟩
                  · rw [if_neg c5]
                    exact ⟨by show s.1 ≤ s'.1; omega, p2, rfl⟩
              · rw [if_neg c4]
                exact gp_leaf hN tN oT (s := (s.1, s.2.1 + 1, s.2.2)) (Or.inr ⟨rfl, rfl⟩) (Nat.le_refl _) (Nat.le_refl _) h1 rfl (by show s.2.1 + 1 ≤ 80; omega)
        · rw [if_neg c1]
          exact ⟨Nat.le_refl _, h1, rfl⟩
end Gr
