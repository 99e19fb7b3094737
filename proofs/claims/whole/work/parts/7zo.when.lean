/-! The class takes a when. -/
def CFm (h g : Hp) : Prop := (∃ t, g.1 = h.1 ++ t) ∧ (∀ a k, a < h.1.length → a ≠ 13 → (a, k) ∉ BR → hi g a k = hi h a k) ∧ ∀ a k, a < h.1.length → hq g a k = hq h a k
theorem CFm.refl {h : Hp} : CFm h h := ⟨⟨[], (List.append_nil _).symm⟩, fun _ _ _ _ _ => rfl, fun _ _ _ => rfl⟩
theorem CFm.len {h g : Hp} (a : CFm h g) : h.1.length ≤ g.1.length := by
  obtain ⟨t, e⟩ := a.1
  rw [e, List.length_append]
  omega
theorem CFm.trans {h g k : Hp} (a : CFm h g) (b : CFm g k) : CFm h k := by
  have l := a.len
  refine ⟨?_, fun x j hx h13 hb => (b.2.1 x j (by omega) h13 hb).trans (a.2.1 x j hx h13 hb), fun x j hx => (b.2.2 x j (by omega)).trans (a.2.2 x j hx)⟩
  obtain ⟨t, e⟩ := a.1
  obtain ⟨t', e'⟩ := b.1
  exact ⟨t ++ t', by rw [e', e, List.append_assoc]⟩
theorem CFm.of {h g : Hp} {A : List Nat} {C : List (Nat × Nat)} (fr : Fr A C h g) (hA : A.all (fun x => [13].contains x) = true) (hC : C.all (fun x => BR.contains x) = true) : CFm h g :=
  have f := fr.wk hA hC
  ⟨⟨[], by rw [f.1, List.append_nil]⟩, fun a k _ h13 hb => f.2.2.1 a k (fun z => h13 (List.mem_singleton.mp z)) hb, fun a k _ => f.2.1 a k⟩
theorem CFm.hk {h g : Hp} (a : CFm h g) {x : Nat} {y : Nat × Nat} (e : hk h x = some y) : hk g x = some y := by
  obtain ⟨t, et⟩ := a.1
  exact hk_grow et e
theorem FX.len' {h : Hp} (X : FX h) : 88 ≤ h.1.length := X.len
theorem CFm.fx {h g : Hp} (a : CFm h g) (X : FX h) : FX g := by
  have l := X.len
  obtain ⟨t, et⟩ := a.1
  refine ⟨?_, fun p hp => ?_⟩
  · obtain ⟨L, hL, t0, e0⟩ := X.1
    exact ⟨L, hL, t0 ++ t, by rw [et, e0, List.append_assoc]⟩
  · have lt : p.1 < 88 := by
      have : ∀ p ∈ rfT, p.1 < 88 := by decide
      exact this p hp
    rw [a.2.2 _ _ (by omega)]
    exact X.2 p hp
theorem lt_of_hk {h : Hp} {x : Nat} {y : Nat × Nat} (e : hk h x = some y) : x < h.1.length := (List.getElem?_eq_some_iff.mp e).1
section Cw
variable {T Pl : Nat → Nat} {N : Nat}
theorem CT.same {h g : Hp} {i u : Nat} (c : CT h T Pl N i u) (X : FX g) (e9 : ∀ k, hi g 9 k = hi h 9 k) (e11 : ∀ k, hi g 11 k = hi h 11 k) (e12 : ∀ k, hi g 12 k = hi h 12 k) : CT g T Pl N i u := by
  obtain ⟨-, tb, c12, c6, c7, c10, ci⟩ := c
  exact ⟨X, ⟨(e9 _).trans tb.1, fun j hj => ⟨(e11 _).trans (tb.2 j hj).1, (e12 _).trans (tb.2 j hj).2⟩⟩, (e9 _).trans c12, (e9 _).trans c6, (e9 _).trans c7, ⟨(e9 _).trans c10.1, (e9 _).trans c10.2⟩, ci⟩
theorem DD.same {h g : Hp} {e : Nat × Nat} (d : DD h T Pl e) (X : FX g) (e9 : ∀ k, hi g 9 k = hi h 9 k) : DD g T Pl e := by
  obtain ⟨-, d12, d13, d7, d2⟩ := d
  exact ⟨X, (e9 _).trans d12, (e9 _).trans d13, (e9 _).trans d7, d2⟩
/-- the steps copied -/
theorem c_copy {h : Hp} (X : FX h) {m : Nat} (hm : m < 900) : ∃ g, f_J7_copyOf_59c91 (some 13) (mxI (0 : Int32) (mnI (nI m) (nI 900))) h = some (some h.1.length, g) ∧ g.1 = h.1 ++ [(10, m)] ∧ (∀ a k, a < h.1.length → hi g a k = hi h a k) ∧ (∀ a k, a < h.1.length → hq g a k = hq h a k) ∧ ∀ j, j < m → hi g h.1.length j = hi h 13 j := by
  have l := X.len
  have e1 : mxI (0 : Int32) (mnI (nI m) (nI 900)) = nI m := by
    have e0 : mnI (nI m) (nI 900) = nI m := by
      unfold mnI
      rw [if_neg (by rw [nI_ltI (by omega) (by omega)]; omega)]
    rw [e0]
    unfold mxI
    by_cases c : (0 : Int32) < nI m
    · rw [if_pos c]
    · rw [if_neg c]
      have : ¬ 0 < m := fun z => c ((nI_ltI (a := 0) (by decide) (by omega)).mpr z)
      rw [show m = 0 by omega]
      rfl
  have e2 : ¬ nI m = nI 900 := fun z => by have := (nI_eq (by omega) (by omega)).mp z; omega
  have e3 : nln (nI m) 900 = some m := by
    unfold nln
    rw [if_pos ⟨nI_pos' (by omega), by rw [nI_clamp (by omega)]; omega⟩, nI_clamp (by omega)]
  have X1 : hk (nw h 10 m) 13 = some (10, 900) := hk_old (X.kd (a := 13) (by decide) (by decide) rfl)
  have e4 : mnI (nI 900) (nI m) = nI m := by
    unfold mnI
    rw [if_pos (by rw [nI_ltI (by omega) (by omega)]; omega)]
  have kn : hk (nw h 10 m) h.1.length = some (10, m) := hk_new rfl
  refine ⟨sr (nw h 10 m) h.1.length (va_cpy (hi (nw h 10 m) 13) (hi (nw h 10 m) h.1.length) 0 0 m), ?_, rfl, fun a k ha => ?_, fun a k ha => ?_, fun j hj => ?_⟩
  · unfold f_J7_copyOf_59c91
    rw [n13 X, bd_some, e1, if_neg e2, e3, bd_some, aln_eq X1, bd_some, e4]
    unfold cpI
    rw [arn_eq X1, bd_some, arn_eq kn, bd_some, if_pos ⟨by show 8 ≤ h.1.length; omega, by show 8 ≤ 13; omega, by show 900 ≤ 65536; omega, by show m ≤ 65536; omega, Int32.le_refl _, Int32.le_refl _, nI_pos' (by omega), by rw [nI_clamp (by omega)]; show 0 + m ≤ 900; omega, by rw [nI_clamp (by omega)]; show 0 + m ≤ m; omega⟩, nI_clamp (by omega), bd_some]
    rfl
  · rw [hi_srm _ _ (by omega), hi_nw, if_neg (by omega)]
  · show hq (nw h 10 m) a k = _
    rw [hq_nw, if_neg (by omega)]
  · rw [hi_srh, pk_cpy_in (by omega) (by omega), hi_nw, if_neg (by omega)]
    congr 1
    omega
/-- when e ; -/
def gW (T : Nat → Nat) (i u : Nat) : GR := if T i = 9 then Sum.elim .inl (fun s' => if T s'.1 = 59 then .inr (s'.1 + 1, s'.2.1, s'.2.2) else .inl (s'.1, 2)) (G T 200 0 0 0 (i + 1, u, [])) else .inl (i, 2)
def WRes (h g : Hp) (T Pl : Nat → Nat) (N : Nat) (m : Nat) : GR → Prop
  | .inl e => DD g T Pl e
  | .inr s' => CT g T Pl N s'.1 s'.2.1 ∧ m = s'.2.2.length ∧ CCx g h.1.length s'.2.2
theorem c_whenD {h : Hp} {e : Nat × Nat} (d : DD h T Pl e) : ∃ g m, f_X2_takeWhen 9 h = some (some h.1.length, g) ∧ g.1 = h.1 ++ [(10, m)] ∧ CFm h g ∧ DD g T Pl e := by
  obtain ⟨g1, a1, a2, a3⟩ := c_takeD d (w := 9) (by decide)
  have d2 : DD (si g1 9 9 0) T Pl e := a3.fr (A := []) (B := [(9, 9)]) (Fr.fld (by decide)) (by decide) (by decide)
  obtain ⟨g3, b1', b2', b3'⟩ := c_dead (T := T) (Pl := Pl) (e := e) 200 0 0 0 (Or.inl ⟨rfl, by decide, by decide⟩) (si g1 9 9 0) d2
  have b1'' : f_rg 200 0 9 0 0 (si g1 9 9 0) = some g3 := b1'
  obtain ⟨g4, d1', d2', d3'⟩ := c_takeD b3' (w := 59) (by decide)
  have e99 : hi g4 9 9 = nI 0 := (d2'.ef (by decide) (by decide)).trans ((b2'.ef (by decide) (by decide)).trans (hi_hit _ _ _))
  have k4 : g4.1 = h.1 := d2'.1.trans (b2'.1.trans a2.1)
  obtain ⟨g5, c1', c2', c3', c4', -⟩ := c_copy d3'.1 (m := 0) (by decide)
  have l5 := d3'.1.len
  have f4 : CFm h g4 := ((CFm.of (a2.wk (A' := [13]) (B' := BR) (by decide) (by decide)) (by decide) (by decide)).trans (CFm.of (A := []) (C := [(9, 9)]) (Fr.fld (by decide)) (by decide) (by decide))).trans ((CFm.of b2' (by decide) (by decide)).trans (CFm.of d2' (by decide) (by decide)))
  have f5 : CFm g4 g5 := ⟨⟨_, c2'⟩, fun a k ha _ _ => c3' a k ha, c4'⟩
  rw [k4] at c1' c2'
  refine ⟨g5, 0, ?_, c2', f4.trans f5, d3'.same (f5.fx d3'.1) (fun k => c3' _ _ (by omega))⟩
  unfold f_X2_takeWhen
  rw [rc9 d.1, bd_some, a1, bd_some, pi9 a3.1, bd_some, rc9 d2.1, bd_some, b1'', bd_some, rc9 b3'.1, bd_some, d1', bd_some, q9_8 d3'.1, bd_some, gi9 d3'.1, bd_some, e99, bd_some, n13 d3'.1, bd_some, c1', b1_some]
theorem c_when (gt : GT T N) {h : Hp} {i u : Nat} (c : CT h T Pl N i u) (hu : u ≤ 80) : ∃ g m, f_X2_takeWhen 9 h = some (some h.1.length, g) ∧ g.1 = h.1 ++ [(10, m)] ∧ CFm h g ∧ WRes h g T Pl N m (gW T i u) := by
  have hN := gt.1
  have ci := c.2.2.2.2.2.2
  have tk' := c_take gt c (w := 9) (by decide)
  -- what follows once the steps' reader has ended
  have fin : ∀ (g1 g3 g4 : Hp) (m : Nat), f_X2_take 9 9 h = some g1 → FX g1 → f_rg 200 0 9 0 0 (si g1 9 9 0) = some g3 → FX g3 → f_X2_take 9 59 g3 = some g4 → FX g4 → CFm h g4 → g4.1 = h.1 → hi g4 9 9 = nI m → m < 900 → ∃ g, f_X2_takeWhen 9 h = some (some h.1.length, g) ∧ g.1 = h.1 ++ [(10, m)] ∧ CFm h g ∧ FX g ∧ (∀ a k, a < h.1.length → hi g a k = hi g4 a k) ∧ ∀ j, j < m → hi g h.1.length j = hi g4 13 j := by
    intro g1 g3 g4 m a1 x1 b1' x3 d1' x4 f4 k4 e99 hm
    obtain ⟨g5, c1', c2', c3', c4', c5'⟩ := c_copy x4 hm
    have f5 : CFm g4 g5 := ⟨⟨_, c2'⟩, fun a k ha _ _ => c3' a k ha, c4'⟩
    have x2 : FX (si g1 9 9 0) := FX_of x1 rfl (fun _ _ => rfl)
    rw [k4] at c1' c2' c3' c5'
    refine ⟨g5, ?_, c2', f4.trans f5, f5.fx x4, c3', c5'⟩
    unfold f_X2_takeWhen
    rw [rc9 c.1, bd_some, a1, bd_some, pi9 x1, bd_some, rc9 x2, bd_some, b1', bd_some, rc9 x3, bd_some, d1', bd_some, q9_8 x4, bd_some, gi9 x4, bd_some, e99, bd_some, n13 x4, bd_some, c1', b1_some]
  unfold gW
  by_cases c9 : T i = 9
  · rw [if_pos c9]
    obtain ⟨g1, a1, a2, a3⟩ := tk'.1 c9
    have a1' : f_X2_take 9 (9 : Int32) h = some g1 := a1
    have ne : i ≠ N := fun e => by rw [e] at c9; have := gt.2.1; omega
    have fr2 : Fr [] [(9, 9)] g1 (si g1 9 9 0) := Fr.fld (by decide)
    have ct2 := a3.fr fr2 (by decide) (by decide)
    have sp2 : SP (si g1 9 9 0) [] := ⟨hi_hit _ _ _, fun j hj => absurd hj (Nat.not_lt_zero _)⟩
    obtain ⟨g3, b1', b2', b3'⟩ := c_rg gt 200 0 0 0 (Or.inl ⟨rfl, by decide, by decide, by decide⟩) (si g1 9 9 0) (i + 1, u, []) ct2 sp2 (by show 0 < i + 1; omega) hu (fun q => by omega)
    have b1'' : f_rg 200 0 9 0 0 (si g1 9 9 0) = some g3 := b1'
    have f3 : CFm h g3 := ((CFm.of (a2.wk (A' := [13]) (B' := BR) (by decide) (by decide)) (by decide) (by decide)).trans (CFm.of fr2 (by decide) (by decide))).trans (CFm.of b2' (by decide) (by decide))
    have k3 : g3.1 = h.1 := b2'.1.trans a2.1
    have l := c.1.len
    have gp := gp_all hN gt.2.1 gt.2.2.2 200 0 0 0 (i + 1, u, []) (fun _ => by decide) (fun z => by omega) (by show i + 1 ≤ N; omega) hu
    cases hr : G T 200 0 0 0 (i + 1, u, []) with
    | inl e =>
      rw [hr] at b3'
      obtain ⟨d, m, m1, m2⟩ := b3'
      simp only [List.length_nil] at m2
      obtain ⟨g4, t1, t2, t3⟩ := c_takeD d (w := 59) (by decide)
      obtain ⟨g5, z1, z2, z3, z4, z5, z6⟩ := fin g1 g3 g4 m a1' a3.1 b1'' d.1 t1 t3.1 (f3.trans (CFm.of t2 (by decide) (by decide))) (t2.1.trans k3) ((t2.ef (by decide) (by decide)).trans m1) (by omega)
      exact ⟨g5, m, z1, z2, z3, t3.same z4 (fun k => z5 _ _ (by omega))⟩
    | inr s' =>
      rw [hr] at b3' gp
      rw [if_pos rfl] at gp
      obtain ⟨p1, p2, p3, p4, p5, dd, p6, p7, p8⟩ := gp
      simp only at p1 p3 p6 p7
      obtain ⟨d, sp⟩ := b3'
      have len' : s'.2.2.length = dd.length := by rw [p6]; rfl
      have tk2 := c_take gt d (w := 59) (by decide)
      rw [elim_inr]
      by_cases c59 : T s'.1 = 59
      · rw [if_pos c59]
        obtain ⟨g4, t1, t2, t3⟩ := tk2.1 c59
        have t1' : f_X2_take 9 (59 : Int32) g3 = some g4 := t1
        have sp4 : SP g4 s'.2.2 := sp.fr t2 (by decide) (by decide) (by decide) (by decide)
        obtain ⟨g5, z1, z2, z3, z4, z5, z6⟩ := fin g1 g3 g4 s'.2.2.length a1' a3.1 b1'' d.1 t1' t3.1 (f3.trans (CFm.of (t2.wk (A' := [13]) (B' := BR) (by decide) (by decide)) (by decide) (by decide))) (t2.1.trans k3) sp4.1 (by omega)
        refine ⟨g5, _, z1, z2, z3, t3.same z4 (fun k => z5 _ _ (by omega)) (fun k => z5 _ _ (by omega)) (fun k => z5 _ _ (by omega)), rfl, ?_, fun j hj => (z6 j hj).trans (sp4.2 j hj)⟩
        unfold hk
        rw [z2, List.getElem?_append_right (Nat.le_refl _), Nat.sub_self]
        rfl
      · rw [if_neg c59]
        obtain ⟨g4, t1, t2, t3⟩ := tk2.2 c59
        have t1' : f_X2_take 9 (59 : Int32) g3 = some g4 := t1
        obtain ⟨g5, z1, z2, z3, z4, z5, z6⟩ := fin g1 g3 g4 s'.2.2.length a1' a3.1 b1'' d.1 t1' t3.1 (f3.trans (CFm.of (t2.wk (A' := [13]) (B' := BR) (by decide) (by decide)) (by decide) (by decide))) (t2.1.trans k3) ((t2.ef (by decide) (by decide)).trans sp.1) (by omega)
        exact ⟨g5, _, z1, z2, z3, t3.same z4 (fun k => z5 _ _ (by omega))⟩
  · rw [if_neg c9]
    obtain ⟨g1, a1, a2, a3⟩ := tk'.2 c9
    have a1' : f_X2_take 9 (9 : Int32) h = some g1 := a1
    have d2 : DD (si g1 9 9 0) T Pl (i, 2) := a3.fr (A := []) (B := [(9, 9)]) (Fr.fld (by decide)) (by decide) (by decide)
    obtain ⟨g3, b1', b2', b3'⟩ := c_dead (T := T) (Pl := Pl) (e := (i, 2)) 200 0 0 0 (Or.inl ⟨rfl, by decide, by decide⟩) (si g1 9 9 0) d2
    have b1'' : f_rg 200 0 9 0 0 (si g1 9 9 0) = some g3 := b1'
    obtain ⟨g4, t1, t2, t3⟩ := c_takeD b3' (w := 59) (by decide)
    have l := c.1.len
    have e99 : hi g4 9 9 = nI 0 := (t2.ef (by decide) (by decide)).trans ((b2'.ef (by decide) (by decide)).trans (hi_hit _ _ _))
    obtain ⟨g5, z1, z2, z3, z4, z5, z6⟩ := fin g1 g3 g4 0 a1' a3.1 b1'' b3'.1 t1 t3.1 (((CFm.of (a2.wk (A' := [13]) (B' := BR) (by decide) (by decide)) (by decide) (by decide)).trans (CFm.of (A := []) (C := [(9, 9)]) (Fr.fld (by decide)) (by decide) (by decide))).trans ((CFm.of b2' (by decide) (by decide)).trans (CFm.of t2 (by decide) (by decide)))) (t2.1.trans (b2'.1.trans a2.1)) e99 (by decide)
    exact ⟨g5, 0, z1, z2, z3, t3.same z4 (fun k => z5 _ _ (by omega))⟩
end Cw
