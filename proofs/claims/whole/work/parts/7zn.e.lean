/-! The model reads a whole e. -/
section My
variable {B : Nat → Nat} {n N base : Nat}
theorem e_dead {g : Hp} {e : Nat × Nat} (d : MD g B n e) (w : Int32) (m : Nat) : f_X9_e_L19 (m + 1) 45 w g = some g := by
  rw [f_X9_e_L19.eq_2, rc45 d.1.1, bd_some, m_bad d, b1_some, if_pos rfl]
theorem e_done {g : Hp} {i u D : Nat} {c : List Nat} (z : MZ g B n i u base c [] D) (w : Int32) (m : Nat) : f_X9_e_L19 (m + 1) 45 w g = some g := by
  have e29 : hi g 45 29 = 0 := z.2.2.2.1
  rw [f_X9_e_L19.eq_2, rc45 z.1.1.1, bd_some, m_good z.1, b1_some, if_neg (by decide), gi45 z.1.1.1, bd_some, e29, if_pos (Int32.le_refl _)]
theorem z_e (gt : GT (tT B n) N) {h : Hp} {i u : Nat} (m : MR h B n i) (hu : hi h 45 27 = nI u) (hc : hi h 45 26 = nI base) (hb : base < i) (hi' : i ≤ N) (hu80 : u ≤ 80) :
    ∃ g, f_X9_e 45 h = some g ∧ EF base h g ∧ match G (tT B n) 200 0 0 0 (i, u, []) with
      | .inl e => MD g B n e
      | .inr s' => if lvO (tT B n s'.1) < 5 then MD g B n (s'.1, 2) else MR g B n s'.1 ∧ hi g 45 27 = nI s'.2.1 ∧ MCd g base s'.2.2 := by
  have X := m.1.1
  have hN := gt.1
  have fr : FrM [] [28, 29] h (si (si h 45 29 0) 45 28 0) := (FrM.fld (by decide)).trans (FrM.fld (by decide))
  have z0 : MZ (si (si h 45 29 0) 45 28 0) B n i u base [] [] 0 := ⟨m.fr fr (by decide) (by decide), (fr.ef (by decide)).trans hu, ⟨(fr.ef (by decide)).trans hc, fun j hj => absurd hj (Nat.not_lt_zero _)⟩, by rw [hi_col _ _ (by decide), hi_hit]; rfl, trivial, hi_hit _ _ _⟩
  obtain ⟨g1, a1, a2, a3⟩ := z_push z0 (by decide) (w := 8) (t := 0) (by decide) (v := 0) (fun q => absurd q (by decide))
  have a1' : f_X9_put 45 8 0 (si (si h 45 29 0) 45 28 0) = some g1 := a1
  have ef0 : EF base h (si (si h 45 29 0) 45 28 0) := EF.of fr (by decide) (by decide)
  have r := z_rg gt 200 0 0 0 (Or.inl ⟨rfl, by decide, by decide, by decide⟩) g1 (i, u, []) (8, 0) [] a3 (by show base + 0 < i; omega) hi' hu80 rfl (by decide) (Or.inl (by decide)) (fun q => absurd q (by decide)) (fun q => absurd q (by decide)) ⟨_, List.mem_singleton.mpr rfl, rfl⟩
  have fe : ∀ g, f_X9_e_L19 fu 45 1 g1 = some g → f_X9_e 45 h = some g := by
    intro g hg
    have x1 : FX (si h 45 29 0) := FX_of X rfl (fun _ _ => rfl)
    unfold f_X9_e
    rw [pi45 X, bd_some, pi45 x1, bd_some, rc45 z0.1.1.1, bd_some, a1', bd_some, hg, bd_some]
  have gp := gp_all hN gt.2.1 gt.2.2.2 200 0 0 0 (i, u, []) (fun _ => by decide) (fun z => by omega) hi' hu80
  cases hr : G (tT B n) 200 0 0 0 (i, u, []) with
  | inl e =>
    rw [hr] at r gp
    obtain ⟨k, w', g, k1, k2, k3, k4⟩ := r
    obtain ⟨p1, p2, p3⟩ := gp
    simp only at k1
    obtain ⟨q, eq⟩ := fu_ex (1 + k) (by omega)
    refine ⟨g, fe g ?_, (ef0.trans a2).trans k3, k4⟩
    rw [eq, ← Nat.add_assoc, k2 (q + 1), e_dead k4]
  | inr s' =>
    rw [hr] at r gp
    rw [if_pos rfl] at gp
    obtain ⟨p1, p2, p3, p4, p5, dd, p6, p7, p8⟩ := gp
    simp only at p1 p3 p6 p7
    obtain ⟨k, g, P, c', k1, k2, k3, k4, k5, k6, k7, k8', k9'⟩ := r
    simp only at k1
    have sl : s'.2.2.length = c'.length + P.length := by rw [k5, List.length_append]; unfold stp; rw [List.length_map]
    have len' : s'.2.2.length = dd.length := by rw [p6]; rfl
    have h8 : ∃ x ∈ P ++ [(8, 0)], x.1 = 8 := ⟨(8, 0), List.mem_append.mpr (Or.inr (List.mem_singleton.mpr rfl)), rfl⟩
    have plen : (P ++ [(8, 0)]).length = P.length + 1 := by rw [List.length_append]; rfl
    obtain ⟨q, eq⟩ := fu_ex (1 + (1 + k)) (by omega)
    by_cases cl : lvO (tT B n s'.1) < 5
    · have l2 : lvO (tT B n s'.1) = 2 := p5 _ (Nat.zero_le _) cl rfl
      have r4 : rkO (tT B n s'.1) = 4 := by have := rkO_lv (tT B n s'.1); omega
      obtain ⟨g2, d1, d2, d3⟩ := b_cmp k4 (by omega) h8 r4 (cmpd_app _ _ (k7 (by decide) l2))
      refine ⟨g2, fe g2 ?_, ((ef0.trans a2).trans k3).trans d2, ?_⟩
      · rw [eq, ← Nat.add_assoc, (k2.trans (e_behind k4 (by omega) (by omega) d1)) (q + 1), e_dead d3]
      · show if lvO (tT B n s'.1) < 5 then MD g2 B n (s'.1, 2) else _
        rw [if_pos cl]
        exact d3
    · have r0 : rkO (tT B n s'.1) = 0 := by have := rkO_lv (tT B n s'.1); omega
      obtain ⟨g2, d1, d2, d3⟩ := b_all k4 r0 (fun x hx => (k6 x hx).2) (by omega) (by omega)
      rw [← k5] at d3
      have bh := b_head k4 (by omega) h8 (fun w => by omega)
      refine ⟨g2, fe g2 ?_, ((ef0.trans a2).trans k3).trans d2, ?_⟩
      · rw [eq, ← Nat.add_assoc, (k2.trans (e_behind k4 (by omega) (by omega) (by rw [bh]; exact d1))) (q + 1), e_done d3]
      · show if lvO (tT B n s'.1) < 5 then _ else _
        rw [if_neg cl]
        exact ⟨d3.1, d3.2.1, d3.2.2.1⟩
end My
