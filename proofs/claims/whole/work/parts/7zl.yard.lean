/-! The model reads as the grammar says. -/
def Rch (k : Nat) (w : Int32) (h : Hp) (w' : Int32) (h' : Hp) : Prop := ∀ m, f_X9_e_L19 (m + k) 45 w h = f_X9_e_L19 m 45 w' h'
theorem Rch.trans {k k' : Nat} {w w' w'' : Int32} {h h' h'' : Hp} (a : Rch k w h w' h') (b : Rch k' w' h' w'' h'') : Rch (k' + k) w h w'' h'' := fun m => by
  rw [← Nat.add_assoc, a (m + k'), b m]
def rkL (a : Nat) : Nat := if a = 0 then 1 else if a = 1 then 2 else if a = 2 then 4 else if a = 3 then 5 else if a = 4 then 6 else 7
def mrL (a : Nat) : Nat := if a = 0 then 1 else if a = 1 then 2 else if a = 2 then 3 else if a = 3 then 5 else if a = 4 then 6 else 7
theorem rkL_tab : ∀ a, a < 5 → mrL (a + 1) = rkL a + 1 ∧ mrL a ≤ rkL a ∧ rkL a < rkL (a + 1) ∧ rkL a ≤ 6 ∧ 1 ≤ rkL a := by decide
theorem rkO_of {t a : Nat} (e : lvO t = a) (ha : a < 5) : rkO t = rkL a := by
  have := rkO_lv t
  unfold rkL
  rcases (show a = 0 ∨ a = 1 ∨ a = 2 ∨ a = 3 ∨ a = 4 by omega) with r | r | r | r | r <;> subst r <;> simp <;> omega
def MRes (B : Nat → Nat) (n base : Nat) (w : Int32) (h : Hp) (S : List (Nat × Nat)) (a : Nat) (s : PS) : GR → Prop
  | .inl e => ∃ k w' g, k + s.1 ≤ e.1 + 1 ∧ Rch k w h w' g ∧ EF base h g ∧ MD g B n e
  | .inr s' => ∃ k g P c', k + s.1 ≤ s'.1 ∧ Rch k w h 0 g ∧ EF base h g ∧ MZ g B n s'.1 s'.2.1 base c' (P ++ S) (dp (P ++ S)) ∧ s'.2.2 = c' ++ stp P ∧ (∀ x ∈ P, mrL a ≤ x.1 ∧ x.1 ≤ 6) ∧ (a ≤ 2 → lvO (tT B n s'.1) = 2 → cmpd P = true) ∧ dp (P ++ S) ≤ 7 ∧ (P ++ S).length ≤ 6 * dp (P ++ S) + 6
section Mw
variable {B : Nat → Nat} {n N base : Nat}
theorem e_unit {h g : Hp} {i u D : Nat} {c : List Nat} {S : List (Nat × Nat)} (z : MZ h B n i u base c S D) (hs : 0 < S.length) (hl : S.length ≤ 80) {w : Int32} (e : f_X9_unit 45 h = some (w, g)) : Rch 1 1 h w g := by
  intro m
  have X := z.1.1.1
  have np : ¬ nI S.length ≤ (0 : Int32) := nI_nle hs (by omega)
  rw [f_X9_e_L19.eq_2, rc45 X, bd_some, m_good z.1, b1_some, if_neg (by decide), gi45 X, bd_some, z.2.2.2.1, if_neg np, if_neg (by decide), rc45 X, bd_some, e, b1_some, b1_some]
theorem e_behind {h g : Hp} {i u D : Nat} {c : List Nat} {S : List (Nat × Nat)} (z : MZ h B n i u base c S D) (hs : 0 < S.length) (hl : S.length ≤ 80) {w : Int32} (e : f_X9_behind 45 h = some (w, g)) : Rch 1 0 h w g := by
  intro m
  have X := z.1.1.1
  have np : ¬ nI S.length ≤ (0 : Int32) := nI_nle hs (by omega)
  rw [f_X9_e_L19.eq_2, rc45 X, bd_some, m_good z.1, b1_some, if_neg (by decide), gi45 X, bd_some, z.2.2.2.1, if_neg np, if_pos rfl, rc45 X, bd_some, e, b1_some, b1_some]
theorem app_cons {α : Type} (P : List α) (x : α) (S : List α) : P ++ x :: S = (P ++ [x]) ++ S := by rw [List.append_assoc]; rfl
theorem stp_app (P Q : List (Nat × Nat)) : stp (P ++ Q) = stp P ++ stp Q := List.map_append
/-- the operators of one level -/
theorem z_loop (gt : GT (tT B n) N) {f a b : Nat} (ha : a < 5) (ih : ∀ h (s : PS) (y : Nat × Nat) (S0 : List (Nat × Nat)), MZ h B n s.1 s.2.1 base s.2.2 (y :: S0) (dp (y :: S0)) → base + s.2.2.length < s.1 → s.1 ≤ N → s.2.1 ≤ 80 → dp (y :: S0) = b → (y :: S0).length ≤ 6 * dp (y :: S0) + 1 + (a + 1) → (7 ≤ y.1 ∨ y.1 < rkL (a + 1)) → (3 ≤ a + 1 → tT B n s.1 = 12 → 4 ≤ y.1 ∧ y.1 ≤ 6) → (∃ x ∈ y :: S0, x.1 = 8) → MRes B n base 1 h (y :: S0) (a + 1) s (G (tT B n) f 0 (a + 1) b s)) (hb : b ≤ 7) {y : Nat × Nat} {S0 : List (Nat × Nat)} (hdp : dp (y :: S0) = b) (hlen : (y :: S0).length ≤ 6 * dp (y :: S0) + 1 + a) (hy : 7 ≤ y.1 ∨ y.1 < rkL a) (h8 : ∃ x ∈ y :: S0, x.1 = 8) :
    ∀ m h (s : PS) P c, MZ h B n s.1 s.2.1 base c (P ++ y :: S0) (dp (P ++ y :: S0)) → s.2.2 = c ++ stp P → base + s.2.2.length < s.1 → s.1 ≤ N → s.2.1 ≤ 80 → (∀ x ∈ P, rkL a ≤ x.1 ∧ x.1 ≤ 6 ∨ (a = 2 ∧ False)) → (a = 2 → m ≤ 1) → (a < 2 → lvO (tT B n s.1) = 2 → cmpd P = true) → (a = 2 → m = 0 → cmpd P = true) → (a = 2 → m = 1 → ∀ x ∈ P, 5 ≤ x.1) → dp (P ++ y :: S0) ≤ 7 → (P ++ y :: S0).length ≤ 6 * dp (P ++ y :: S0) + 6 → MRes B n base 0 h (y :: S0) a s (gL (tT B n) (G (tT B n) f 0 (a + 1) b) a m s) := by
  obtain ⟨rt1, rt2, rt3, rt4, rt5⟩ := rkL_tab a ha
  have hN := gt.1
  have ylen : (y :: S0).length = S0.length + 1 := rfl
  intro m
  induction m with
  | zero =>
    intro h s P c z hs hc hi' hu hP hm hq1 hq2 hq3 hd hl
    unfold gL
    refine ⟨0, h, P, c, Nat.le_of_eq (Nat.zero_add _), fun m => rfl, EF.refl, z, hs, fun x hx => ?_, fun z1 z2 => ?_, hd, hl⟩
    · rcases hP x hx with q | q
      · exact ⟨by omega, q.2⟩
      · exact q.2.elim
    · by_cases e : a = 2
      · exact hq2 e rfl
      · exact hq1 (by omega) z2
  | succ m ihm =>
    intro h s P c z hs hc hi' hu hP hm hq1 hq2 hq3 hd hl
    unfold gL
    have sl : s.2.2.length = c.length + P.length := by rw [hs, List.length_append]; unfold stp; rw [List.length_map]
    have plen : (P ++ y :: S0).length = P.length + (S0.length + 1) := by rw [List.length_append]; rfl
    by_cases cl : lvO (tT B n s.1) = a
    · rw [if_pos cl]
      have rk := rkO_of cl ha
      have jt := lvO_jtok (t := tT B n s.1) (by omega)
      have ne : s.1 ≠ N := fun e => by rw [e] at jt; have := gt.2.1; omega
      have h8' : ∃ x ∈ P ++ y :: S0, x.1 = 8 := by
        obtain ⟨x, hx, x8⟩ := h8
        exact ⟨x, List.mem_append.mpr (Or.inr hx), x8⟩
      have nc : rkO (tT B n s.1) = 4 → ¬ cmpd (P ++ y :: S0) = true := by
        intro r4
        have a2 : a = 2 := by
          rw [rk] at r4
          rcases (show a = 0 ∨ a = 1 ∨ a = 2 ∨ a = 3 ∨ a = 4 by omega) with r | r | r | r | r <;> subst r <;> simp [rkL] at r4 ⊢
        have m0 : m = 0 := by have := hm a2; omega
        rw [cmpd_skip P _ (fun x hx => ⟨hq3 a2 (by omega) x hx, by rcases hP x hx with q | q; exact q.2; exact q.2.elim⟩)]
        have y4 : y.1 < 4 ∨ 7 ≤ y.1 := by
          rw [a2] at hy
          simp [rkL] at hy
          omega
        show ¬ (if y.1 = 5 ∨ y.1 = 6 then cmpd S0 else decide (y.1 = 4)) = true
        rw [if_neg (by omega), decide_eq_true_eq]
        omega
      obtain ⟨g1, a1, a2, a3⟩ := b_op z (by omega) (fun x hx => by rcases hP x hx with q | q; exact ⟨by omega, q.2⟩; exact q.2.elim) (by omega) (by omega) (by omega) (by omega)
      have st1 := e_behind z (by omega) (by omega) (by rw [b_head z (by omega) h8' nc]; exact a1)
      rw [← hs] at a3
      have dpc : dp ((rkO (tT B n s.1), tT B n s.1) :: y :: S0) = dp (y :: S0) := by
        show (if rkO (tT B n s.1) = 3 ∨ rkO (tT B n s.1) = 7 then 1 else 0) + dp (y :: S0) = _
        rw [if_neg (by
          rw [rk]
          rcases (show a = 0 ∨ a = 1 ∨ a = 2 ∨ a = 3 ∨ a = 4 by omega) with r | r | r | r | r <;> subst r <;> decide), Nat.zero_add]
      rw [← dpc] at a3
      have hs1 := ih g1 (s.1 + 1, s.2.1, s.2.2) (rkO (tT B n s.1), tT B n s.1) (y :: S0) a3 (by show base + s.2.2.length < s.1 + 1; omega) (by show s.1 + 1 ≤ N; omega) hu (by rw [dpc]; exact hdp) (by rw [dpc]; show (y :: S0).length + 1 ≤ _; omega) (Or.inr (by show rkO (tT B n s.1) < _; omega)) (fun z1 _ => by
          show 4 ≤ rkO (tT B n s.1) ∧ rkO (tT B n s.1) ≤ 6
          rw [rk]
          rcases (show a = 2 ∨ a = 3 ∨ a = 4 by omega) with r | r | r <;> subst r <;> decide) (by
          obtain ⟨x, hx, x8⟩ := h8
          exact ⟨x, List.mem_cons_of_mem _ hx, x8⟩)
      have gp := gp_all hN gt.2.1 gt.2.2.2 f 0 (a + 1) b (s.1 + 1, s.2.1, s.2.2) (fun _ => by omega) (fun z => by omega) (by show s.1 + 1 ≤ N; omega) hu
      cases hr : G (tT B n) f 0 (a + 1) b (s.1 + 1, s.2.1, s.2.2) with
      | inl e =>
        rw [hr] at hs1 gp
        obtain ⟨k, w', g, k1, k2, k3, k4⟩ := hs1
        obtain ⟨p1, p2, p3⟩ := gp
        simp only at k1 p1
        rw [elim_inl]
        exact ⟨k + 1, w', g, by omega, st1.trans k2, a2.trans k3, k4⟩
      | inr s' =>
        rw [hr] at hs1 gp
        rw [if_pos rfl] at gp
        obtain ⟨p1, p2, p3, p4, p5, dd, p6, p7, p8⟩ := gp
        simp only at p1 p3 p6 p7
        obtain ⟨k, g, P1, c1, k1, k2, k3, k4, k5, k6, k7, k8', k9'⟩ := hs1
        simp only at k1
        rw [elim_inr]
        rw [app_cons] at k4 k8' k9'
        have len' : s'.2.2.length = s.2.2.length + dd.length := by rw [p6, List.length_append]
        have hP1 : ∀ x ∈ P1 ++ [(rkO (tT B n s.1), tT B n s.1)], rkL a ≤ x.1 ∧ x.1 ≤ 6 ∨ (a = 2 ∧ False) := by
          intro x hx
          rcases List.mem_append.mp hx with q | q
          · have := k6 x q
            exact Or.inl ⟨by omega, this.2⟩
          · rw [List.mem_singleton.mp q]
            exact Or.inl ⟨by show rkL a ≤ rkO _; omega, by show rkO _ ≤ 6; omega⟩
        have r := ihm g (s'.1, s'.2.1, s'.2.2 ++ [20000 + tT B n s.1]) (P1 ++ [(rkO (tT B n s.1), tT B n s.1)]) c1 k4 (by show s'.2.2 ++ _ = _; rw [k5, stp_app, List.append_assoc]; rfl) (by show base + (s'.2.2 ++ [20000 + tT B n s.1]).length < s'.1; rw [List.length_append, List.length_singleton]; omega) p2 p4 hP1 (fun e => by have := hm e; omega) (fun z1 z2 => cmpd_app _ _ (k7 (by omega) z2)) (fun e m0 => by
            rw [cmpd_skip P1 _ (fun x hx => by
              have := k6 x hx
              rw [e] at this
              simp [mrL] at this
              exact this)]
            show (if rkO (tT B n s.1) = 5 ∨ rkO (tT B n s.1) = 6 then _ else decide (rkO (tT B n s.1) = 4)) = true
            rw [rk, e]
            rfl) (fun e m1 => by have := hm e; omega) k8' k9'
        cases hr2 : gL (tT B n) (G (tT B n) f 0 (a + 1) b) a m (s'.1, s'.2.1, s'.2.2 ++ [20000 + tT B n s.1]) with
        | inl e =>
          rw [hr2] at r
          obtain ⟨q, w', g', q1, q2, q3, q4⟩ := r
          simp only at q1
          refine ⟨q + (k + 1), w', g', ?_, (st1.trans k2).trans q2, (a2.trans k3).trans q3, q4⟩
          omega
        | inr s2 =>
          rw [hr2] at r
          obtain ⟨q, g', P2, c2, q1, q2, q3, q4⟩ := r
          simp only at q1
          refine ⟨q + (k + 1), g', P2, c2, ?_, (st1.trans k2).trans q2, (a2.trans k3).trans q3, q4⟩
          omega
    · rw [if_neg cl]
      refine ⟨0, h, P, c, Nat.le_of_eq (Nat.zero_add _), fun m => rfl, EF.refl, z, hs, fun x hx => ?_, fun z1 z2 => ?_, hd, hl⟩
      · rcases hP x hx with q | q
        · exact ⟨by omega, q.2⟩
        · exact q.2.elim
      · exact hq1 (by omega) z2
end Mw
