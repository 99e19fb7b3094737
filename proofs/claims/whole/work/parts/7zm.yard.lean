/-! The model reads as the grammar says: all of an e. -/
def lvK (k a : Nat) : Nat := if k = 0 then a else if k = 1 then 2 else 5
section Mx
variable {B : Nat → Nat} {n N base : Nat}
theorem MRes.dead {h g : Hp} {S : List (Nat × Nat)} {a : Nat} {s : PS} {e : Nat × Nat} {w w' : Int32} (k : Nat) (hk' : k + s.1 ≤ e.1 + 1) (r : Rch k w h w' g) (f : EF base h g) (m : MD g B n e) : MRes B n base w h S a s (.inl e) := ⟨k, w', g, hk', r, f, m⟩
theorem z_rg (gt : GT (tT B n) N) : ∀ f k a b, (k = 0 ∧ a ≤ 5 ∧ b ≤ 7 ∧ 8 * (8 - b) < a + f ∨ k = 1 ∧ a ≤ 7 ∧ 8 * (8 - a) < 3 + f ∨ k = 2 ∧ a ≤ 7 ∧ 8 * (8 - a) < 6 + f) → ∀ h (s : PS) (y : Nat × Nat) (S0 : List (Nat × Nat)), MZ h B n s.1 s.2.1 base s.2.2 (y :: S0) (dp (y :: S0)) → base + s.2.2.length < s.1 → s.1 ≤ N → s.2.1 ≤ 80 → dp (y :: S0) = (if k = 0 then b else a) → (y :: S0).length ≤ 6 * dp (y :: S0) + 1 + lvK k a → (7 ≤ y.1 ∨ y.1 < rkL (lvK k a)) → (3 ≤ lvK k a → tT B n s.1 = 12 → 4 ≤ y.1 ∧ y.1 ≤ 6) → (k = 1 → tT B n s.1 = 12) → (∃ x ∈ y :: S0, x.1 = 8) → MRes B n base 1 h (y :: S0) (lvK k a) s (G (tT B n) f k a b s) := by
  intro f
  induction f with
  | zero => intro k a b hk'; omega
  | succ f ih =>
    intro k a b hk' h s y S0 z hc hi' hu hdp hlen hy h12 hk1 h8
    have hN := gt.1
    have ylen : (y :: S0).length = S0.length + 1 := rfl
    unfold G
    rcases hk' with ⟨k0, ha, hb, hf⟩ | ⟨k1, ha, hf⟩ | ⟨k2, ha, hf⟩
    · subst k0
      rw [if_pos rfl] at hdp ⊢
      have lk : lvK 0 a = a := rfl
      rw [lk] at hlen hy h12 ⊢
      by_cases c1 : a < 5
      · rw [if_pos c1]
        obtain ⟨rt1, rt2, rt3, rt4, rt5⟩ := rkL_tab a c1
        by_cases c2 : a = 2 ∧ tT B n s.1 = 12
        · rw [if_pos c2]
          have r := ih 1 b 0 (Or.inr (Or.inl ⟨rfl, hb, by omega⟩)) h s y S0 z hc hi' hu (by rw [if_neg (by decide)]; exact hdp) (by show _ ≤ _ + 1 + 2; omega) (by show 7 ≤ y.1 ∨ y.1 < rkL 2; rw [c2.1] at hy; exact hy) (fun q => absurd (show 3 ≤ 2 from q) (by decide)) (fun _ => c2.2) h8
          rw [c2.1]
          exact r
        · rw [if_neg c2]
          have ih1 : ∀ h (s : PS) (y : Nat × Nat) (S0 : List (Nat × Nat)), MZ h B n s.1 s.2.1 base s.2.2 (y :: S0) (dp (y :: S0)) → base + s.2.2.length < s.1 → s.1 ≤ N → s.2.1 ≤ 80 → dp (y :: S0) = b → (y :: S0).length ≤ 6 * dp (y :: S0) + 1 + (a + 1) → (7 ≤ y.1 ∨ y.1 < rkL (a + 1)) → (3 ≤ a + 1 → tT B n s.1 = 12 → 4 ≤ y.1 ∧ y.1 ≤ 6) → (∃ x ∈ y :: S0, x.1 = 8) → MRes B n base 1 h (y :: S0) (a + 1) s (G (tT B n) f 0 (a + 1) b s) := fun h s y S0 q1 q2 q3 q4 q5 q6 q7 q8 q9 => ih 0 (a + 1) b (Or.inl ⟨rfl, by omega, hb, by omega⟩) h s y S0 q1 q2 q3 q4 (by rw [if_pos rfl]; exact q5) q6 q7 q8 (fun q => by omega) q9
          have r := ih1 h s y S0 z hc hi' hu hdp (by omega) (by omega) (fun q1 q2 => by
            by_cases e : a = 2
            · exact absurd ⟨e, q2⟩ c2
            · exact h12 (by omega) q2) h8
          have gp := gp_all hN gt.2.1 gt.2.2.2 f 0 (a + 1) b s (fun _ => by omega) (fun z => by omega) hi' hu
          cases hr : G (tT B n) f 0 (a + 1) b s with
          | inl e =>
            rw [hr] at r
            exact r
          | inr s' =>
            rw [hr] at r gp
            rw [if_pos rfl] at gp
            obtain ⟨p1, p2, p3, p4, p5, dd, p6, p7, p8⟩ := gp
            obtain ⟨k, g, P, c', k1, k2, k3, k4, k5, k6, k7, k8', k9'⟩ := r
            have len' : s'.2.2.length = s.2.2.length + dd.length := by rw [p6, List.length_append]
            rw [elim_inr]
            have lp := z_loop gt c1 ih1 hb hdp hlen hy h8 (if a = 2 then 1 else 900) g s' P c' k4 k5 (by omega) p2 p4 (fun x hx => Or.inl ⟨by have := k6 x hx; omega, (k6 x hx).2⟩) (fun e => by rw [if_pos e]; omega) (fun q1 q2 => k7 (by omega) q2) (fun e q => by rw [if_pos e] at q; omega) (fun e _ x hx => by
              have := (k6 x hx).1
              rw [e] at this
              simp [mrL] at this
              exact this) k8' k9'
            cases hr2 : gL (tT B n) (G (tT B n) f 0 (a + 1) b) a (if a = 2 then 1 else 900) s' with
            | inl e =>
              rw [hr2] at lp
              obtain ⟨q, w', g', q1, q2, q3, q4⟩ := lp
              exact ⟨q + k, w', g', by omega, k2.trans q2, k3.trans q3, q4⟩
            | inr s2 =>
              rw [hr2] at lp
              obtain ⟨q, g', P2, c2', q1, q2, q3, q4⟩ := lp
              exact ⟨q + k, g', P2, c2', by omega, k2.trans q2, k3.trans q3, q4⟩
      · rw [if_neg c1]
        have a5 : a = 5 := by omega
        subst a5
        exact ih 2 b 0 (Or.inr (Or.inr ⟨rfl, hb, by omega⟩)) h s y S0 z hc hi' hu (by rw [if_neg (by decide)]; exact hdp) hlen hy h12 (fun q => by omega) h8
    · subst k1
      rw [if_neg (by decide)] at hdp
      rw [if_neg (by decide), if_pos rfl]
      have lk : lvK 1 a = 2 := rfl
      rw [lk] at hlen hy h12 ⊢
      have t12 := hk1 rfl
      have ne : s.1 ≠ N := fun e => by rw [e] at t12; have := gt.2.1; omega
      have y4 : y.1 ≤ 3 ∨ 7 ≤ y.1 := by
        simp [rkL] at hy
        omega
      have hd := u_head z (by omega)
      rw [if_pos ⟨y4, t12⟩] at hd
      have un := u_not z t12 (by omega) (by omega)
      by_cases c1 : a < 7
      · rw [if_pos c1]
        obtain ⟨g1, a1, a2, a3⟩ := un.1 (by omega)
        have st := e_unit z (by omega) (by omega) (by rw [hd]; exact a1)
        have dpc : dp ((3, 12) :: y :: S0) = dp (y :: S0) + 1 := by show 1 + dp (y :: S0) = _; omega
        rw [← dpc] at a3
        have r := ih 0 2 (a + 1) (Or.inl ⟨rfl, by omega, by omega, by omega⟩) g1 (s.1 + 1, s.2.1, s.2.2) (3, 12) (y :: S0) a3 (by show base + s.2.2.length < s.1 + 1; omega) (by show s.1 + 1 ≤ N; omega) hu (by rw [dpc, if_pos rfl]; omega) (by rw [dpc]; show (y :: S0).length + 1 ≤ _ + 1 + 2; omega) (Or.inr (by decide)) (fun q => absurd q (by decide)) (fun q => by omega) (by
          obtain ⟨x, hx, x8⟩ := h8
          exact ⟨x, List.mem_cons_of_mem _ hx, x8⟩)
        have lk2 : lvK 0 2 = 2 := rfl
        rw [lk2] at r
        cases hr : G (tT B n) f 0 2 (a + 1) (s.1 + 1, s.2.1, s.2.2) with
        | inl e =>
          rw [hr] at r
          obtain ⟨q, w', g', q1, q2, q3, q4⟩ := r
          simp only at q1
          exact ⟨q + 1, w', g', by omega, st.trans q2, a2.trans q3, q4⟩
        | inr s' =>
          rw [hr] at r
          obtain ⟨q, g', P, c', q1, q2, q3, q4, q5, q6, q7, q8, q9⟩ := r
          simp only at q1
          rw [app_cons] at q4 q8 q9
          rw [elim_inr]
          refine ⟨q + 1, g', P ++ [(3, 12)], c', by show q + 1 + s.1 ≤ s'.1; omega, st.trans q2, a2.trans q3, q4, ?_, fun x hx => ?_, fun z1 z2 => cmpd_app _ _ (q7 z1 z2), q8, q9⟩
          · show s'.2.2 ++ [20012] = _
            rw [q5, stp_app, List.append_assoc]
            rfl
          · rcases List.mem_append.mp hx with w | w
            · exact q6 x w
            · rw [List.mem_singleton.mp w]
              decide
      · rw [if_neg c1]
        obtain ⟨g1, a1, a2, a3⟩ := un.2 (by omega)
        exact MRes.dead 1 (by show 1 + s.1 ≤ s.1 + 1; omega) (e_unit z (by omega) (by omega) (by rw [hd]; exact a1)) a2 a3
    · subst k2
      rw [if_neg (by decide)] at hdp
      rw [if_neg (by decide), if_neg (by decide)]
      have lk : lvK 2 a = 5 := rfl
      rw [lk] at hlen hy h12 ⊢
      have hd := u_head z (by omega)
      rw [if_neg (fun q => by have := h12 (by decide) q.2; omega)] at hd
      have st : ∀ {w g}, unitB 0 h = some (w, g) → Rch 1 1 h w g := fun e => e_unit z (by omega) (by omega) (by rw [hd]; exact e)
      have bad : (s.2.1 = 80 ∨ (tT B n s.1 = 40 ∧ dp (y :: S0) = 7) ∨ (tT B n s.1 ≠ 40 ∧ (tT B n s.1 < 13 ∨ 23 < tT B n s.1) ∧ tT B n s.1 < 1000)) → MRes B n base 1 h (y :: S0) 5 s (.inl (s.1, 2)) := by
        intro q
        obtain ⟨g1, a1, a2, a3⟩ := u_bad z (by omega) hu q
        exact MRes.dead 1 (by show 1 + s.1 ≤ s.1 + 1; omega) (st a1) a2 a3
      have fin : ∀ {g : Hp} {i' u' : Nat} {c' : List Nat} (q : Nat), q + s.1 ≤ i' → Rch q 1 h 0 g → EF base h g → MZ g B n i' u' base c' (y :: S0) (dp (y :: S0)) → MRes B n base 1 h (y :: S0) 5 s (.inr (i', u', c')) := fun {g i' u' c'} q q1 q2 q3 q4 => ⟨q, g, [], c', q1, q2, q3, q4, (List.append_nil c').symm, fun x hx => absurd hx (List.not_mem_nil), fun w => absurd w (by decide), by show dp (y :: S0) ≤ 7; omega, by show (y :: S0).length ≤ 6 * dp (y :: S0) + 6; omega⟩
      by_cases c1 : s.2.1 < 80
      · rw [if_pos c1]
        by_cases c2 : 1000 ≤ tT B n s.1
        · rw [if_pos c2]
          obtain ⟨g1, a1, a2, a3⟩ := u_leaf z c1 (by omega) (Or.inr c2)
          rw [if_pos c2] at a3
          exact fin 1 (by omega) (st a1) a2 a3
        · rw [if_neg c2]
          by_cases c3 : tT B n s.1 = 23
          · rw [if_pos c3]
            have uh := u_hab z c1 (by omega) c3
            unfold gLeaf
            by_cases c4 : 13 ≤ tT B n (s.1 + 1) ∧ tT B n (s.1 + 1) ≤ 17
            · rw [if_pos c4]
              obtain ⟨g1, a1, a2, a3⟩ := uh.1 c4
              exact fin 1 (by show 1 + s.1 ≤ s.1 + 1 + 1; omega) (st a1) a2 a3
            · rw [if_neg c4]
              obtain ⟨g1, a1, a2, a3⟩ := uh.2 c4
              exact MRes.dead 1 (by show 1 + s.1 ≤ s.1 + 1 + 1; omega) (st a1) a2 a3
          · rw [if_neg c3]
            by_cases c4 : tT B n s.1 = 40 ∧ a < 7
            · rw [if_pos c4]
              have ne : s.1 ≠ N := fun e => by have w := c4.1; rw [e] at w; have := gt.2.1; omega
              obtain ⟨g1, a1, a2, a3⟩ := u_brk z c4.1 (by omega) c1 (by omega)
              have dpc : dp ((7, 0) :: y :: S0) = dp (y :: S0) + 1 := by show 1 + dp (y :: S0) = _; omega
              rw [← dpc] at a3
              have h8' : ∃ x ∈ (7, 0) :: y :: S0, x.1 = 8 := by
                obtain ⟨x, hx, x8⟩ := h8
                exact ⟨x, List.mem_cons_of_mem _ hx, x8⟩
              have r := ih 0 0 (a + 1) (Or.inl ⟨rfl, by omega, by omega, by omega⟩) g1 (s.1 + 1, s.2.1 + 1, s.2.2) (7, 0) (y :: S0) a3 (by show base + s.2.2.length < s.1 + 1; omega) (by show s.1 + 1 ≤ N; omega) (by show s.2.1 + 1 ≤ 80; omega) (by rw [dpc, if_pos rfl]; omega) (by rw [dpc]; show (y :: S0).length + 1 ≤ _ + 1 + 0; omega) (Or.inl (by decide)) (fun q => absurd q (by decide)) (fun q => by omega) h8'
              have lk2 : lvK 0 0 = 0 := rfl
              rw [lk2] at r
              have gp := gp_all hN gt.2.1 gt.2.2.2 f 0 0 (a + 1) (s.1 + 1, s.2.1 + 1, s.2.2) (fun _ => by omega) (fun z => by omega) (by show s.1 + 1 ≤ N; omega) (by show s.2.1 + 1 ≤ 80; omega)
              cases hr : G (tT B n) f 0 0 (a + 1) (s.1 + 1, s.2.1 + 1, s.2.2) with
              | inl e =>
                rw [hr] at r
                obtain ⟨q, w', g', q1, q2, q3, q4⟩ := r
                simp only at q1
                exact ⟨q + 1, w', g', by omega, (st a1).trans q2, a2.trans q3, q4⟩
              | inr s' =>
                rw [hr] at r gp
                rw [if_pos rfl] at gp
                obtain ⟨p1, p2, p3, p4, p5, dd, p6, p7, p8⟩ := gp
                simp only at p1 p3 p6 p7
                obtain ⟨q, g', P, c', q1, q2, q3, q4, q5, q6, q7, q8, q9⟩ := r
                simp only at q1
                have len' : s'.2.2.length = s.2.2.length + dd.length := by rw [p6, List.length_append]
                have sl : s'.2.2.length = c'.length + P.length := by rw [q5, List.length_append]; unfold stp; rw [List.length_map]
                have h8'' : ∃ x ∈ P ++ (7, 0) :: y :: S0, x.1 = 8 := by
                  obtain ⟨x, hx, x8⟩ := h8'
                  exact ⟨x, List.mem_append.mpr (Or.inr hx), x8⟩
                have plen : (P ++ (7, 0) :: y :: S0).length = P.length + (S0.length + 1 + 1) := by rw [List.length_append]; rfl
                rw [elim_inr]
                by_cases cl : lvO (tT B n s'.1) < 5
                · have l2 : lvO (tT B n s'.1) = 2 := p5 _ (Nat.zero_le _) cl rfl
                  have r4 : rkO (tT B n s'.1) = 4 := by have := rkO_lv (tT B n s'.1); omega
                  obtain ⟨g2, d1, d2, d3⟩ := b_cmp q4 (by omega) h8'' r4 (cmpd_app _ _ (q7 (by decide) l2))
                  have n41 : ¬ tT B n s'.1 = 41 := fun w => by rw [w] at r4; exact absurd r4 (by decide)
                  rw [if_neg n41]
                  exact MRes.dead (1 + (q + 1)) (by show _ ≤ s'.1 + 1; omega) (((st a1).trans q2).trans (e_behind q4 (by omega) (by omega) d1)) ((a2.trans q3).trans d2) d3
                · have r0 : rkO (tT B n s'.1) = 0 := by have := rkO_lv (tT B n s'.1); omega
                  have bb := b_brk q4 r0 (fun x hx => (q6 x hx).2) (by omega) (by omega)
                  have bh := b_head q4 (by omega) h8'' (fun w => by omega)
                  by_cases c5 : tT B n s'.1 = 41
                  · rw [if_pos c5]
                    obtain ⟨g2, d1, d2, d3⟩ := bb.1 c5
                    rw [← q5] at d3
                    exact fin (1 + (q + 1)) (by omega) (((st a1).trans q2).trans (e_behind q4 (by omega) (by omega) (by rw [bh]; exact d1))) ((a2.trans q3).trans d2) d3
                  · rw [if_neg c5]
                    obtain ⟨g2, d1, d2, d3⟩ := bb.2 c5
                    exact MRes.dead (1 + (q + 1)) (by show _ ≤ s'.1 + 1; omega) (((st a1).trans q2).trans (e_behind q4 (by omega) (by omega) (by rw [bh]; exact d1))) ((a2.trans q3).trans d2) d3
            · rw [if_neg c4]
              unfold gLeaf
              by_cases c5 : 13 ≤ tT B n s.1 ∧ tT B n s.1 ≤ 22
              · rw [if_pos c5]
                obtain ⟨g1, a1, a2, a3⟩ := u_leaf z c1 (by omega) (Or.inl c5)
                rw [if_neg c2] at a3
                exact fin 1 (by omega) (st a1) a2 a3
              · rw [if_neg c5]
                exact bad (by omega)
      · rw [if_neg c1]
        exact bad (Or.inl (by omega))
end Mx
