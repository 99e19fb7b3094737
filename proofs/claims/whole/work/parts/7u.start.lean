/-! The start: the class's shelves. -/
theorem c_L98 {h : Hp} (k8' : hk h 8 = some (7, 0)) (q1 : hq h 8 1 = some 14) (k14' : hk h 14 = some (13, 4)) (k41' : hk h 41 = some (0, 0)) :
    ∃ g, f_X8_init_L98 fu 8 (some 41) 0 h = some g ∧ g.1 = h.1 ∧ (∀ a k, hi g a k = hi h a k) ∧ (∀ a k, hj g a k = hj h a k) ∧ (∀ s, s < 4 → hq g 14 s = some 41) ∧ ∀ a k, a ≠ 14 → hq g a k = hq h a k := by
  refine forN (fun n i g => f_X8_init_L98 n 8 (some 41) i g) 4 (by omega) (fun m g => g.1 = h.1 ∧ (∀ a k, hi g a k = hi h a k) ∧ (∀ a k, hj g a k = hj h a k) ∧ (∀ s, s < m → hq g 14 s = some 41) ∧ ∀ a k, a ≠ 14 → hq g a k = hq h a k) (fun g => g.1 = h.1 ∧ (∀ a k, hi g a k = hi h a k) ∧ (∀ a k, hj g a k = hj h a k) ∧ (∀ s, s < 4 → hq g 14 s = some 41) ∧ ∀ a k, a ≠ 14 → hq g a k = hq h a k) ?_ ?_ (i0 := 0) (Nat.zero_le _) ⟨rfl, fun _ _ => rfl, fun _ _ => rfl, fun s hs => absurd hs (Nat.not_lt_zero _), fun _ _ _ => rfl⟩
  · rintro n g ⟨I1, I2, I3, I4, I5⟩
    have kd : ∀ a, hk g a = hk h a := fun a => by unfold hk; rw [I1]
    refine ⟨g, ?_, I1, I2, I3, I4, I5⟩
    rw [f_X8_init_L98.eq_2, getQ_of 1 (by rw [kd]; exact k8'), I5 _ _ (by decide), q1, bd_some, aln_eq (by rw [kd]; exact k14'), bd_some, if_pos (Int32.le_refl _)]
  · rintro n i g hi' ⟨I1, I2, I3, I4, I5⟩
    right
    have kd : ∀ a, hk g a = hk h a := fun a => by unfold hk; rw [I1]
    have m1 : ¬ nI 4 ≤ nI i := by rw [nI_leI (by omega) (by omega)]; omega
    refine ⟨sq g 14 i (some 41), ?_, I1, I2, I3, fun s hs => ?_, fun a k ha => ?_⟩
    · rw [f_X8_init_L98.eq_2, getQ_of 1 (by rw [kd]; exact k8'), I5 _ _ (by decide), q1, bd_some, aln_eq (by rw [kd]; exact k14'), bd_some, if_neg m1, bd_some, wrQ_eq (by rw [kd]; exact k14') (by rw [kd]; exact k41') hi' (by decide), bd_some, nI_1]
    · rw [hq_put]
      by_cases q : s = i
      · rw [if_pos ⟨rfl, q⟩]
      · rw [if_neg (fun z => q z.2)]
        exact I4 s (by omega)
    · rw [hq_put, if_neg (fun z => ha z.1)]
      exact I5 a k ha
