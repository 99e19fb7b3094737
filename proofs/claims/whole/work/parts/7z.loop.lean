/-! The law's loop, by its branches. -/
theorem lw_loop (ha : ∀ v, AG (fun h => f_X8_act 8 v h) (fun h => f_X9_act 45 v h)) {h : Hp} {L : Nat} (I : INV h) (e : hk h 2 = some (10, L)) (hL : L ≤ 3072) : ∃ h', f_L_law_L18 513 (some 2) (some 8) (some 45) 0 h = some h' := by
  have key : ∃ h', f_L_law_L18 513 (some 2) (some 8) (some 45) (nI (6 * 0)) h = some h' ∧ True := by
    refine whl (fun n (p : Nat × Hp) => f_L_law_L18 n (some 2) (some 8) (some 45) (nI (6 * p.1)) p.2) (fun p => 512 - p.1) (fun p => p.1 ≤ 512 ∧ INV p.2 ∧ hk p.2 2 = some (10, L)) (fun _ => True) ?_ 513 (0, h) ⟨by simp, I, e⟩ (by simp)
    rintro n ⟨m, g⟩ ⟨hm, J, eg⟩
    simp only at hm J eg
    have X : FX g := by
      obtain ⟨_, _, _, _, _, _, _, _, _, q⟩ := J
      exact q.1
    by_cases c : 6 * m + 6 ≤ L
    · right
      have fin : (∃ h', f_L_law_L18 (n + 1) (some 2) (some 8) (some 45) (nI (6 * m)) g = f_L_law_L18 n (some 2) (some 8) (some 45) (nI (6 * m + 6)) h' ∧ INV h' ∧ KS g h') → ∃ s' : Nat × Hp, f_L_law_L18 (n + 1) (some 2) (some 8) (some 45) (nI (6 * m)) g = f_L_law_L18 n (some 2) (some 8) (some 45) (nI (6 * s'.1)) s'.2 ∧ (s'.1 ≤ 512 ∧ INV s'.2 ∧ hk s'.2 2 = some (10, L)) ∧ 512 - s'.1 < 512 - m := by
        rintro ⟨h', a1, a2, a3⟩
        exact ⟨(m + 1, h'), a1, ⟨by simp only; omega, a2, a3.2.1.trans eg⟩, by simp only; omega⟩
      refine fin ?_
      obtain ⟨j, hj, ej⟩ := pk_andE (hi g 2 (6 * m)) (m := 31) 5 (by decide)
      by_cases j28 : 28 < j
      · have n6 : nI (6 * m) + 6 = nI (6 * m + 6) := nI_add _ 6
        refine ⟨g, ?_, J, X, rfl, fun _ => rfl⟩
        rw [f_L_law_L18.eq_2, aln_eq eg, bd_some, if_neg (not_end c hL), rdS eg hL (by omega), bd_some, ej, if_pos (by rw [nI_toInt (by omega)]; omega), n6]
      · rcases (show j = 0 ∨ j = 1 ∨ j = 2 ∨ j = 3 ∨ j = 4 ∨ j = 5 ∨ j = 6 ∨ j = 7 ∨ j = 8 ∨ j = 9 ∨ j = 10 ∨ j = 11 ∨ j = 12 ∨ j = 13 ∨ j = 14 ∨ j = 15 ∨ j = 16 ∨ j = 17 ∨ j = 18 ∨ j = 19 ∨ j = 20 ∨ j = 21 ∨ j = 22 ∨ j = 23 ∨ j = 24 ∨ j = 25 ∨ j = 26 ∨ j = 27 ∨ j = 28 by omega) with rfl | rfl | rfl | rfl | rfl | rfl | rfl | rfl | rfl | rfl | rfl | rfl | rfl | rfl | rfl | rfl | rfl | rfl | rfl | rfl | rfl | rfl | rfl | rfl | rfl | rfl | rfl | rfl | rfl
        · exact lw_feed J X eg c hL ej n
        · exact lw_end J X eg c hL ej n
        · exact lw_act ha J X eg c hL ej n
        · exact lw_fault J X eg c hL ej n
        · exact lw_worker J X eg c hL ej n
        · exact lw_pay J X eg c hL ej n
        · exact lw_lost J X eg c hL ej n
        · exact lw_bank J X eg c hL ej n
        · exact lw_holiday J X eg c hL ej n
        · exact lw_settle J X eg c hL ej n
        · exact lw_claim J X eg c hL ej n
        · exact lw_untell J X eg c hL ej n
        · exact lw_later J X eg c hL ej n
        · exact lw_span J X eg c hL ej n
        · exact lw_quarrel J X eg c hL ej n
        · exact lw_counted J X eg c hL ej n
        · exact lw_empty J X eg c hL ej n
        · exact lw_average J X eg c hL ej n
        · exact lw_weeks J X eg c hL ej n
        · exact lw_owed J X eg c hL ej n
        · exact lw_chain J X eg c hL ej n
        · exact lw_link J X eg c hL ej n
        · exact lw_due J X eg c hL ej n
        · exact lw_payout J X eg c hL ej n
        · exact lw_quarrels J X eg c hL ej n
        · exact lw_marks J X eg c hL ej n
        · exact lw_tests J X eg c hL ej n
        · exact lw_settles J X eg c hL ej n
        · exact lw_about J X eg c hL ej n
    · left
      refine ⟨g, ?_, trivial⟩
      simp only
      have st : nI L - 6 < nI (6 * m) := by
        rw [Int32.lt_iff_toInt_lt, show (6 : Int32) = nI 6 from rfl, pk_sub_toInt (by omega) (by omega), nI_toInt (by omega)]
        omega
      rw [f_L_law_L18.eq_2, aln_eq eg, bd_some, if_pos st]
  obtain ⟨h', a, -⟩ := key
  exact ⟨h', a⟩
