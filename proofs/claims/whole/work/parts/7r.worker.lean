/-! A new worker. -/
section Hr
variable {h g : Hp} {kw nf : Nat} {F : Nat → Nat → Int32} {A : Nat → Ac} {pls tms : Nat → Int32} {tme : Nat} {wa fa : Nat → Nat}
theorem BCn_zero {wk : Int32} : ∀ n, (∀ f, f < n → F 1 f ≠ wk) → BCn F wk n = 0
  | 0, _ => rfl
  | n + 1, hf => by
    show (if F 0 n = 2 ∧ F 1 n = wk then BCn F wk n + 1 else BCn F wk n) = 0
    rw [if_neg (fun z => hf n (by omega) z.2)]
    exact BCn_zero n (fun f h => hf f (by omega))
theorem lx_zero {wk : Int32} : ∀ n, (∀ f, f < n → F 1 f ≠ wk) → lx F wk n = none
  | 0, _ => rfl
  | n + 1, hf => by
    show (if F 1 n = wk then some n else lx F wk n) = none
    rw [if_neg (hf n (by omega))]
    exact lx_zero n (fun f h => hf f (by omega))
theorem INVp.hire (I : INVp h kw nf F A pls tms tme wa fa) (k10 : kw < 10) {n : Nat} (en : n = h.1.length) {x y : Int32} (hy : y = 0 ∨ y = 1) (Xg : FX g) (K : ∀ a z, hk h a = some z → hk g a = some z)
    (E : ∀ a k, a < n → ¬ (a = 8 ∧ k = 3) → ¬ (a = 45 ∧ k = 40) → ¬ (a = 62 ∧ k = kw) → ¬ (a = 71 ∧ k = kw) → hi g a k = hi h a k) (Q : ∀ a k, a < n → ¬ (a = 15 ∧ k = kw) → hq g a k = hq h a k)
    (e83 : hi g 8 3 = nI (kw + 1)) (e40 : hi g 45 40 = nI (kw + 1)) (e62 : hi g 62 kw = x) (e71 : hi g 71 kw = y) (q15 : hq g 15 kw = some n) (W : WX g n) (n0' : hi g n 0 = x) (n1' : hi g n 1 = y) (n4' : hi g n 4 = 0) (n5' : hi g n 5 = 0) (z2 : hq g n 2 = none) (z3 : hq g n 3 = none) :
    INVp g (kw + 1) nf F A (fun w => if w = kw then x else pls w) (fun w => if w = kw then y else tms w) tme (fun w => if w = kw then n else wa w) fa := by
  obtain ⟨X, M, T, c, tz, tp⟩ := I
  have n88 : 88 ≤ n := by rw [en]; exact X.len
  have hnf := M.2.2.2.1
  have R := M.2.2.2.2.2.1
  have lt : ∀ a y, hk h a = some y → a < n := fun a y e => by
    rw [en]
    rcases Nat.lt_or_ge a h.1.length with q | q
    · exact q
    · have : hk h a = none := List.getElem?_eq_none q
      rw [this] at e
      cases e
  have aw : ∀ w', w' < kw → wa w' + 4 < n := fun w' hw' => lt _ _ (T.2.2.2.1 w' hw').2.1.2.2.2.2.2.1
  have af : ∀ f, f < nf → fa f < n := fun f hf => lt _ _ (T.2.2.2.2.1 f hf).2.1
  have no : ∀ f, f < nf → F 1 f ≠ nI kw := fun f hf z => by
    obtain ⟨w, hw, ew⟩ := fact_worker R hf
    rw [ew, nI_eq (by omega) (by omega)] at z
    omega
  have b0 := BCn_zero nf no
  have z63 : hi h 63 kw = 0 := tz kw k10 (by rw [M.1]; exact Int32.le_refl _)
  refine ⟨Xg, ?_, ?_, ?_, ?_, ?_⟩
  · obtain ⟨T1, T2, T3, T4, T5, T6, T7, T8, T9, T10, T11, T12, T13⟩ := M
    refine ⟨e40, by omega, by rw [E _ _ (by omega) (by omega) (by omega) (by omega) (by omega)]; exact T3, T4, ?_, ⟨fun f hf => ?_, fun w hw => ?_⟩, fun s hs => ⟨(T7 s hs).1.rows (fun a k h1 h2 => E _ _ (by omega) (by omega) (by omega) ?_ (by omega)), (T7 s hs).2⟩, ?_, ?_, fun w hw => ?_, fun w hw => ?_, by rw [E _ _ (by omega) (by omega) (by omega) (by omega) (by omega)]; exact T12, T13⟩
    · rw [← T5]
      funext j f
      by_cases hj : j < 7
      · rw [vF_at _ _ hj, vF_at _ _ hj, E _ _ (by omega) (by omega) (by omega) (by omega) (by omega)]
      · unfold vF
        rw [if_neg hj, if_neg hj]
    · obtain ⟨⟨w, hw, ew⟩, r⟩ := T6.1 f hf
      exact ⟨⟨w, by omega, ew⟩, r⟩
    · by_cases q : w = kw
      · rw [q, b0]; omega
      · exact T6.2 w (by omega)
    · omega
    · funext k
      by_cases q : k = kw
      · rw [q, if_pos rfl]; exact e62
      · rw [if_neg q, ← T8]
        exact E _ _ (by omega) (by omega) (by omega) (by omega) (by omega)
    · funext k
      by_cases q : k = kw
      · rw [q, if_pos rfl]; exact e71
      · rw [if_neg q, ← T9]
        exact E _ _ (by omega) (by omega) (by omega) (by omega) (by omega)
    · by_cases q : w = kw
      · simp only [if_pos q]; exact hy
      · simp only [if_neg q]; exact T10 w (by omega)
    · by_cases q : w = kw
      · rw [q, b0, E _ _ (by omega) (by omega) (by omega) (by omega) (by omega), z63]
        rfl
      · rw [E _ _ (by omega) (by omega) (by omega) (by omega) (by omega)]
        exact T11 w (by omega)
  · have T' := T
    obtain ⟨T1, T2, T3, T4, T5, T6, T7, T8⟩ := T
    refine ⟨e83, by rw [E _ _ (by omega) (by omega) (by omega) (by omega) (by omega)]; exact T2, by rw [E _ _ (by omega) (by omega) (by omega) (by omega) (by omega)]; exact T3, fun w hw => ?_, fun f hf => ?_, fun f hf => by rw [Q _ _ (by omega) (by omega)]; exact T6 f hf, fun s hs => ?_, fun w w' h1 h2 => ?_⟩
    · by_cases q : w = kw
      · subst q
        unfold WKR
        simp only [if_pos]
        rw [b0, lx_zero nf no, (nx_none nf 0 (by omega)).mpr (fun f _ hf => no f hf)]
        exact ⟨q15, W, n0', n1', n4', z2, z3⟩
      · have hw' : w < kw := by omega
        obtain ⟨w1, w2, w3, w4, w5, w6, w7⟩ := T4 w hw'
        have g1 := T'.ge hw'
        have g2 := aw w hw'
        unfold WKR
        simp only [if_neg q]
        refine ⟨by rw [Q _ _ (by omega) (by omega)]; exact w1, ?_, by rw [E _ _ (by omega) (by omega) (by omega) (by omega) (by omega)]; exact w3, by rw [E _ _ (by omega) (by omega) (by omega) (by omega) (by omega)]; exact w4, by rw [E _ _ (by omega) (by omega) (by omega) (by omega) (by omega)]; exact w5, by rw [Q _ _ (by omega) (by omega)]; exact w6, by rw [Q _ _ (by omega) (by omega)]; exact w7⟩
        unfold WX at w2 ⊢
        obtain ⟨y0, y1, y2, y3, y4, y5, y6⟩ := w2
        rw [Q _ _ (by omega) (by omega), Q _ _ (by omega) (by omega), Q _ _ (by omega) (by omega), Q _ _ (by omega) (by omega)]
        exact ⟨y0, K _ _ y1, K _ _ y2, K _ _ y3, K _ _ y4, K _ _ y5, y6⟩
    · obtain ⟨c0, c1, c2⟩ := T5 f hf
      have g2 := af f hf
      have EE : ∀ k, hi g (fa f) k = hi h (fa f) k := fun k => E _ _ (by omega) (by omega) (by omega) (by omega) (by omega)
      rw [EE, EE, EE, EE, EE, EE, EE, EE, Q _ _ (by omega) (by omega)]
      exact ⟨c0, K _ _ c1, c2⟩
    · obtain ⟨b, b1', b2'⟩ := T7 s hs
      refine ⟨b, by rw [Q _ _ (by omega) (by omega)]; exact b1', b2'.kp2 K (fun a y hy' hx => ⟨hx.1, fun w hw => ?_⟩) (fun a y hy' hx _ => ?_)⟩
      · have := lt a y hy'
        by_cases q : w = kw
        · simp only [if_pos q]; omega
        · simp only [if_neg q]; exact hx.2 w (by omega)
      · have := lt a y hy'
        have o := hx.1
        unfold OKA at o
        exact ⟨fun k => E _ _ (by omega) (by omega) (by omega) (by omega) (by omega), fun k => Q _ _ (by omega) (by omega)⟩
    · simp only [if_neg (show ¬ w = kw by omega)]
      by_cases q : w' = kw
      · simp only [if_pos q]
        exact aw w (by omega)
      · simp only [if_neg q]
        exact T8 w w' h1 (by omega)
  · intro w hw
    by_cases q : w = kw
    · simp only [if_pos q]
      exact Or.inl n5'
    · simp only [if_neg q]
      have hw' : w < kw := by omega
      have g1 := T.ge hw'
      have g2 := aw w hw'
      rw [E _ _ (by omega) (by omega) (by omega) (by omega) (by omega), E _ _ (by omega) (by omega) (by omega) (by omega) (by omega)]
      rcases c w hw' with z | z
      · exact Or.inl z
      · exact Or.inr ⟨z.1, z.2.same (fun b j hb => E _ _ (by omega) (by omega) (by omega) (by omega) (by omega))⟩
  · intro w hw q
    rw [e40, nI_leI (by omega) (by omega)] at q
    rw [E _ _ (by omega) (by omega) (by omega) (by omega) (by omega)]
    exact tz w hw (by rw [M.1, nI_leI (by omega) (by omega)]; omega)
  · exact tp.same (fun a k ha => E _ _ (by omega) (by omega) (by omega) (by omega) (by omega))
end Hr
