/-! Act agrees. -/
section Aa
variable {h g : Hp} {kw nf : Nat} {F : Nat → Nat → Int32} {A A' : Nat → Ac} {pls tms : Nat → Int32} {tme : Nat} {wa fa : Nat → Nat}
theorem CX.ca {b : Nat} {a : Ac} (c : CX g b a) (e5 : hi g b 5 = a.2.1) (hb : 88 ≤ b) (hw : ∀ w, w < kw → wa w + 4 < b) : CA (PW kw wa) g b a := by
  have P : ∀ x, b ≤ x → PW kw wa x := fun x hx => ⟨Or.inr (by omega), fun w hw' => Or.inr (by have := hw w hw'; omega)⟩
  obtain ⟨k0, k1, k3, r0, r4, c1, c2, c3, c4⟩ := c
  refine ⟨b + 1, b + 3, P _ (by omega), P _ (by omega), P _ (by omega), k0, r0, k1, c1, r4, k3, c2, e5, fun l hl => ?_, ?_⟩
  · obtain ⟨q1, cb, (p1 : b + 3 < q1), p2, p3, p4, p5, p6, (p7 : b + 3 < cb), p8⟩ := c3 l hl
    exact ⟨q1, cb, P _ (by omega), p2, p3, p4, p5, p6, P _ (by omega), p8⟩
  · cases hA : a.2.2.2 with
    | none => rw [hA] at c4; exact c4
    | some C =>
      rw [hA] at c4
      obtain ⟨q1, eb, q2, (q3 : b + 3 < eb), q4⟩ := c4
      exact ⟨q1, eb, q2, P _ (by omega), q4⟩
theorem STC.wlt (T : STC h kw nf F A pls tms tme wa fa) {w : Nat} (hw : w < kw) : wa w + 4 < h.1.length := lt_of_hk (T.2.2.2.1 w hw).2.1.2.2.2.2.2.1
theorem STC.act (T : STC h kw nf F A pls tms tme wa fa) {s : Nat} (K : ∀ x y, hk h x = some y → hk g x = some y) (E : ∀ a k, a < h.1.length → a < 45 ∨ 88 ≤ a → a ≠ 9 → a ≠ 11 → a ≠ 12 → a ≠ 13 → hi g a k = hi h a k) (Q : ∀ a k, a < h.1.length → (a, k) ≠ (14, s) → hq g a k = hq h a k) (X : FX h) (hA : ∀ t, t ≠ s → A' t = A t) (hs : ∃ b, hq g 14 s = some b ∧ CA (PW kw wa) g b (A' s)) : STC g kw nf F A' pls tms tme wa fa := by
  have n88 := X.len
  have T' := T
  obtain ⟨T1, T2, T3, T4, T5, T6, T7, T8⟩ := T
  have ne : ∀ a k, a ≠ 14 → (a, k) ≠ (14, s) := fun a k ha z => ha (congrArg Prod.fst z)
  refine ⟨by rw [E _ _ (by omega) (by omega) (by decide) (by decide) (by decide) (by decide)]; exact T1, by rw [E _ _ (by omega) (by omega) (by decide) (by decide) (by decide) (by decide)]; exact T2, by rw [E _ _ (by omega) (by omega) (by decide) (by decide) (by decide) (by decide)]; exact T3, fun w hw => ?_, fun f hf => ?_, fun f hf => by rw [Q _ _ (by omega) (ne _ _ (by decide))]; exact T6 f hf, fun t ht => ?_, T8⟩
  · obtain ⟨w1, w2, w3, w4, w5, w6, w7⟩ := T4 w hw
    have g1 := T'.ge hw
    have g2 := T'.wlt hw
    refine ⟨by rw [Q _ _ (by omega) (ne _ _ (by decide))]; exact w1, ?_, by rw [E _ _ (by omega) (by omega) (by omega) (by omega) (by omega) (by omega)]; exact w3, by rw [E _ _ (by omega) (by omega) (by omega) (by omega) (by omega) (by omega)]; exact w4, by rw [E _ _ (by omega) (by omega) (by omega) (by omega) (by omega) (by omega)]; exact w5, by rw [Q _ _ (by omega) (ne _ _ (by omega))]; exact w6, by rw [Q _ _ (by omega) (ne _ _ (by omega))]; exact w7⟩
    unfold WX at w2 ⊢
    obtain ⟨x0, x1, x2, x3, x4, x5, x6⟩ := w2
    rw [Q _ _ (by omega) (ne _ _ (by omega)), Q _ _ (by omega) (ne _ _ (by omega)), Q _ _ (by omega) (ne _ _ (by omega)), Q _ _ (by omega) (ne _ _ (by omega))]
    exact ⟨x0, K _ _ x1, K _ _ x2, K _ _ x3, K _ _ x4, K _ _ x5, x6⟩
  · obtain ⟨c0, c1, c2⟩ := T5 f hf
    have lf := lt_of_hk c1
    have e : ∀ k, hi g (fa f) k = hi h (fa f) k := fun k => E _ _ lf (by omega) (by omega) (by omega) (by omega) (by omega)
    rw [Q _ _ lf (ne _ _ (by omega)), e, e, e, e, e, e, e, e]
    exact ⟨c0, K _ _ c1, c2⟩
  · by_cases q : t = s
    · subst q
      exact hs
    · obtain ⟨b, b1', b2'⟩ := T7 t ht
      refine ⟨b, by rw [Q _ _ (by omega) (fun z => q (congrArg Prod.snd z))]; exact b1', ?_⟩
      rw [hA t q]
      refine b2'.kp2 K (fun a y _ p => p) (fun a y ea p _ => ?_)
      have la := lt_of_hk ea
      have o := p.1
      unfold OKA at o
      exact ⟨fun k => E _ _ la (by omega) (by omega) (by omega) (by omega) (by omega), fun k => Q _ _ la (ne _ _ (by omega))⟩
/-- the class's call, then the model's -/
theorem INVp.act {g' : Hp} {s : Nat} (I : INVp h kw nf F A pls tms tme wa fa) (gr : ∃ t, g.1 = h.1 ++ t) (Xg : FX g) (E : ∀ a k, a < h.1.length → a ≠ 9 → a ≠ 11 → a ≠ 12 → a ≠ 13 → hi g a k = hi h a k) (Q : ∀ a k, a < h.1.length → (a, k) ≠ (14, s) → hq g a k = hq h a k) (e1 : hi g 9 1 = 0) (fr : FrM AM AB g g') (e2 : hi g' 45 2 = 0) (e4 : hi g 9 12 = hi g' 45 4) (e5 : hi g 9 13 = hi g' 45 5) (hA : ∀ t, t ≠ s → A' t = A t) (hs : ∃ b, hq g 14 s = some b ∧ CA (PW kw wa) g b (A' s)) (hm : ∀ t, t < 4 → MA g' t (A' t) ∧ AOK (A' t)) : INVp g' kw nf F A' pls tms tme wa fa ∧ KS h g ∧ KS h g' := by
  obtain ⟨X, M, T, c, tz, tl0, tl1, tp⟩ := I
  have n88 := X.len
  have lo : ∀ a k, a < 45 ∨ 88 ≤ a → hi g' a k = hi g a k := fun a k ha => fr.ei _ (by unfold AM; simp; omega) (by omega)
  have kd : ∀ x, hk g' x = hk g x := fun x => by unfold hk; rw [fr.1]
  have k1 : KS h g := ⟨Xg, by
    have : hk h 2 ≠ none := by
      intro z
      have := List.getElem?_eq_none_iff.mp z
      omega
    cases hh : hk h 2 with
    | none => exact absurd hh this
    | some y => exact gr_hk gr hh, fun k => E _ _ (by omega) (by decide) (by decide) (by decide) (by decide)⟩
  have T2 : STC g kw nf F A' pls tms tme wa fa := T.act (fun x y e => gr_hk gr e) (fun a k h1 _ h2 h3 h4 h5 => E a k h1 h2 h3 h4 h5) Q X hA hs
  have fx : ∀ x k, x ∉ AM → 45 < x → x < 88 → hi g' x k = hi h x k := fun x k hx h1 h2 => (fr.ei _ hx (by omega)).trans (E _ _ (by omega) (by omega) (by omega) (by omega) (by omega))
  have ff : ∀ k, k ∉ AB → hi g' 45 k = hi h 45 k := fun k hk' => (fr.ef hk').trans (E _ _ (by omega) (by decide) (by decide) (by decide) (by decide))
  refine ⟨⟨fr.fx Xg, ?_, ?_, ?_, ?_, ?_, ?_, 0, by decide, ?_, ?_, ?_, ?_, ?_⟩, k1, k1.trans (KS.frM Xg fr (by decide))⟩
  · obtain ⟨M1, M2, M3, M4, M5, M6, M7, M8, M9, M10, M11, M12, M13⟩ := M
    refine ⟨(ff _ (by decide)).trans M1, M2, (ff _ (by decide)).trans M3, M4, ?_, M6, hm, ?_, ?_, M10, fun w hw => (fx _ _ (by decide) (by decide) (by decide)).trans (M11 w hw), (ff _ (by decide)).trans M12, M13⟩
    · rw [← M5]
      funext j f
      by_cases q : j < 7
      · rw [vF_at _ f q, vF_at _ f q, fx _ _ (by unfold AM; simp; omega) (by omega) (by omega)]
      · unfold vF
        rw [if_neg q, if_neg q]
    · rw [← M8]
      funext k
      exact fx _ _ (by decide) (by decide) (by decide)
    · rw [← M9]
      funext k
      exact fx _ _ (by decide) (by decide) (by decide)
  · exact T2.same fr.1 fr.2.1 lo
  · intro w hw
    have g1 := T.ge hw
    have g2 := T.wlt hw
    have e : ∀ a k, wa w ≤ a → a ≤ wa w + 4 → hi g' a k = hi h a k := fun a k h1 h2 => (lo _ _ (by omega)).trans (E _ _ (by omega) (by omega) (by omega) (by omega) (by omega))
    rw [e _ _ (by omega) (by omega), e _ _ (by omega) (by omega)]
    rcases c w hw with q | q
    · exact Or.inl q
    · exact Or.inr ⟨q.1, q.2.same (fun b j hb => e _ _ (by omega) (by omega))⟩
  · intro w hw h40
    rw [ff _ (by decide)] at h40
    rw [fx _ _ (by decide) (by decide) (by decide)]
    exact tz w hw h40
  · intro k
    rw [lo _ _ (by decide), E _ _ (by omega) (by decide) (by decide) (by decide) (by decide)]
    exact tl0 k
  · intro k
    rw [lo _ _ (by decide), E _ _ (by omega) (by decide) (by decide) (by decide) (by decide)]
    exact tl1 k
  · rw [lo _ _ (by decide)]; exact e1
  · exact e2
  · intro j hj; exact absurd hj (Nat.not_lt_zero _)
  · rw [lo _ _ (by decide)]; exact e4
  · rw [lo _ _ (by decide)]; exact e5
end Aa
theorem ag_act (v : Int32) : AG (fun h => f_X8_act 8 v h) (fun h => f_X9_act 45 v h) := by
  rintro h ⟨kw, nf, F, A, pls, tms, tme, wa, fa, I⟩
  have I' := I
  obtain ⟨X, M, T, c, tz, tl0, tl1, ts, t9, e91, e452, etp, -⟩ := I
  have n88 := X.len
  rcases pk_ix v (n := 4) (by omega) with q | q | ⟨s, hs, rfl⟩
  · refine AG_no I' (x := -2) ?_ ?_
    · show f_X8_act 8 v h = _
      unfold f_X8_act
      rw [if_pos q]
    · show f_X9_act 45 v h = _
      unfold f_X9_act f_X9_isShelf
      rw [if_pos q, b1_some, zok0, bd_some, b1_some, if_pos rfl]
  · have n0' : ¬ v < 0 := fun z => by
      have h1 := Int32.lt_iff_toInt_lt.mp z
      have h2 := Int32.le_iff_toInt_le.mp q
      rw [nI_toInt (by omega)] at h2
      rw [show (0 : Int32).toInt = 0 from rfl] at h1
      omega
    have q' : (4 : Int32) ≤ v := q
    have q'' : ¬ v < nI 4 := fun z => by
      have h1 := Int32.lt_iff_toInt_lt.mp z
      have h2 := Int32.le_iff_toInt_le.mp q
      omega
    refine AG_no I' (x := -2) ?_ ?_
    · show f_X8_act 8 v h = _
      unfold f_X8_act
      rw [if_neg n0', q8_1 X, bd_some, n14 X, bd_some, if_neg q'']
    · show f_X9_act 45 v h = _
      unfold f_X9_act f_X9_isShelf
      rw [if_neg n0', if_pos q', b1_some, zok0, bd_some, b1_some, if_pos rfl]
  · have sh : ∀ g, f_X9_isShelf (nI s) g = some (1, g) := fun g => by
      have m0 : ¬ nI s < 0 := nI_pos (by omega)
      have m1' : ¬ (4 : Int32) ≤ nI s := fun z => by
        have := (nI_leI (a := 4) (by decide) (by omega)).mp z
        omega
      unfold f_X9_isShelf
      rw [if_neg m0, if_neg m1', b1_some]
      rfl
    -- the bytes
    obtain ⟨B, hB⟩ : ∃ B : Nat → Nat, ∀ k, B k < 256 ∧ hi h 10 k &&& 255 = nI (B k) := ⟨fun k => Classical.choose (and255 (hi h 10 k)), fun k => Classical.choose_spec (and255 (hi h 10 k))⟩
    have by10 : BY h 10 B ts := ⟨t9, fun k _ => ⟨(hB k).2, (hB k).1⟩⟩
    obtain ⟨N, g, gt, gr, Xg, E, Q, z1, ca⟩ := c_act X by10 e91 tl0 tl1 hs
    have by46 : BY g 46 B ts := ⟨t9, fun k hk' => by
      rw [E _ _ (by omega) (by decide) (by decide) (by decide) (by decide), ← etp k hk']
      exact ⟨(hB k).2, (hB k).1⟩⟩
    obtain ⟨g', fr, e2, ma⟩ := m_act gt Xg by46 (by rw [E _ _ (by omega) (by decide) (by decide) (by decide) (by decide)]; exact e452) hs (sh g)
    have kx : ∀ t, KX t h g := fun t => ⟨fun q _ => E _ _ (by omega) (by decide) (by decide) (by decide) (by decide), ⟨E _ _ (by omega) (by decide) (by decide) (by decide) (by decide), E _ _ (by omega) (by decide) (by decide) (by decide) (by decide), E _ _ (by omega) (by decide) (by decide) (by decide) (by decide)⟩, fun l _ x h1 h2 => E _ _ (by omega) (by omega) (by omega) (by omega) (by omega), fun j _ => ⟨E _ _ (by omega) (by decide) (by decide) (by decide) (by decide), E _ _ (by omega) (by decide) (by decide) (by decide) (by decide)⟩⟩
    cases hr : gTp (tT B ts) 901 (0, 0, 0, A0) with
    | inl e =>
      rw [hr] at ca ma
      obtain ⟨c1, c2, c3⟩ := ca
      obtain ⟨m1, m2, m3⟩ := ma
      obtain ⟨b, b1', b2'⟩ := T.2.2.2.2.2.2.1 s hs
      have hs' : ∃ b, hq g 14 s = some b ∧ CA (PW kw wa) g b (A s) := by
        refine ⟨b, c3.trans b1', b2'.kp2 (fun x y q => gr_hk gr q) (fun a y _ p => p) (fun a y ea p _ => ?_)⟩
        have la := lt_of_hk ea
        have o := p.1
        unfold OKA at o
        exact ⟨fun k => E _ _ la (by omega) (by omega) (by omega) (by omega), fun k => Q _ _ la (fun z => by have := congrArg Prod.fst z; simp at this; omega)⟩
      obtain ⟨J, k1, k2⟩ := I'.act (A' := A) gr Xg E Q z1 fr e2 (by rw [c2.2.1, m2.2.1]) (by rw [c2.2.2.1, m2.2.2.1]) (fun _ _ => rfl) hs' (fun t ht => ⟨(M.2.2.2.2.2.2.1 t ht).1.kx (M.2.2.2.2.2.2.1 t ht).2.1.1 ((kx t).trans (m3 t ht)), (M.2.2.2.2.2.2.1 t ht).2⟩)
      exact ⟨-1, g, g', c1, m1, ⟨kw, nf, F, A, pls, tms, tme, wa, fa, J⟩, k1, k2⟩
    | inr z =>
      rw [hr] at ca ma
      obtain ⟨c1, c2, c3, c4, c5, c6, c7⟩ := ca
      obtain ⟨m1, m2, m3, m4, m5, m6⟩ := ma
      have hs' : ∃ b, hq g 14 s = some b ∧ CA (PW kw wa) g b ((fun t => if t = s then z.2.2.2 else A t) s) := ⟨_, c5, by
        show CA _ g _ (if s = s then z.2.2.2 else A s)
        rw [if_pos rfl]
        exact c6.ca c7 n88 (fun w hw => T.wlt hw)⟩
      obtain ⟨J, k1, k2⟩ := I'.act (A' := fun t => if t = s then z.2.2.2 else A t) gr Xg E Q z1 fr e2 (by rw [c3, m2]) (by rw [c4, m3]) (fun t ht => if_neg ht) hs' (fun t ht => by
        by_cases q : t = s
        · subst q
          show MA g' t (if t = t then _ else _) ∧ AOK (if t = t then _ else _)
          rw [if_pos rfl]
          exact ⟨m4, c2.2.2.2.1⟩
        · show MA g' t (if t = s then _ else _) ∧ AOK (if t = s then _ else _)
          rw [if_neg q]
          exact ⟨(M.2.2.2.2.2.2.1 t ht).1.kx (M.2.2.2.2.2.2.1 t ht).2.1.1 ((kx t).trans (m6 t ht q)), (M.2.2.2.2.2.2.1 t ht).2⟩)
      exact ⟨_, g, g', c1, m1, ⟨kw, nf, F, _, pls, tms, tme, wa, fa, J⟩, k1, k2⟩
