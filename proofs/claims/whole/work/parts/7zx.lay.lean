/-! The model lays an act onto its shelf. -/
/-- a shelf's rows stay -/
def KX (s : Nat) (h g : Hp) : Prop := (∀ q, q < 7 → hi g 48 (7 * s + q) = hi h 48 (7 * s + q)) ∧ (hi g 49 s = hi h 49 s ∧ hi g 50 s = hi h 50 s ∧ hi g 61 s = hi h 61 s) ∧ (∀ l, l < 11 → ∀ x, 51 ≤ x → x ≤ 54 → hi g x (11 * s + l) = hi h x (11 * s + l)) ∧ ∀ j, j < 900 → hi g 55 (900 * s + j) = hi h 55 (900 * s + j) ∧ hi g 56 (900 * s + j) = hi h 56 (900 * s + j)
theorem KX.trans {s : Nat} {h g k : Hp} (a : KX s h g) (b : KX s g k) : KX s h k := ⟨fun q hq' => (b.1 q hq').trans (a.1 q hq'), ⟨b.2.1.1.trans a.2.1.1, b.2.1.2.1.trans a.2.1.2.1, b.2.1.2.2.trans a.2.1.2.2⟩, fun l hl x h1 h2 => (b.2.2.1 l hl x h1 h2).trans (a.2.2.1 l hl x h1 h2), fun j hj => ⟨(b.2.2.2 j hj).1.trans (a.2.2.2 j hj).1, (b.2.2.2 j hj).2.trans (a.2.2.2 j hj).2⟩⟩
theorem KL.kx {s : Nat} {h g : Hp} (a : KL h g) (hs : s < 4) : KX s h g := ⟨fun q hq' => a.1 _ (by omega), a.2.1 s hs, fun l hl x h1 h2 => by
  rcases (show x = 51 ∨ x = 52 ∨ x = 53 ∨ x = 54 by omega) with rfl | rfl | rfl | rfl
  · exact (a.2.2.1 _ (by omega)).1
  · exact (a.2.2.1 _ (by omega)).2.1
  · exact (a.2.2.1 _ (by omega)).2.2.1
  · exact (a.2.2.1 _ (by omega)).2.2.2, fun j hj => a.2.2.2 _ (by omega)⟩
theorem KX.frm {s : Nat} {h g : Hp} {L C : List Nat} (fr : FrM L C h g) (hL : [48, 49, 50, 51, 52, 53, 54, 55, 56, 61].all (fun x => !L.contains x) = true) : KX s h g := by
  simp at hL
  obtain ⟨p48, p49, p50, p51, p52, p53, p54, p55, p56, p61⟩ := hL
  refine ⟨fun q _ => fr.ei _ p48 (by decide), ⟨fr.ei _ p49 (by decide), fr.ei _ p50 (by decide), fr.ei _ p61 (by decide)⟩, fun l _ x h1 h2 => ?_, fun j _ => ⟨fr.ei _ p55 (by decide), fr.ei _ p56 (by decide)⟩⟩
  rcases (show x = 51 ∨ x = 52 ∨ x = 53 ∨ x = 54 by omega) with rfl | rfl | rfl | rfl
  · exact fr.ei _ p51 (by decide)
  · exact fr.ei _ p52 (by decide)
  · exact fr.ei _ p53 (by decide)
  · exact fr.ei _ p54 (by decide)
theorem CD.kx {s l : Nat} {h g : Hp} {C : List Nat} (c : CD h s l C) (hl : l < 11) (k : KX s h g) : CD g s l C := by
  obtain ⟨fr, c1, c2, c3, c4⟩ := c
  refine ⟨fr, (k.2.2.1 l hl 53 (by decide) (by decide)).trans c1, (k.2.2.1 l hl 54 (by decide) (by decide)).trans c2, c3, fun j hj => ?_⟩
  have e := k.2.2.2 (fr + j) (by omega)
  rw [← Nat.add_assoc] at e
  rw [e.1, e.2]
  exact c4 j hj
theorem MA.kx {s : Nat} {h g : Hp} {A : Ac} (m : MA h s A) (hl : A.2.2.1.length ≤ 10) (k : KX s h g) : MA g s A := by
  obtain ⟨m1, m2, ⟨m3, m4⟩, m5⟩ := m
  refine ⟨fun q hq' => (k.1 q hq').trans (m1 q hq'), k.2.1.1.trans m2, ⟨k.2.1.2.1.trans m3, fun l hl' => ⟨(k.2.2.1 l (by omega) 51 (by decide) (by decide)).trans (m4 l hl').1, (k.2.2.1 l (by omega) 52 (by decide) (by decide)).trans (m4 l hl').2.1, (m4 l hl').2.2.kx (by omega) k⟩⟩, ?_⟩
  unfold MEm at m5 ⊢
  cases hA : A.2.2.2 with
  | none => rw [hA] at m5; exact k.2.1.2.2.trans m5
  | some C => rw [hA] at m5; exact ⟨k.2.1.2.2.trans m5.1, m5.2.kx (by decide) k⟩
section Ly
variable {h : Hp} {s : Nat}
theorem m_lay2 (X : FX h) (hs : s < 4) : ∃ g, f_X9_lay_L2 fu 45 (nI s) 0 h = some g ∧ FrM [48] [] h g ∧ (∀ j, j < 7 → hi g 48 (7 * s + j) = hi h 48 (28 + j)) ∧ ∀ j, ¬ (7 * s ≤ j ∧ j < 7 * s + 7) → hi g 48 j = hi h 48 j := by
  have e7 : ∀ i, (7 : Int32) * nI s + nI i = nI (7 * s + i) := fun i => by
    rw [show (7 : Int32) = nI 7 from rfl, pk_mul, nI_add]
  refine forN (fun n i g => f_X9_lay_L2 n 45 (nI s) i g) 7 (by omega) (fun m g => FrM [48] [] h g ∧ (∀ j, j < m → hi g 48 (7 * s + j) = hi h 48 (28 + j)) ∧ ∀ j, ¬ (7 * s ≤ j ∧ j < 7 * s + 7) → hi g 48 j = hi h 48 j) (fun g => FrM [48] [] h g ∧ (∀ j, j < 7 → hi g 48 (7 * s + j) = hi h 48 (28 + j)) ∧ ∀ j, ¬ (7 * s ≤ j ∧ j < 7 * s + 7) → hi g 48 j = hi h 48 j) ?_ ?_ (i0 := 0) (Nat.zero_le _) ⟨FrM.rfl, fun n hn => absurd hn (Nat.not_lt_zero _), fun _ _ => rfl⟩
  · rintro n g I
    refine ⟨g, ?_, I⟩
    rw [f_X9_lay_L2.eq_2, if_pos (show (7 : Int32) ≤ nI 7 from Int32.le_refl _)]
  · rintro n i g hi' ⟨I1, I2, I3⟩
    right
    have Xg := I1.fx X
    have q1 : ¬ (7 : Int32) ≤ nI i := by rw [show (7 : Int32) = nI 7 from rfl, nI_leI (by omega) (by omega)]; omega
    refine ⟨si g 48 (7 * s + i) (hi g 48 (28 + i)), ?_, I1.trans (FrM.row (by decide) (by decide)), fun m hm => ?_, fun j hj => ?_⟩
    · rw [f_X9_lay_L2.eq_2, if_neg q1, q45_11 Xg, bd_some, bd_some, e28, r48 Xg (by omega), bd_some, e7, w48 Xg (by omega), bd_some, nI_1]
    · by_cases q : m = i
      · subst q
        rw [hi_hit, I3 _ (by omega)]
      · rw [hi_col _ _ (by omega)]
        exact I2 m (by omega)
    · rw [hi_col _ _ (by omega)]
      exact I3 j hj
theorem m_lay72 (X : FX h) (hs : s < 4) : ∃ g, f_X9_lay_L72 fu 45 (nI s) 0 h = some g ∧ FrM [51, 52, 53, 54] [] h g ∧ (∀ j, j < 11 → ∀ x, 51 ≤ x → x ≤ 54 → hi g x (11 * s + j) = hi h x (44 + j)) ∧ ∀ j, ¬ (11 * s ≤ j ∧ j < 11 * s + 11) → ∀ x, 51 ≤ x → x ≤ 54 → hi g x j = hi h x j := by
  have e7 : ∀ i, (11 : Int32) * nI s + nI i = nI (11 * s + i) := fun i => by
    rw [show (11 : Int32) = nI 11 from rfl, pk_mul, nI_add]
  refine forN (fun n i g => f_X9_lay_L72 n 45 (nI s) i g) 11 (by omega) (fun m g => FrM [51, 52, 53, 54] [] h g ∧ (∀ j, j < m → ∀ x, 51 ≤ x → x ≤ 54 → hi g x (11 * s + j) = hi h x (44 + j)) ∧ ∀ j, ¬ (11 * s ≤ j ∧ j < 11 * s + 11) → ∀ x, 51 ≤ x → x ≤ 54 → hi g x j = hi h x j) (fun g => FrM [51, 52, 53, 54] [] h g ∧ (∀ j, j < 11 → ∀ x, 51 ≤ x → x ≤ 54 → hi g x (11 * s + j) = hi h x (44 + j)) ∧ ∀ j, ¬ (11 * s ≤ j ∧ j < 11 * s + 11) → ∀ x, 51 ≤ x → x ≤ 54 → hi g x j = hi h x j) ?_ ?_ (i0 := 0) (Nat.zero_le _) ⟨FrM.rfl, fun n hn => absurd hn (Nat.not_lt_zero _), fun _ _ _ _ _ => rfl⟩
  · rintro n g I
    refine ⟨g, ?_, I⟩
    rw [f_X9_lay_L72.eq_2, if_pos (show (11 : Int32) ≤ nI 11 from Int32.le_refl _)]
  · rintro n i g hi' ⟨I1, I2, I3⟩
    right
    have Xg := I1.fx X
    have q1 : ¬ (11 : Int32) ≤ nI i := by rw [show (11 : Int32) = nI 11 from rfl, nI_leI (by omega) (by omega)]; omega
    obtain ⟨g', eg⟩ : ∃ z, z = si (si (si (si g 51 (11 * s + i) (hi g 51 (44 + i))) 52 (11 * s + i) (hi g 52 (44 + i))) 53 (11 * s + i) (hi g 53 (44 + i))) 54 (11 * s + i) (hi g 54 (44 + i)) := ⟨_, rfl⟩
    have X1 : FX (si g 51 (11 * s + i) (hi g 51 (44 + i))) := FX_of Xg rfl (fun _ _ => rfl)
    have X2 : FX (si (si g 51 (11 * s + i) (hi g 51 (44 + i))) 52 (11 * s + i) (hi g 52 (44 + i))) := FX_of Xg rfl (fun _ _ => rfl)
    have X3 : FX (si (si (si g 51 (11 * s + i) (hi g 51 (44 + i))) 52 (11 * s + i) (hi g 52 (44 + i))) 53 (11 * s + i) (hi g 53 (44 + i))) := FX_of Xg rfl (fun _ _ => rfl)
    have ev : ∀ x j, 51 ≤ x → x ≤ 54 → hi g' x j = if j = 11 * s + i then hi g x (44 + i) else hi g x j := fun x j h1 h2 => by
      rw [eg]
      rcases (show x = 51 ∨ x = 52 ∨ x = 53 ∨ x = 54 by omega) with rfl | rfl | rfl | rfl
      · rw [hi_row _ _ _ (by decide), hi_row _ _ _ (by decide), hi_row _ _ _ (by decide), hi_put]; simp only [true_and]
      · rw [hi_row _ _ _ (by decide), hi_row _ _ _ (by decide), hi_put]; simp only [true_and, hi_row _ _ _ (show 52 ≠ 51 by decide)]
      · rw [hi_row _ _ _ (by decide), hi_put]; simp only [true_and, hi_row _ _ _ (show 53 ≠ 51 by decide), hi_row _ _ _ (show 53 ≠ 52 by decide)]
      · rw [hi_put]; simp only [true_and, hi_row _ _ _ (show 54 ≠ 51 by decide), hi_row _ _ _ (show 54 ≠ 52 by decide), hi_row _ _ _ (show 54 ≠ 53 by decide)]
    refine ⟨g', ?_, ?_, fun m hm x h1 h2 => ?_, fun j hj x h1 h2 => ?_⟩
    · rw [f_X9_lay_L72.eq_2, if_neg q1, q45_14 Xg, bd_some, bd_some, e44, e7, r51 Xg (by omega), bd_some, w51 Xg (by omega), bd_some, q45_15 X1, bd_some, bd_some, r52 X1 (by omega), bd_some, hi_row _ _ _ (show 52 ≠ 51 by decide), w52 X1 (by omega), bd_some, q45_16 X2, bd_some, bd_some, r53 X2 (by omega), bd_some, hi_row _ _ _ (show 53 ≠ 52 by decide), hi_row _ _ _ (show 53 ≠ 51 by decide), w53 X2 (by omega), bd_some, q45_17 X3, bd_some, bd_some, r54 X3 (by omega), bd_some, hi_row _ _ _ (show 54 ≠ 53 by decide), hi_row _ _ _ (show 54 ≠ 52 by decide), hi_row _ _ _ (show 54 ≠ 51 by decide), w54 X3 (by omega), bd_some, nI_1, ← eg]
    · rw [eg]
      exact (((I1.trans (FrM.row (by decide) (by decide))).trans (FrM.row (by decide) (by decide))).trans (FrM.row (by decide) (by decide))).trans (FrM.row (by decide) (by decide))
    · rw [ev x _ h1 h2]
      by_cases q : m = i
      · subst q
        rw [if_pos rfl, I3 _ (by omega) x h1 h2]
      · rw [if_neg (by omega)]
        exact I2 m (by omega) x h1 h2
    · rw [ev x _ h1 h2, if_neg (by omega)]
      exact I3 j hj x h1 h2
theorem m_lay166 (X : FX h) (hs : s < 4) {base : Nat} (hb : base ≤ 900) (e26 : hi h 45 26 = nI base) : ∃ g, f_X9_lay_L166 fu 45 (nI s) 0 h = some g ∧ FrM [55, 56] [] h g ∧ (∀ j, j < base → ∀ x, 55 ≤ x → x ≤ 56 → hi g x (900 * s + j) = hi h x (3600 + j)) ∧ ∀ j, ¬ (900 * s ≤ j ∧ j < 900 * s + 900) → ∀ x, 55 ≤ x → x ≤ 56 → hi g x j = hi h x j := by
  have e7 : ∀ i, (900 : Int32) * nI s + nI i = nI (900 * s + i) := fun i => by
    rw [show (900 : Int32) = nI 900 from rfl, pk_mul, nI_add]
  have e36 : ∀ i, (3600 : Int32) + nI i = nI (3600 + i) := fun i => by rw [show (3600 : Int32) = nI 3600 from rfl, nI_add]
  refine forN (fun n i g => f_X9_lay_L166 n 45 (nI s) i g) base (by omega) (fun m g => FrM [55, 56] [] h g ∧ (∀ j, j < m → ∀ x, 55 ≤ x → x ≤ 56 → hi g x (900 * s + j) = hi h x (3600 + j)) ∧ ∀ j, ¬ (900 * s ≤ j ∧ j < 900 * s + 900) → ∀ x, 55 ≤ x → x ≤ 56 → hi g x j = hi h x j) (fun g => FrM [55, 56] [] h g ∧ (∀ j, j < base → ∀ x, 55 ≤ x → x ≤ 56 → hi g x (900 * s + j) = hi h x (3600 + j)) ∧ ∀ j, ¬ (900 * s ≤ j ∧ j < 900 * s + 900) → ∀ x, 55 ≤ x → x ≤ 56 → hi g x j = hi h x j) ?_ ?_ (i0 := 0) (Nat.zero_le _) ⟨FrM.rfl, fun n hn => absurd hn (Nat.not_lt_zero _), fun _ _ _ _ _ => rfl⟩
  · rintro n g I
    refine ⟨g, ?_, I⟩
    have Xg := I.1.fx X
    rw [f_X9_lay_L166.eq_2, gi45 Xg, bd_some, I.1.ef (by decide), e26, if_pos (Int32.le_refl _)]
  · rintro n i g hi' ⟨I1, I2, I3⟩
    right
    have Xg := I1.fx X
    have q1 : ¬ nI base ≤ nI i := by rw [nI_leI (by omega) (by omega)]; omega
    obtain ⟨g', eg⟩ : ∃ z, z = si (si g 55 (900 * s + i) (hi g 55 (3600 + i))) 56 (900 * s + i) (hi g 56 (3600 + i)) := ⟨_, rfl⟩
    have X1 : FX (si g 55 (900 * s + i) (hi g 55 (3600 + i))) := FX_of Xg rfl (fun _ _ => rfl)
    have ev : ∀ x j, 55 ≤ x → x ≤ 56 → hi g' x j = if j = 900 * s + i then hi g x (3600 + i) else hi g x j := fun x j h1 h2 => by
      rw [eg]
      rcases (show x = 55 ∨ x = 56 by omega) with rfl | rfl
      · rw [hi_row _ _ _ (by decide), hi_put]; simp only [true_and]
      · rw [hi_put]; simp only [true_and, hi_row _ _ _ (show 56 ≠ 55 by decide)]
    refine ⟨g', ?_, ?_, fun m hm x h1 h2 => ?_, fun j hj x h1 h2 => ?_⟩
    · rw [f_X9_lay_L166.eq_2, gi45 Xg, bd_some, I1.ef (by decide), e26, if_neg q1, q45_18 Xg, bd_some, bd_some, e36, e7, r55 Xg (by omega), bd_some, w55 Xg (by omega), bd_some, q45_19 X1, bd_some, bd_some, r56 X1 (by omega), bd_some, hi_row _ _ _ (show 56 ≠ 55 by decide), w56 X1 (by omega), bd_some, nI_1, ← eg]
    · rw [eg]
      exact (I1.trans (FrM.row (by decide) (by decide))).trans (FrM.row (by decide) (by decide))
    · rw [ev x _ h1 h2]
      by_cases q : m = i
      · subst q
        rw [if_pos rfl, I3 _ (by omega) x h1 h2]
      · rw [if_neg (by omega)]
        exact I2 m (by omega) x h1 h2
    · rw [ev x _ h1 h2, if_neg (by omega)]
      exact I3 j hj x h1 h2
theorem m_lay (X : FX h) (hs : s < 4) {base M : Nat} {A : Ac} (hb : base ≤ 900) (mb : MB h base M A) (e49 : hi h 49 4 = A.2.1) (hl : A.2.2.1.length ≤ 10) : ∃ g, f_X9_lay 45 (nI s) h = some g ∧ FrM [48, 49, 50, 51, 52, 53, 54, 55, 56, 61] [] h g ∧ MA g s A ∧ ∀ s', s' < 4 → s' ≠ s → KX s' h g := by
  obtain ⟨b1', b2', b3', b4', b5', b6'⟩ := mb
  obtain ⟨g1, a1, a2, a3, a4⟩ := m_lay2 X hs
  have X1 := a2.fx X
  obtain ⟨g2, e2⟩ : ∃ z, z = si g1 49 s (hi g1 49 4) := ⟨_, rfl⟩
  have fr2 : FrM [49] [] g1 g2 := by rw [e2]; exact FrM.row (by decide) (by decide)
  have X2 := fr2.fx X1
  obtain ⟨g3, e3⟩ : ∃ z, z = si g2 50 s (hi g2 50 4) := ⟨_, rfl⟩
  have fr3 : FrM [50] [] g2 g3 := by rw [e3]; exact FrM.row (by decide) (by decide)
  have X3 := fr3.fx X2
  obtain ⟨g4, e4⟩ : ∃ z, z = si g3 61 s (hi g3 61 4) := ⟨_, rfl⟩
  have fr4 : FrM [61] [] g3 g4 := by rw [e4]; exact FrM.row (by decide) (by decide)
  have X4 := fr4.fx X3
  obtain ⟨g5, c1, c2, c3, c4⟩ := m_lay72 X4 hs
  have X5 := c2.fx X4
  have f15 : ∀ x k, x ∉ [48, 49, 50, 51, 52, 53, 54, 61] → x ≠ 45 → hi g5 x k = hi h x k := fun x k hx h45 => by
    simp at hx
    rw [c2.ei _ (by simp; omega) h45, fr4.ei _ (by simp; omega) h45, fr3.ei _ (by simp; omega) h45, fr2.ei _ (by simp; omega) h45, a2.ei _ (by simp; omega) h45]
  have e26 : hi g5 45 26 = nI base := by rw [c2.ef (by decide), fr4.ef (by decide), fr3.ef (by decide), fr2.ef (by decide), a2.ef (by decide)]; exact b1'
  obtain ⟨g6, d1, d2, d3, d4⟩ := m_lay166 X5 hs hb e26
  have v61 : hi g3 61 4 = hi h 61 4 := by rw [fr3.ei _ (by decide) (by decide), fr2.ei _ (by decide) (by decide), a2.ei _ (by decide) (by decide)]
  have z61 : hi g3 61 4 = 0 ∨ hi g3 61 4 = 1 := by
    rw [v61]
    unfold E4 at b6'
    cases hA : A.2.2.2 with
    | none => rw [hA] at b6'; exact Or.inl b6'
    | some C => rw [hA] at b6'; exact Or.inr b6'.1
  -- what each row holds at the end
  have r48' : ∀ k, hi g6 48 k = hi g1 48 k := fun k => by rw [d2.ei _ (by decide) (by decide), c2.ei _ (by decide) (by decide), fr4.ei _ (by decide) (by decide), fr3.ei _ (by decide) (by decide), fr2.ei _ (by decide) (by decide)]
  have r49' : ∀ k, hi g6 49 k = hi g2 49 k := fun k => by rw [d2.ei _ (by decide) (by decide), c2.ei _ (by decide) (by decide), fr4.ei _ (by decide) (by decide), fr3.ei _ (by decide) (by decide)]
  have r50' : ∀ k, hi g6 50 k = hi g3 50 k := fun k => by rw [d2.ei _ (by decide) (by decide), c2.ei _ (by decide) (by decide), fr4.ei _ (by decide) (by decide)]
  have r61' : ∀ k, hi g6 61 k = hi g4 61 k := fun k => by rw [d2.ei _ (by decide) (by decide), c2.ei _ (by decide) (by decide)]
  have h4x : ∀ x, 51 ≤ x → x ≤ 54 → ∀ k, hi g4 x k = hi h x k := fun x h1 h2 k => by rw [fr4.ei _ (by simp; omega) (by omega), fr3.ei _ (by simp; omega) (by omega), fr2.ei _ (by simp; omega) (by omega), a2.ei _ (by simp; omega) (by omega)]
  have r5x : ∀ x, 51 ≤ x → x ≤ 54 → ∀ k, hi g6 x k = hi g5 x k := fun x h1 h2 k => d2.ei _ (by simp; omega) (by omega)
  have cd : ∀ l C, l < 11 → C4 h base l C → CD g6 s l C := by
    intro l C hl' ⟨fr, q1, q2, q3, q4⟩
    refine ⟨fr, ?_, ?_, by omega, fun j hj => ?_⟩
    · rw [r5x 53 (by decide) (by decide), c3 l hl' 53 (by decide) (by decide), h4x 53 (by decide) (by decide)]; exact q1
    · rw [r5x 54 (by decide) (by decide), c3 l hl' 54 (by decide) (by decide), h4x 54 (by decide) (by decide)]; exact q2
    · have e1 := d3 (fr + j) (by omega) 55 (by decide) (by decide)
      have e2 := d3 (fr + j) (by omega) 56 (by decide) (by decide)
      rw [← Nat.add_assoc, ← Nat.add_assoc, f15 _ _ (by decide) (by decide)] at e1 e2
      rw [e1, e2]
      exact q4 j hj
  refine ⟨g6, ?_, ((((((a2.wk (by decide) (by decide)).trans (fr2.wk (by decide) (by decide))).trans (fr3.wk (by decide) (by decide))).trans (fr4.wk (by decide) (by decide))).trans (c2.wk (by decide) (by decide))).trans (d2.wk (by decide) (by decide))), ⟨fun q hq' => ?_, ?_, ⟨?_, fun l hl' => ⟨?_, ?_, cd l _ (by omega) (b5' l hl').2.2⟩⟩, ?_⟩, fun s' hs' ne => ⟨fun q hq' => ?_, ⟨?_, ?_, ?_⟩, fun l hl' x h1 h2 => ?_, fun j hj => ⟨?_, ?_⟩⟩⟩
  · unfold f_X9_lay
    rw [a1, bd_some, q45_12 X1, bd_some, bd_some, r49l X1, bd_some, w49 X1 (by omega), bd_some, ← e2, q45_13 X2, bd_some, bd_some, r50l X2, bd_some, w50 X2 (by omega), bd_some, ← e3, q45_24 X3, bd_some, bd_some, r61l X3, bd_some, w61 X3 (by omega) z61, bd_some, ← e4, c1, bd_some, d1, bd_some]
  · rw [r48', a3 q hq']; exact b2' q hq'
  · rw [r49', e2, hi_hit, a2.ei _ (by decide) (by decide)]; exact e49
  · rw [r50', e3, hi_hit, fr2.ei _ (by decide) (by decide), a2.ei _ (by decide) (by decide)]; exact b4'
  · rw [r5x 51 (by decide) (by decide), c3 l (by omega) 51 (by decide) (by decide), h4x 51 (by decide) (by decide)]; exact (b5' l hl').1
  · rw [r5x 52 (by decide) (by decide), c3 l (by omega) 52 (by decide) (by decide), h4x 52 (by decide) (by decide)]; exact (b5' l hl').2.1
  · unfold MEm
    unfold E4 at b6'
    have v : hi g6 61 s = hi h 61 4 := by rw [r61', e4, hi_hit, v61]
    cases hA : A.2.2.2 with
    | none => rw [hA] at b6'; exact v.trans b6'
    | some C => rw [hA] at b6'; exact ⟨v.trans b6'.1, cd 10 C (by decide) b6'.2⟩
  · rw [r48', a4 _ (by omega)]
  · rw [r49', e2, hi_col _ _ ne, a2.ei _ (by decide) (by decide)]
  · rw [r50', e3, hi_col _ _ ne, fr2.ei _ (by decide) (by decide), a2.ei _ (by decide) (by decide)]
  · rw [r61', e4, hi_col _ _ ne, fr3.ei _ (by decide) (by decide), fr2.ei _ (by decide) (by decide), a2.ei _ (by decide) (by decide)]
  · rw [r5x x h1 h2, c4 _ (by omega) x h1 h2, h4x x h1 h2]
  · rw [d4 _ (by omega) 55 (by decide) (by decide), f15 _ _ (by decide) (by decide)]
  · rw [d4 _ (by omega) 56 (by decide) (by decide), f15 _ _ (by decide) (by decide)]
end Ly
