/-! The law's start; the law. -/
section Pz
variable {L : Nat} {xs : Nat → Int32}
theorem sg0 : SG L xs 8 [] [] (hp0 L xs) := ⟨rfl, by decide, fun p hp => (by cases hp), fun a k h1 h2 => (by omega), fun p hp => (by cases hp), fun _ _ _ => rfl⟩
theorem qF_ne : ∀ p ∈ qF.drop 4, p.1 ≠ 14 := by decide
theorem rfT_qG : ∀ p ∈ rfT, p ∈ qG := by decide
theorem SG.fx {h : Hp} (hL : L ≤ 3072) (s : SG L xs 88 qG vG h) : FX h := ⟨⟨L, hL, [], by rw [s.1, List.append_nil, List.take_of_length_le (by rw [kd0_len]; exact Nat.le_refl _)]⟩, fun p hp => (s.2.2.1 p (rfT_qG p hp)).2⟩
/-- both constructors -/
theorem st_all (hL : L ≤ 3072) : ∃ h1 h2, f_X8_init 8 (nw (hp0 L xs) 7 0) = some h1 ∧ h1.1.length = 45 ∧ f_X9_init 45 (nw h1 8 0) = some h2 ∧ INV h2 ∧ hk h2 2 = some (10, L) := by
  have s1 : SG L xs 9 [] [] (nw (hp0 L xs) 7 0) := sg0.nw (by decide) rfl
  obtain ⟨s8, a8⟩ := sg_x8 s1
  have k8 : hk (nw (hp0 L xs) 7 0) 8 = some (7, 0) := rfl
  have e8 := e_X8_ini k8 (by rw [s1.len]; decide)
  rw [a8] at e8
  have kd8 : ∀ a, a < 45 → hk (hX8a (nw (hp0 L xs) 7 0) 8) a = (kd0 L)[a]? := fun a ha => by
    unfold hk
    rw [s8.1, List.getElem?_take, if_pos ha]
  have q8 := fun p hp => (s8.2.2.1 p hp).2
  obtain ⟨h1, b1', b2', b3', b4', b5', b6'⟩ := c_L98 (h := hX8a (nw (hp0 L xs) 7 0) 8) (kd8 8 (by decide)) (q8 (8, 1, 14) (by decide)) (kd8 14 (by decide)) (kd8 41 (by decide))
  have sF : SG L xs 45 qF vFx h1 := by
    refine ⟨b2'.trans s8.1, s8.2.1, fun p hp => ?_, fun a k h8 h45 => (b3' a k).trans (s8.2.2.2.1 a k h8 h45), s8.2.2.2.2.1, fun a k ha => (b3' a k).trans (s8.2.2.2.2.2 a k ha)⟩
    have hp' : p = (14, 3, 41) ∨ p = (14, 2, 41) ∨ p = (14, 1, 41) ∨ p = (14, 0, 41) ∨ p ∈ qF.drop 4 := by
      have : p ∈ ((14, 3, 41) : Nat × Nat × Nat) :: (14, 2, 41) :: (14, 1, 41) :: (14, 0, 41) :: qF.drop 4 := hp
      simpa only [List.mem_cons] using this
    rcases hp' with rfl | rfl | rfl | rfl | hp'
    · exact ⟨by decide, b5' 3 (by decide)⟩
    · exact ⟨by decide, b5' 2 (by decide)⟩
    · exact ⟨by decide, b5' 1 (by decide)⟩
    · exact ⟨by decide, b5' 0 (by decide)⟩
    · have z := s8.2.2.1 p hp'
      exact ⟨z.1, (b6' _ _ (qF_ne p hp')).trans z.2⟩
  have l1 := sF.len
  have s46 : SG L xs 46 qF vFx (nw h1 8 0) := sF.nw (by decide) rfl
  have k45' : hk (nw h1 8 0) 45 = some (8, 0) := hk_new l1.symm
  have e9 := e_X9_ini k45'
  have s88 : SG L xs 88 qG vG (hX9_init (nw h1 8 0) 45) := sg_x9 s46
  have X := s88.fx hL
  obtain ⟨h2, c1, c2, c3, c4⟩ := m_clears X
  have X2 := c2.fx X
  have q9 := fun p hp => (s88.2.2.1 p hp).2
  have qq : ∀ p ∈ qG, hq h2 p.1 p.2.1 = some p.2.2 := fun p hp => (c2.2.1 _ _).trans (q9 p hp)
  have v : ∀ a k, 8 ≤ a → a < 88 → a ∉ [48, 49, 50, 60, 61] → hi h2 a k = lki vG a k := fun a k h8 h88 hn => by
    by_cases e45 : a = 45
    · subst e45
      rw [c2.ef (by simp)]
      exact s88.2.2.2.1 _ k h8 h88
    · rw [c2.ei _ hn e45]
      exact s88.2.2.2.1 a k h8 h88
  have v0 : ∀ a k, a < 8 → hi h2 a k = hi (hp0 L xs) a k := fun a k ha => by
    rw [c2.ei _ (by simp; omega) (by omega)]
    exact s88.2.2.2.2.2 a k ha
  have kd : ∀ a, a < 88 → hk h2 a = (kd0 L)[a]? := fun a ha => by
    unfold hk
    rw [c2.1, s88.1, List.getElem?_take, if_pos ha]
  refine ⟨h1, h2, by rw [e8, b1', bd_some], l1, by rw [e9, c1, bd_some], ⟨0, 0, vF h2, fun _ => A0, hi h2 62, hi h2 71, 0, fun _ => 0, fun _ => 0, X2, ?_, ?_, ?_, ?_, ?_⟩, kd 2 (by decide)⟩
  · refine ⟨v 45 40 (by decide) (by decide) (by decide), by decide, v 45 41 (by decide) (by decide) (by decide), by decide, rfl, ⟨fun f hf => absurd hf (Nat.not_lt_zero _), fun w hw => absurd hw (Nat.not_lt_zero _)⟩, fun s hs => ⟨⟨fun q hq' => c3 s q (by omega) hq', (c4 s (by omega)).1, ⟨(c4 s (by omega)).2.1, fun l hl => absurd hl (Nat.not_lt_zero _)⟩, (c4 s (by omega)).2.2⟩, A0_ok⟩, rfl, rfl, fun w hw => absurd hw (Nat.not_lt_zero _), fun w hw => absurd hw (Nat.not_lt_zero _), v 45 42 (by decide) (by decide) (by decide), by decide⟩
  · have P : ∀ x, 41 ≤ x → x ≤ 44 → PW 0 (fun _ => 0) x := fun x h1 h2 => ⟨Or.inl ⟨h1, h2⟩, fun w hw => absurd hw (Nat.not_lt_zero _)⟩
    refine ⟨v 8 3 (by decide) (by decide) (by decide), v 8 5 (by decide) (by decide) (by decide), v 8 6 (by decide) (by decide) (by decide), fun w hw => absurd hw (Nat.not_lt_zero _), fun f hf => absurd hf (Nat.not_lt_zero _), fun f hf => absurd hf (Nat.not_lt_zero _), fun s hs => ⟨41, ?_, 42, 44, P _ (by decide) (by decide), P _ (by decide) (by decide), P _ (by decide) (by decide), kd 41 (by decide), qq (41, 0, 42) (by decide), kd 42 (by decide), v 41 1 (by decide) (by decide) (by decide), qq (41, 4, 44) (by decide), kd 44 (by decide), fun q hq' => ?_, v 41 5 (by decide) (by decide) (by decide), fun l hl => absurd hl (Nat.not_lt_zero _), v 41 3 (by decide) (by decide) (by decide)⟩, fun w w' _ hw' => absurd hw' (Nat.not_lt_zero _)⟩
    · rcases (show s = 0 ∨ s = 1 ∨ s = 2 ∨ s = 3 by omega) with rfl | rfl | rfl | rfl
      · exact qq (14, 0, 41) (by decide)
      · exact qq (14, 1, 41) (by decide)
      · exact qq (14, 2, 41) (by decide)
      · exact qq (14, 3, 41) (by decide)
    · rw [v 44 q (by decide) (by decide) (by decide)]
      rcases (show q = 0 ∨ q = 1 ∨ q = 2 ∨ q = 3 ∨ q = 4 ∨ q = 5 ∨ q = 6 by omega) with rfl | rfl | rfl | rfl | rfl | rfl | rfl <;> rfl
  · intro w hw
    exact absurd hw (Nat.not_lt_zero _)
  · intro w hw _
    exact v 63 w (by decide) (by decide) (by decide)
  · refine ⟨fun k => v0 0 k (by decide), fun k => v0 1 k (by decide), 0, by decide, v 9 1 (by decide) (by decide) (by decide), v 45 2 (by decide) (by decide) (by decide), fun j hj => absurd hj (Nat.not_lt_zero _), ?_, ?_⟩
    · rw [v 9 12 (by decide) (by decide) (by decide), v 45 4 (by decide) (by decide) (by decide)]; rfl
    · rw [v 9 13 (by decide) (by decide) (by decide), v 45 5 (by decide) (by decide) (by decide)]; rfl
theorem pure_law (hL : L ≤ 3072) (xs : Nat → Int32) : ∃ h' : Hp, f_L_law (some 2) (hp0 L xs) = some (1, h') := by
  obtain ⟨h1, h2, a1, a2, a3, a4, a5⟩ := st_all (xs := xs) hL
  obtain ⟨h', b1'⟩ := lw_loop ag_act a4 a5 hL
  refine ⟨h', ?_⟩
  have l0 : (hp0 L xs).1.length = 8 := rfl
  unfold f_L_law
  rw [l0, rc_eq (show hk (nw (hp0 L xs) 7 0) 8 = some (7, 0) from rfl), bd_some, a1, bd_some, a2, rc_eq (hk_new a2.symm), bd_some, a3, bd_some, b1', bd_some]
end Pz
