/-! The start: the class's constructor, step by step. -/
theorem rcn {h : Hp} {kd n : Nat} : rc (nw h kd 0) (some h.1.length) kd = some h.1.length := rc_eq (hk_new rfl)
def hX8a (h : Hp) (a0 : Nat) : Hp :=
  let g1 := hX2_init (nw h 2 0) h.1.length
  let g2 := sq g1 a0 0 (some h.1.length)
  let g3 := sq (nw g2 13 4) a0 1 (some g2.1.length)
  let g4 := sq (nw g3 16 10) a0 2 (some g3.1.length)
  let g5 := sq (nw g4 14 250) a0 4 (some g4.1.length)
  let g6 := hX6_init (nw g5 5 0) g5.1.length
  let g7 := sq g6 a0 7 (some g5.1.length)
  let g8 := hX4_init (nw g7 4 0) g7.1.length
  let g9 := sq g8 a0 8 (some g7.1.length)
  let g10 := sq (nw g9 11 10) a0 9 (some g9.1.length)
  let g11 := sq (nw g10 10 10) a0 10 (some g10.1.length)
  let g12 := sq (nw g11 11 32) a0 11 (some g11.1.length)
  hX0_init (nw g12 0 0) g12.1.length
def aX8a (h : Hp) (a0 : Nat) : Nat :=
  let g1 := hX2_init (nw h 2 0) h.1.length
  let g2 := sq g1 a0 0 (some h.1.length)
  let g3 := sq (nw g2 13 4) a0 1 (some g2.1.length)
  let g4 := sq (nw g3 16 10) a0 2 (some g3.1.length)
  let g5 := sq (nw g4 14 250) a0 4 (some g4.1.length)
  let g6 := hX6_init (nw g5 5 0) g5.1.length
  let g7 := sq g6 a0 7 (some g5.1.length)
  let g8 := hX4_init (nw g7 4 0) g7.1.length
  let g9 := sq g8 a0 8 (some g7.1.length)
  let g10 := sq (nw g9 11 10) a0 9 (some g9.1.length)
  let g11 := sq (nw g10 10 10) a0 10 (some g10.1.length)
  let g12 := sq (nw g11 11 32) a0 11 (some g11.1.length)
  g12.1.length
theorem e_X8_ini {h : Hp} {a0 : Nat} (k0 : hk h a0 = some (7, 0)) (h8 : 8 ≤ h.1.length) : f_X8_init a0 h = (f_X8_init_L98 fu a0 (some (aX8a h a0)) 0 (hX8a h a0)).bind fun h58 => some h58 := by
  unfold f_X8_init
  rw [rc_eq k0, bd_some, rc_eq (hk_new rfl), bd_some, e_X2_init (hk_new rfl), bd_some]
  obtain ⟨g1, e1⟩ : ∃ g, g = hX2_init (nw h 2 0) h.1.length := ⟨_, rfl⟩
  have d1 : g1.1 = h.1 ++ [(2, 0), (9, 900), (10, 901), (10, 901), (10, 900)] := by rw [e1, x2_kd]; show (h.1 ++ [(2, 0)]) ++ _ = _; rw [List.append_assoc]; rfl
  have k1 : hk g1 a0 = some (7, 0) := hk_grow d1 k0
  rw [← e1]
  refine mkP k1 fun g2 e2 => ?_
  have k2 : hk g2 a0 = some (7, 0) := by rw [e2]; exact k1
  refine mkQ (n := 4) k2 (by decide) fun g3 e3 => ?_
  have k3 : hk g3 a0 = some (7, 0) := by rw [e3]; exact hk_old k2
  refine mkQ (n := 10) k3 (by decide) fun g4 e4 => ?_
  have k4 : hk g4 a0 = some (7, 0) := by rw [e4]; exact hk_old k3
  refine mkQ (n := 250) k4 (by decide) fun g5 e5 => ?_
  have k5 : hk g5 a0 = some (7, 0) := by rw [e5]; exact hk_old k4
  rw [rc_eq (hk_new rfl), bd_some, e_X6_init (hk_new rfl), bd_some]
  obtain ⟨g6, e6⟩ : ∃ g, g = hX6_init (nw g5 5 0) g5.1.length := ⟨_, rfl⟩
  have k6 : hk g6 a0 = some (7, 0) := by rw [e6]; exact hk_grow (x6_kd _ _) (hk_old k5)
  rw [← e6]
  refine mkP k6 fun g7 e7 => ?_
  have k7 : hk g7 a0 = some (7, 0) := by rw [e7]; exact k6
  have lg : 8 ≤ g7.1.length := by
    rw [e7]
    show 8 ≤ g6.1.length
    rw [e6, x6_kd, List.length_append]
    show 8 ≤ (g5.1 ++ _).length + _
    rw [List.length_append, e5]
    show 8 ≤ (g4.1 ++ _).length + _ + _
    rw [List.length_append, e4]
    show 8 ≤ (g3.1 ++ _).length + _ + _ + _
    rw [List.length_append, e3]
    show 8 ≤ (g2.1 ++ _).length + _ + _ + _ + _
    rw [List.length_append, e2]
    show 8 ≤ g1.1.length + _ + _ + _ + _ + _
    rw [d1, List.length_append]
    omega
  rw [rc_eq (hk_new rfl), bd_some, e_X4_init (hk_new rfl) (by rw [ln_nw, List.length_append]; omega), bd_some]
  obtain ⟨g8, e8⟩ : ∃ g, g = hX4_init (nw g7 4 0) g7.1.length := ⟨_, rfl⟩
  have k8' : hk g8 a0 = some (7, 0) := by rw [e8]; exact hk_grow (x4_kd _ _) (hk_old k7)
  have lg8 : 8 ≤ g8.1.length := by
    rw [e8, x4_kd, List.length_append]
    show 8 ≤ (g7.1 ++ _).length + _
    rw [List.length_append]
    omega
  rw [← e8]
  refine mkP k8' fun g9 e9 => ?_
  have k9 : hk g9 a0 = some (7, 0) := by rw [e9]; exact k8'
  refine mkQ (n := 10) k9 (by decide) fun g10 e10 => ?_
  have k10' : hk g10 a0 = some (7, 0) := by rw [e10]; exact hk_old k9
  refine mkQ (n := 10) k10' (by decide) fun g11 e11 => ?_
  have k11 : hk g11 a0 = some (7, 0) := by rw [e11]; exact hk_old k10'
  refine mkQ (n := 32) k11 (by decide) fun g12 e12 => ?_
  have lg12 : 8 ≤ g12.1.length := by
    rw [e12]
    show 8 ≤ (g11.1 ++ _).length
    rw [List.length_append, e11]
    show 8 ≤ (g10.1 ++ _).length + _
    rw [List.length_append, e10]
    show 8 ≤ (g9.1 ++ _).length + _ + _
    rw [List.length_append, e9]
    show 8 ≤ g8.1.length + _ + _ + _
    omega
  rw [rc_eq (hk_new rfl), bd_some, e_X0_init (hk_new rfl) (by rw [ln_nw, List.length_append]; omega), bd_some]
  subst e12 e11 e10 e9 e8 e7 e6 e5 e4 e3 e2 e1
  rfl
