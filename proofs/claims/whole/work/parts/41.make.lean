/-! What the constructors make. -/
section Pc
variable {β : Type} {h : Hp} {a0 ci kd n k most : Nat} {v : Int32} {F : Hp → Option β} {z : Option β}
theorem mkQ (k0 : hk h a0 = some (ci, 0)) (hn : nln v most = some n) (kk : ∀ h2, h2 = sq (nw h kd n) a0 k (some h.1.length) → F h2 = z) : ((nln v most).bind fun n3 => (putQ (nw h kd n3) (some a0) ci k (some h.1.length)).bind F) = z := by
  rw [hn, bd_some, putQ_of k _ (hk_old k0), bd_some]
  exact kk _ rfl
theorem mkI (k0 : hk h a0 = some (ci, 0)) (kk : ∀ h2, h2 = si h a0 k v → F h2 = z) : ((putI h (some a0) ci k v).bind F) = z := by
  rw [putI_of k _ k0, bd_some]
  exact kk _ rfl
theorem mkP {w : Option Nat} (k0 : hk h a0 = some (ci, 0)) (kk : ∀ h2, h2 = sq h a0 k w → F h2 = z) : ((putQ h (some a0) ci k w).bind F) = z := by
  rw [putQ_of k _ k0, bd_some]
  exact kk _ rfl
theorem mkW {i : Nat} {ix : Int32} (k0 : hk h a0 = some (10, n)) (ha : 8 ≤ a0) (hix : ix = nI i) (hi' : i < n) (hn : n ≤ 65536) (kk : ∀ h2, h2 = si h a0 i v → F h2 = z) : ((wrI h (some a0) ix v).bind F) = z := by
  rw [hix, wrI_eq v k0 ha hi' hn, bd_some]
  exact kk _ rfl
end Pc
def hX2_init (h : Hp) (a0 : Nat) : Hp :=
  let g1 := sq (nw h 9 900) a0 0 (some h.1.length)
  let g2 := sq (nw g1 10 901) a0 3 (some g1.1.length)
  let g3 := sq (nw g2 10 901) a0 4 (some g2.1.length)
  let g4 := sq (nw g3 10 900) a0 8 (some g3.1.length)
  let g5 := si g4 a0 12 0
  let g6 := si g5 a0 13 (-1)
  g6
theorem e_X2_init {h : Hp} {a0 : Nat} (k0 : hk h a0 = some (2, 0)) : f_X2_init a0 h = some (hX2_init h a0) := by
  unfold f_X2_init
  rw [rc_eq k0, bd_some]
  refine mkQ (n := 900) k0 (by decide) fun g1 e1 => ?_
  have k1 : hk g1 a0 = some (2, 0) := by rw [e1]; exact hk_old k0
  refine mkQ (n := 901) k1 (by decide) fun g2 e2 => ?_
  have k2 : hk g2 a0 = some (2, 0) := by rw [e2]; exact hk_old k1
  refine mkQ (n := 901) k2 (by decide) fun g3 e3 => ?_
  have k3 : hk g3 a0 = some (2, 0) := by rw [e3]; exact hk_old k2
  refine mkQ (n := 900) k3 (by decide) fun g4 e4 => ?_
  have k4 : hk g4 a0 = some (2, 0) := by rw [e4]; exact hk_old k3
  refine mkI k4 fun g5 e5 => ?_
  have k5 : hk g5 a0 = some (2, 0) := by rw [e5]; exact k4
  refine mkI k5 fun g6 e6 => ?_
  have k6 : hk g6 a0 = some (2, 0) := by rw [e6]; exact k5
  subst e6; subst e5; subst e4; subst e3; subst e2; subst e1
  rfl
def hX6_init (h : Hp) (a0 : Nat) : Hp :=
  let g1 := sq (nw h 10 10) a0 0 (some h.1.length)
  let g2 := sq (nw g1 10 10) a0 1 (some g1.1.length)
  let g3 := sq (nw g2 10 10) a0 2 (some g2.1.length)
  let g4 := sq (nw g3 10 105) a0 4 (some g3.1.length)
  let g5 := sq (nw g4 10 20) a0 5 (some g4.1.length)
  let g6 := sq (nw g5 10 20) a0 6 (some g5.1.length)
  let g7 := sq (nw g6 10 20) a0 9 (some g6.1.length)
  let g8 := sq (nw g7 10 20) a0 10 (some g7.1.length)
  let g9 := sq (nw g8 10 20) a0 11 (some g8.1.length)
  g9
theorem e_X6_init {h : Hp} {a0 : Nat} (k0 : hk h a0 = some (5, 0)) : f_X6_init a0 h = some (hX6_init h a0) := by
  unfold f_X6_init
  rw [rc_eq k0, bd_some]
  refine mkQ (n := 10) k0 (by decide) fun g1 e1 => ?_
  have k1 : hk g1 a0 = some (5, 0) := by rw [e1]; exact hk_old k0
  refine mkQ (n := 10) k1 (by decide) fun g2 e2 => ?_
  have k2 : hk g2 a0 = some (5, 0) := by rw [e2]; exact hk_old k1
  refine mkQ (n := 10) k2 (by decide) fun g3 e3 => ?_
  have k3 : hk g3 a0 = some (5, 0) := by rw [e3]; exact hk_old k2
  refine mkQ (n := 105) k3 (by decide) fun g4 e4 => ?_
  have k4 : hk g4 a0 = some (5, 0) := by rw [e4]; exact hk_old k3
  refine mkQ (n := 20) k4 (by decide) fun g5 e5 => ?_
  have k5 : hk g5 a0 = some (5, 0) := by rw [e5]; exact hk_old k4
  refine mkQ (n := 20) k5 (by decide) fun g6 e6 => ?_
  have k6 : hk g6 a0 = some (5, 0) := by rw [e6]; exact hk_old k5
  refine mkQ (n := 20) k6 (by decide) fun g7 e7 => ?_
  have k7 : hk g7 a0 = some (5, 0) := by rw [e7]; exact hk_old k6
  refine mkQ (n := 20) k7 (by decide) fun g8 e8 => ?_
  have k8 : hk g8 a0 = some (5, 0) := by rw [e8]; exact hk_old k7
  refine mkQ (n := 20) k8 (by decide) fun g9 e9 => ?_
  have k9 : hk g9 a0 = some (5, 0) := by rw [e9]; exact hk_old k8
  subst e9; subst e8; subst e7; subst e6; subst e5; subst e4; subst e3; subst e2; subst e1
  rfl
def hX0_init (h : Hp) (a0 : Nat) : Hp :=
  let g1 := sq (nw h 15 10) a0 0 (some h.1.length)
  let g2 := sq (nw g1 10 0) a0 2 (some g1.1.length)
  let g3 := nw g2 10 7
  let g4 := si g3 g2.1.length 0 12
  let g5 := si g4 g2.1.length 1 104
  let g6 := si g5 g2.1.length 2 5
  let g7 := si g6 g2.1.length 3 90
  let g8 := si g7 g2.1.length 4 90
  let g9 := si g8 g2.1.length 5 9999
  let g10 := si g9 g2.1.length 6 0
  sq g10 a0 4 (some g2.1.length)
theorem e_X0_init {h : Hp} {a0 : Nat} (k0 : hk h a0 = some (0, 0)) (h8 : 8 ≤ h.1.length) : f_X0_init a0 h = some (hX0_init h a0) := by
  unfold f_X0_init
  rw [rc_eq k0, bd_some]
  refine mkQ (n := 10) k0 (by decide) fun g1 e1 => ?_
  have k1 : hk g1 a0 = some (0, 0) := by rw [e1]; exact hk_old k0
  refine mkQ (n := 0) k1 (by decide) fun g2 e2 => ?_
  have k2 : hk g2 a0 = some (0, 0) := by rw [e2]; exact hk_old k1
  have l2 : 8 ≤ g2.1.length := by rw [e2, e1]; simp only [ln_sq, ln_nw, List.length_append]; omega
  rw [show nln 7 7 = some 7 by decide, bd_some]
  obtain ⟨g3, e3⟩ : ∃ g, g = nw g2 10 7 := ⟨_, rfl⟩
  rw [← e3]
  have k3 : hk g3 a0 = some (0, 0) := by rw [e3]; exact hk_old k2
  have a3 : hk g3 g2.1.length = some (10, 7) := by rw [e3]; exact hk_new rfl
  refine mkW (i := 0) a3 l2 rfl (by decide) (by decide) fun g4 e4 => ?_
  have k4 : hk g4 a0 = some (0, 0) := by rw [e4]; exact k3
  have a4 : hk g4 g2.1.length = some (10, 7) := by rw [e4]; exact a3
  refine mkW (i := 1) a4 l2 rfl (by decide) (by decide) fun g5 e5 => ?_
  have k5 : hk g5 a0 = some (0, 0) := by rw [e5]; exact k4
  have a5 : hk g5 g2.1.length = some (10, 7) := by rw [e5]; exact a4
  refine mkW (i := 2) a5 l2 rfl (by decide) (by decide) fun g6 e6 => ?_
  have k6 : hk g6 a0 = some (0, 0) := by rw [e6]; exact k5
  have a6 : hk g6 g2.1.length = some (10, 7) := by rw [e6]; exact a5
  refine mkW (i := 3) a6 l2 rfl (by decide) (by decide) fun g7 e7 => ?_
  have k7 : hk g7 a0 = some (0, 0) := by rw [e7]; exact k6
  have a7 : hk g7 g2.1.length = some (10, 7) := by rw [e7]; exact a6
  refine mkW (i := 4) a7 l2 rfl (by decide) (by decide) fun g8 e8 => ?_
  have k8 : hk g8 a0 = some (0, 0) := by rw [e8]; exact k7
  have a8 : hk g8 g2.1.length = some (10, 7) := by rw [e8]; exact a7
  refine mkW (i := 5) a8 l2 rfl (by decide) (by decide) fun g9 e9 => ?_
  have k9 : hk g9 a0 = some (0, 0) := by rw [e9]; exact k8
  have a9 : hk g9 g2.1.length = some (10, 7) := by rw [e9]; exact a8
  refine mkW (i := 6) a9 l2 rfl (by decide) (by decide) fun g10 e10 => ?_
  have k10 : hk g10 a0 = some (0, 0) := by rw [e10]; exact k9
  have a10 : hk g10 g2.1.length = some (10, 7) := by rw [e10]; exact a9
  refine mkP k10 fun g11 e11 => ?_
  subst e11; subst e10; subst e9; subst e8; subst e7; subst e6; subst e5; subst e4; subst e3; subst e2; subst e1
  rfl
/-- the kinds: what was there stays, and these come -/
theorem x2_kd (h : Hp) (a0 : Nat) : (hX2_init h a0).1 = h.1 ++ [(9, 900), (10, 901), (10, 901), (10, 900)] := by
  simp only [hX2_init, ln_si, ln_sq, ln_nw, List.append_assoc, List.cons_append, List.nil_append]
theorem x6_kd (h : Hp) (a0 : Nat) : (hX6_init h a0).1 = h.1 ++ [(10, 10), (10, 10), (10, 10), (10, 105), (10, 20), (10, 20), (10, 20), (10, 20), (10, 20)] := by
  simp only [hX6_init, ln_si, ln_sq, ln_nw, List.append_assoc, List.cons_append, List.nil_append]
theorem x0_kd (h : Hp) (a0 : Nat) : (hX0_init h a0).1 = h.1 ++ [(15, 10), (10, 0), (10, 7)] := by
  simp only [hX0_init, ln_si, ln_sq, ln_nw, List.append_assoc, List.cons_append, List.nil_append]
theorem hk_grow {h h' : Hp} {t : List (Nat × Nat)} (e : h'.1 = h.1 ++ t) {b : Nat} {x : Nat × Nat} (hb : hk h b = some x) : hk h' b = some x := by
  unfold hk at hb ⊢
  rw [e, List.getElem?_append_left (List.getElem?_eq_some_iff.mp hb).1]
  exact hb
def hX4_init (h : Hp) (a0 : Nat) : Hp :=
  let g1 := hX0_init (nw h 0 0) h.1.length
  let g2 := sq g1 a0 0 (some h.1.length)
  let g3 := sq (nw g2 10 624) a0 4 (some g2.1.length)
  let g4 := sq (nw g3 10 104) a0 5 (some g3.1.length)
  let g5 := sq (nw g4 10 104) a0 6 (some g4.1.length)
  let g6 := sq (nw g5 10 104) a0 7 (some g5.1.length)
  let g7 := sq (nw g6 10 80) a0 8 (some g6.1.length)
  let g8 := sq (nw g7 14 250) a0 11 (some g7.1.length)
  g8
theorem e_X4_init {h : Hp} {a0 : Nat} (k0 : hk h a0 = some (4, 0)) (h8 : 8 ≤ h.1.length) : f_X4_init a0 h = some (hX4_init h a0) := by
  unfold f_X4_init
  rw [rc_eq k0, bd_some, rc_eq (hk_new rfl), bd_some, e_X0_init (hk_new rfl) (by rw [ln_nw, List.length_append]; omega), bd_some]
  obtain ⟨g1, e1⟩ : ∃ g, g = hX0_init (nw h 0 0) h.1.length := ⟨_, rfl⟩
  rw [← e1]
  have k1 : hk g1 a0 = some (4, 0) := by rw [e1]; exact hk_grow (x0_kd _ _) (hk_old k0)
  refine mkP k1 fun g2 e2 => ?_
  have k2 : hk g2 a0 = some (4, 0) := by rw [e2]; exact k1
  refine mkQ (n := 624) k2 (by decide) fun g3 e3 => ?_
  have k3 : hk g3 a0 = some (4, 0) := by rw [e3]; exact hk_old k2
  refine mkQ (n := 104) k3 (by decide) fun g4 e4 => ?_
  have k4 : hk g4 a0 = some (4, 0) := by rw [e4]; exact hk_old k3
  refine mkQ (n := 104) k4 (by decide) fun g5 e5 => ?_
  have k5 : hk g5 a0 = some (4, 0) := by rw [e5]; exact hk_old k4
  refine mkQ (n := 104) k5 (by decide) fun g6 e6 => ?_
  have k6 : hk g6 a0 = some (4, 0) := by rw [e6]; exact hk_old k5
  refine mkQ (n := 80) k6 (by decide) fun g7 e7 => ?_
  have k7 : hk g7 a0 = some (4, 0) := by rw [e7]; exact hk_old k6
  refine mkQ (n := 250) k7 (by decide) fun g8 e8 => ?_
  have k8 : hk g8 a0 = some (4, 0) := by rw [e8]; exact hk_old k7
  subst e8; subst e7; subst e6; subst e5; subst e4; subst e3; subst e2; subst e1
  rfl
theorem x4_kd (h : Hp) (a0 : Nat) : (hX4_init h a0).1 = h.1 ++ [(0, 0), (15, 10), (10, 0), (10, 7), (10, 624), (10, 104), (10, 104), (10, 104), (10, 80), (14, 250)] := by
  simp only [hX4_init, x0_kd, ln_si, ln_sq, ln_nw, List.append_assoc, List.cons_append, List.nil_append]
def hX9_init (h : Hp) (a0 : Nat) : Hp :=
  let g1 := sq (nw h 9 920) a0 0 (some h.1.length)
  let g2 := sq (nw g1 9 900) a0 1 (some g1.1.length)
  let g3 := si g2 a0 5 (-1)
  let g4 := sq (nw g3 10 35) a0 11 (some g3.1.length)
  let g5 := sq (nw g4 10 5) a0 12 (some g4.1.length)
  let g6 := sq (nw g5 10 5) a0 13 (some g5.1.length)
  let g7 := sq (nw g6 10 55) a0 14 (some g6.1.length)
  let g8 := sq (nw g7 10 55) a0 15 (some g7.1.length)
  let g9 := sq (nw g8 10 55) a0 16 (some g8.1.length)
  let g10 := sq (nw g9 10 55) a0 17 (some g9.1.length)
  let g11 := sq (nw g10 10 4500) a0 18 (some g10.1.length)
  let g12 := sq (nw g11 10 4500) a0 19 (some g11.1.length)
  let g13 := sq (nw g12 10 80) a0 20 (some g12.1.length)
  let g14 := sq (nw g13 10 80) a0 21 (some g13.1.length)
  let g15 := sq (nw g14 10 120) a0 22 (some g14.1.length)
  let g16 := sq (nw g15 12 35) a0 23 (some g15.1.length)
  let g17 := sq (nw g16 12 5) a0 24 (some g16.1.length)
  let g18 := sq (nw g17 10 10) a0 30 (some g17.1.length)
  let g19 := sq (nw g18 10 10) a0 31 (some g18.1.length)
  let g20 := sq (nw g19 10 250) a0 32 (some g19.1.length)
  let g21 := sq (nw g20 10 250) a0 33 (some g20.1.length)
  let g22 := sq (nw g21 10 250) a0 34 (some g21.1.length)
  let g23 := sq (nw g22 10 250) a0 35 (some g22.1.length)
  let g24 := sq (nw g23 10 250) a0 36 (some g23.1.length)
  let g25 := sq (nw g24 10 250) a0 37 (some g24.1.length)
  let g26 := sq (nw g25 10 250) a0 38 (some g25.1.length)
  let g27 := sq (nw g26 12 10) a0 39 (some g26.1.length)
  let g28 := sq (nw g27 10 624) a0 43 (some g27.1.length)
  let g29 := sq (nw g28 10 104) a0 44 (some g28.1.length)
  let g30 := sq (nw g29 10 104) a0 45 (some g29.1.length)
  let g31 := sq (nw g30 10 10) a0 46 (some g30.1.length)
  let g32 := sq (nw g31 12 104) a0 47 (some g31.1.length)
  let g33 := sq (nw g32 11 105) a0 48 (some g32.1.length)
  let g34 := sq (nw g33 10 104) a0 52 (some g33.1.length)
  let g35 := sq (nw g34 10 104) a0 53 (some g34.1.length)
  let g36 := sq (nw g35 12 104) a0 54 (some g35.1.length)
  let g37 := sq (nw g36 10 250) a0 59 (some g36.1.length)
  let g38 := sq (nw g37 10 250) a0 60 (some g37.1.length)
  let g39 := sq (nw g38 10 250) a0 61 (some g38.1.length)
  let g40 := sq (nw g39 10 250) a0 62 (some g39.1.length)
  let g41 := sq (nw g40 10 250) a0 65 (some g40.1.length)
  let g42 := sq (nw g41 11 10) a0 67 (some g41.1.length)
  let g43 := sq (nw g42 10 10) a0 68 (some g42.1.length)
  g43
set_option maxRecDepth 20000 in
theorem e_X9_ini {h : Hp} {a0 : Nat} (k0 : hk h a0 = some (8, 0)) : f_X9_init a0 h = (f_X9_init_L361 fu a0 0 (hX9_init h a0)).bind fun h178 => some h178 := by
  unfold f_X9_init
  rw [rc_eq k0, bd_some]
  refine mkQ (n := 920) k0 (by decide) fun g1 e1 => ?_
  have k1 : hk g1 a0 = some (8, 0) := by rw [e1]; exact hk_old k0
  refine mkQ (n := 900) k1 (by decide) fun g2 e2 => ?_
  have k2 : hk g2 a0 = some (8, 0) := by rw [e2]; exact hk_old k1
  refine mkI k2 fun g3 e3 => ?_
  have k3 : hk g3 a0 = some (8, 0) := by rw [e3]; exact k2
  refine mkQ (n := 35) k3 (by decide) fun g4 e4 => ?_
  have k4 : hk g4 a0 = some (8, 0) := by rw [e4]; exact hk_old k3
  refine mkQ (n := 5) k4 (by decide) fun g5 e5 => ?_
  have k5 : hk g5 a0 = some (8, 0) := by rw [e5]; exact hk_old k4
  refine mkQ (n := 5) k5 (by decide) fun g6 e6 => ?_
  have k6 : hk g6 a0 = some (8, 0) := by rw [e6]; exact hk_old k5
  refine mkQ (n := 55) k6 (by decide) fun g7 e7 => ?_
  have k7 : hk g7 a0 = some (8, 0) := by rw [e7]; exact hk_old k6
  refine mkQ (n := 55) k7 (by decide) fun g8 e8 => ?_
  have k8 : hk g8 a0 = some (8, 0) := by rw [e8]; exact hk_old k7
  refine mkQ (n := 55) k8 (by decide) fun g9 e9 => ?_
  have k9 : hk g9 a0 = some (8, 0) := by rw [e9]; exact hk_old k8
  refine mkQ (n := 55) k9 (by decide) fun g10 e10 => ?_
  have k10 : hk g10 a0 = some (8, 0) := by rw [e10]; exact hk_old k9
  refine mkQ (n := 4500) k10 (by decide) fun g11 e11 => ?_
  have k11 : hk g11 a0 = some (8, 0) := by rw [e11]; exact hk_old k10
  refine mkQ (n := 4500) k11 (by decide) fun g12 e12 => ?_
  have k12 : hk g12 a0 = some (8, 0) := by rw [e12]; exact hk_old k11
  refine mkQ (n := 80) k12 (by decide) fun g13 e13 => ?_
  have k13 : hk g13 a0 = some (8, 0) := by rw [e13]; exact hk_old k12
  refine mkQ (n := 80) k13 (by decide) fun g14 e14 => ?_
  have k14 : hk g14 a0 = some (8, 0) := by rw [e14]; exact hk_old k13
  refine mkQ (n := 120) k14 (by decide) fun g15 e15 => ?_
  have k15 : hk g15 a0 = some (8, 0) := by rw [e15]; exact hk_old k14
  refine mkQ (n := 35) k15 (by decide) fun g16 e16 => ?_
  have k16 : hk g16 a0 = some (8, 0) := by rw [e16]; exact hk_old k15
  refine mkQ (n := 5) k16 (by decide) fun g17 e17 => ?_
  have k17 : hk g17 a0 = some (8, 0) := by rw [e17]; exact hk_old k16
  refine mkQ (n := 10) k17 (by decide) fun g18 e18 => ?_
  have k18 : hk g18 a0 = some (8, 0) := by rw [e18]; exact hk_old k17
  refine mkQ (n := 10) k18 (by decide) fun g19 e19 => ?_
  have k19 : hk g19 a0 = some (8, 0) := by rw [e19]; exact hk_old k18
  refine mkQ (n := 250) k19 (by decide) fun g20 e20 => ?_
  have k20 : hk g20 a0 = some (8, 0) := by rw [e20]; exact hk_old k19
  refine mkQ (n := 250) k20 (by decide) fun g21 e21 => ?_
  have k21 : hk g21 a0 = some (8, 0) := by rw [e21]; exact hk_old k20
  refine mkQ (n := 250) k21 (by decide) fun g22 e22 => ?_
  have k22 : hk g22 a0 = some (8, 0) := by rw [e22]; exact hk_old k21
  refine mkQ (n := 250) k22 (by decide) fun g23 e23 => ?_
  have k23 : hk g23 a0 = some (8, 0) := by rw [e23]; exact hk_old k22
  refine mkQ (n := 250) k23 (by decide) fun g24 e24 => ?_
  have k24 : hk g24 a0 = some (8, 0) := by rw [e24]; exact hk_old k23
  refine mkQ (n := 250) k24 (by decide) fun g25 e25 => ?_
  have k25 : hk g25 a0 = some (8, 0) := by rw [e25]; exact hk_old k24
  refine mkQ (n := 250) k25 (by decide) fun g26 e26 => ?_
  have k26 : hk g26 a0 = some (8, 0) := by rw [e26]; exact hk_old k25
  refine mkQ (n := 10) k26 (by decide) fun g27 e27 => ?_
  have k27 : hk g27 a0 = some (8, 0) := by rw [e27]; exact hk_old k26
  refine mkQ (n := 624) k27 (by decide) fun g28 e28 => ?_
  have k28 : hk g28 a0 = some (8, 0) := by rw [e28]; exact hk_old k27
  refine mkQ (n := 104) k28 (by decide) fun g29 e29 => ?_
  have k29 : hk g29 a0 = some (8, 0) := by rw [e29]; exact hk_old k28
  refine mkQ (n := 104) k29 (by decide) fun g30 e30 => ?_
  have k30 : hk g30 a0 = some (8, 0) := by rw [e30]; exact hk_old k29
  refine mkQ (n := 10) k30 (by decide) fun g31 e31 => ?_
  have k31 : hk g31 a0 = some (8, 0) := by rw [e31]; exact hk_old k30
  refine mkQ (n := 104) k31 (by decide) fun g32 e32 => ?_
  have k32 : hk g32 a0 = some (8, 0) := by rw [e32]; exact hk_old k31
  refine mkQ (n := 105) k32 (by decide) fun g33 e33 => ?_
  have k33 : hk g33 a0 = some (8, 0) := by rw [e33]; exact hk_old k32
  refine mkQ (n := 104) k33 (by decide) fun g34 e34 => ?_
  have k34 : hk g34 a0 = some (8, 0) := by rw [e34]; exact hk_old k33
  refine mkQ (n := 104) k34 (by decide) fun g35 e35 => ?_
  have k35 : hk g35 a0 = some (8, 0) := by rw [e35]; exact hk_old k34
  refine mkQ (n := 104) k35 (by decide) fun g36 e36 => ?_
  have k36 : hk g36 a0 = some (8, 0) := by rw [e36]; exact hk_old k35
  refine mkQ (n := 250) k36 (by decide) fun g37 e37 => ?_
  have k37 : hk g37 a0 = some (8, 0) := by rw [e37]; exact hk_old k36
  refine mkQ (n := 250) k37 (by decide) fun g38 e38 => ?_
  have k38 : hk g38 a0 = some (8, 0) := by rw [e38]; exact hk_old k37
  refine mkQ (n := 250) k38 (by decide) fun g39 e39 => ?_
  have k39 : hk g39 a0 = some (8, 0) := by rw [e39]; exact hk_old k38
  refine mkQ (n := 250) k39 (by decide) fun g40 e40 => ?_
  have k40 : hk g40 a0 = some (8, 0) := by rw [e40]; exact hk_old k39
  refine mkQ (n := 250) k40 (by decide) fun g41 e41 => ?_
  have k41 : hk g41 a0 = some (8, 0) := by rw [e41]; exact hk_old k40
  refine mkQ (n := 10) k41 (by decide) fun g42 e42 => ?_
  have k42 : hk g42 a0 = some (8, 0) := by rw [e42]; exact hk_old k41
  refine mkQ (n := 10) k42 (by decide) fun g43 e43 => ?_
  have k43 : hk g43 a0 = some (8, 0) := by rw [e43]; exact hk_old k42
  subst e43; subst e42; subst e41; subst e40; subst e39; subst e38; subst e37; subst e36; subst e35; subst e34; subst e33; subst e32; subst e31; subst e30; subst e29; subst e28; subst e27; subst e26; subst e25; subst e24; subst e23; subst e22; subst e21; subst e20; subst e19; subst e18; subst e17; subst e16; subst e15; subst e14; subst e13; subst e12; subst e11; subst e10; subst e9; subst e8; subst e7; subst e6; subst e5; subst e4; subst e3; subst e2; subst e1
  rfl
set_option maxRecDepth 20000 in
theorem x9_kd (h : Hp) (a0 : Nat) : (hX9_init h a0).1 = h.1 ++ [(9, 920), (9, 900), (10, 35), (10, 5), (10, 5), (10, 55), (10, 55), (10, 55), (10, 55), (10, 4500), (10, 4500), (10, 80), (10, 80), (10, 120), (12, 35), (12, 5), (10, 10), (10, 10), (10, 250), (10, 250), (10, 250), (10, 250), (10, 250), (10, 250), (10, 250), (12, 10), (10, 624), (10, 104), (10, 104), (10, 10), (12, 104), (11, 105), (10, 104), (10, 104), (12, 104), (10, 250), (10, 250), (10, 250), (10, 250), (10, 250), (11, 10), (10, 10)] := by
  simp only [hX9_init, ln_si, ln_sq, ln_nw, List.append_assoc, List.cons_append, List.nil_append]
