/-! What the constructors make. -/
section Pc
variable {β : Type} {h : Hp} {a0 ci kd n k most : Nat} {v : Int32} {F : Hp → Option β} {z : Option β}
theorem mkQ (k0 : hk h a0 = some (ci, 0)) (hn : nln v most = some n) (kk : ∀ h2, h2 = sq (nw h kd n) a0 k (some h.1.length) → F h2 = z) : ((nln v most).bind fun n3 => (putQ (nw h kd n3) (some a0) ci k (some h.1.length)).bind F) = z := by
  rw [hn, bd_some, putQ_of k _ (hk_old k0), bd_some]
  exact kk _ rfl
theorem mkI (k0 : hk h a0 = some (ci, 0)) (kk : ∀ h2, h2 = si h a0 k v → F h2 = z) : ((putI h (some a0) ci k v).bind F) = z := by
  rw [putI_of k _ k0, bd_some]
  exact kk _ rfl
theorem mkP {w : Option Nat} (k0 : hk h a0 = some (ci, 0)) (kk : ∀ h2, h2 = sq h a0 k w → F h2 = z) : ((putQ h (some a0) ci k w).bind F) = z := by
  rw [putQ_of k _ k0, bd_some]
  exact kk _ rfl
theorem mkW {i : Nat} (k0 : hk h a0 = some (10, n)) (ha : 8 ≤ a0) (hi' : i < n) (hn : n ≤ 65536) (kk : ∀ h2, h2 = si h a0 i v → F h2 = z) : ((wrI h (some a0) (nI i) v).bind F) = z := by
  rw [wrI_eq v k0 ha hi' hn, bd_some]
  exact kk _ rfl
end Pc
def hX2_init (h : Hp) (a0 : Nat) : Hp :=
  let g1 := sq (nw h 9 900) a0 0 (some h.1.length)
  let g2 := sq (nw g1 10 901) a0 3 (some g1.1.length)
  let g3 := sq (nw g2 10 901) a0 4 (some g2.1.length)
  let g4 := sq (nw g3 10 900) a0 8 (some g3.1.length)
  let g5 := si g4 a0 12 0
  let g6 := si g5 a0 13 (-1)
  g6
theorem e_X2_init {h : Hp} {a0 : Nat} (k0 : hk h a0 = some (2, 0)) : f_X2_init a0 h = some (hX2_init h a0) := by
  unfold f_X2_init
  rw [rc_eq k0, bd_some]
  refine mkQ (n := 900) k0 (by decide) fun g1 e1 => ?_
  have k1 : hk g1 a0 = some (2, 0) := by rw [e1]; exact hk_old k0
  refine mkQ (n := 901) k1 (by decide) fun g2 e2 => ?_
  have k2 : hk g2 a0 = some (2, 0) := by rw [e2]; exact hk_old k1
  refine mkQ (n := 901) k2 (by decide) fun g3 e3 => ?_
  have k3 : hk g3 a0 = some (2, 0) := by rw [e3]; exact hk_old k2
  refine mkQ (n := 900) k3 (by decide) fun g4 e4 => ?_
  have k4 : hk g4 a0 = some (2, 0) := by rw [e4]; exact hk_old k3
  refine mkI k4 fun g5 e5 => ?_
  have k5 : hk g5 a0 = some (2, 0) := by rw [e5]; exact k4
  refine mkI k5 fun g6 e6 => ?_
  have k6 : hk g6 a0 = some (2, 0) := by rw [e6]; exact k5
  subst e6; subst e5; subst e4; subst e3; subst e2; subst e1
  rfl
def hX6_init (h : Hp) (a0 : Nat) : Hp :=
  let g1 := sq (nw h 10 10) a0 0 (some h.1.length)
  let g2 := sq (nw g1 10 10) a0 1 (some g1.1.length)
  let g3 := sq (nw g2 10 10) a0 2 (some g2.1.length)
  let g4 := sq (nw g3 10 105) a0 4 (some g3.1.length)
  let g5 := sq (nw g4 10 20) a0 5 (some g4.1.length)
  let g6 := sq (nw g5 10 20) a0 6 (some g5.1.length)
  let g7 := sq (nw g6 10 20) a0 9 (some g6.1.length)
  let g8 := sq (nw g7 10 20) a0 10 (some g7.1.length)
  let g9 := sq (nw g8 10 20) a0 11 (some g8.1.length)
  g9
theorem e_X6_init {h : Hp} {a0 : Nat} (k0 : hk h a0 = some (5, 0)) : f_X6_init a0 h = some (hX6_init h a0) := by
  unfold f_X6_init
  rw [rc_eq k0, bd_some]
  refine mkQ (n := 10) k0 (by decide) fun g1 e1 => ?_
  have k1 : hk g1 a0 = some (5, 0) := by rw [e1]; exact hk_old k0
  refine mkQ (n := 10) k1 (by decide) fun g2 e2 => ?_
  have k2 : hk g2 a0 = some (5, 0) := by rw [e2]; exact hk_old k1
  refine mkQ (n := 10) k2 (by decide) fun g3 e3 => ?_
  have k3 : hk g3 a0 = some (5, 0) := by rw [e3]; exact hk_old k2
  refine mkQ (n := 105) k3 (by decide) fun g4 e4 => ?_
  have k4 : hk g4 a0 = some (5, 0) := by rw [e4]; exact hk_old k3
  refine mkQ (n := 20) k4 (by decide) fun g5 e5 => ?_
  have k5 : hk g5 a0 = some (5, 0) := by rw [e5]; exact hk_old k4
  refine mkQ (n := 20) k5 (by decide) fun g6 e6 => ?_
  have k6 : hk g6 a0 = some (5, 0) := by rw [e6]; exact hk_old k5
  refine mkQ (n := 20) k6 (by decide) fun g7 e7 => ?_
  have k7 : hk g7 a0 = some (5, 0) := by rw [e7]; exact hk_old k6
  refine mkQ (n := 20) k7 (by decide) fun g8 e8 => ?_
  have k8 : hk g8 a0 = some (5, 0) := by rw [e8]; exact hk_old k7
  refine mkQ (n := 20) k8 (by decide) fun g9 e9 => ?_
  have k9 : hk g9 a0 = some (5, 0) := by rw [e9]; exact hk_old k8
  subst e9; subst e8; subst e7; subst e6; subst e5; subst e4; subst e3; subst e2; subst e1
  rfl
