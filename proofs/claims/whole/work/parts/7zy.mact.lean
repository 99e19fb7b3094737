/-! The model's act. -/
theorem b255 (x : Int32) : x.toInt8.toInt32 &&& 255 = x &&& 255 := by
  apply Int32.toBitVec_inj.mp
  rw [Int32.toBitVec_and, Int32.toBitVec_and]
  apply BitVec.eq_of_getLsbD_eq
  intro i hi'
  rw [BitVec.getLsbD_and, BitVec.getLsbD_and]
  have e255 : (255 : Int32).toBitVec.getLsbD i = Nat.testBit 255 i := rfl
  rw [e255]
  by_cases c : i < 8
  · congr 1
    rw [Int8.toBitVec_toInt32, Int32.toBitVec_toInt8, BitVec.getLsbD_signExtend, BitVec.getLsbD_signExtend]
    have h32 : i < 32 := hi'
    simp only [c, h32, decide_true, Bool.true_and, if_true]
  · have : Nat.testBit 255 i = false := Nat.testBit_lt_two_pow (Nat.lt_of_lt_of_le (show 255 < 2 ^ 8 by decide) (Nat.pow_le_pow_right (by decide) (by omega)))
    rw [this, Bool.and_false, Bool.and_false]
theorem and255 (x : Int32) : ∃ m, m < 256 ∧ x &&& 255 = nI m := by
  have e : (x &&& 255).toBitVec.toNat = x.toBitVec.toNat &&& 255 := by rw [Int32.toBitVec_and, BitVec.toNat_and]; rfl
  have l : x.toBitVec.toNat &&& 255 ≤ 255 := Nat.and_le_right
  refine ⟨x.toBitVec.toNat &&& 255, by omega, ?_⟩
  apply Int32.toBitVec_inj.mp
  apply BitVec.eq_of_toNat_eq
  rw [e, pk_tn (by omega)]
section Ma2
variable {h : Hp} {B : Nat → Nat} {n N s : Nat}
theorem m_L30 (X : FX h) (v : Int32) (hn : n ≤ 900) (e3 : hi h 45 3 = nI n) : ∃ g, f_X9_act_L30 fu 45 v 0 h = some g ∧ FrM [47] [] h g ∧ ∀ j, j < n → hi g 47 j = (hi h 46 j).toInt8.toInt32 := by
  refine forN (fun n i g => f_X9_act_L30 n 45 v i g) n (by omega) (fun m g => FrM [47] [] h g ∧ ∀ j, j < m → hi g 47 j = (hi h 46 j).toInt8.toInt32) (fun g => FrM [47] [] h g ∧ ∀ j, j < n → hi g 47 j = (hi h 46 j).toInt8.toInt32) ?_ ?_ (i0 := 0) (Nat.zero_le _) ⟨FrM.rfl, fun n hn => absurd hn (Nat.not_lt_zero _)⟩
  · rintro k g I
    refine ⟨g, ?_, I⟩
    rw [f_X9_act_L30.eq_2, gi45 (I.1.fx X), bd_some, I.1.ef (by decide), e3, if_pos (Int32.le_refl _)]
  · rintro k i g hi' ⟨I1, I2⟩
    right
    have Xg := I1.fx X
    have q1 : ¬ nI n ≤ nI i := by rw [nI_leI (by omega) (by omega)]; omega
    refine ⟨si g 47 i (hi g 46 i).toInt8.toInt32, ?_, I1.trans (FrM.row (by decide) (by decide)), fun m hm => ?_⟩
    · rw [f_X9_act_L30.eq_2, gi45 Xg, bd_some, I1.ef (by decide), e3, if_neg q1, q45_1 Xg, bd_some, q45_0 Xg, bd_some, r46 Xg (by omega), bd_some, w47 Xg (by omega), bd_some, nI_1]
    · by_cases q : m = i
      · subst q
        rw [hi_hit, I1.ei _ (by decide) (by decide)]
      · rw [hi_col _ _ q]
        exact I2 m (by omega)
def AM : List Nat := [47, 48, 49, 50, 51, 52, 53, 54, 55, 56, 57, 58, 60, 61]
def AB : List Nat := [2, 3, 4, 5, 6, 7, 8, 9, 10, 25, 26, 27, 28, 29]
theorem m_act (gt : GT (tT B n) N) (X : FX h) (by46 : BY h 46 B n) (e2 : hi h 45 2 = nI n) (hs : s < 4) (sh : f_X9_isShelf (nI s) h = some (1, h)) : ∃ g, FrM AM AB h g ∧ hi g 45 2 = 0 ∧ Sum.elim (fun e => f_X9_act 45 (nI s) h = some (-1, g) ∧ MD g B n e ∧ ∀ s', s' < 4 → KX s' h g) (fun z => f_X9_act 45 (nI s) h = some (z.2.2.2.2.1, g) ∧ hi g 45 4 = 0 ∧ hi g 45 5 = -1 ∧ MA g s z.2.2.2 ∧ LOK N z ∧ ∀ s', s' < 4 → s' ≠ s → KX s' h g) (gTp (tT B n) 901 (0, 0, 0, A0)) := by
  have n9 := by46.1
  obtain ⟨g1, e1⟩ : ∃ z, z = si (si (si h 45 4 0) 45 5 (-1)) 45 3 (nI n) := ⟨_, rfl⟩
  have fr1 : FrM [] [4, 5, 3] h g1 := by rw [e1]; exact ((FrM.fld (by decide)).trans (FrM.fld (by decide))).trans (FrM.fld (by decide))
  have X1 := fr1.fx X
  obtain ⟨g2, a1, a2, a3⟩ := m_L30 X1 (nI s) n9 (by rw [e1, hi_hit])
  have X2 := a2.fx X1
  obtain ⟨g3, e3⟩ : ∃ z, z = si (si (si g2 45 2 0) 45 7 0) 45 25 4 := ⟨_, rfl⟩
  have fr3 : FrM [] [2, 7, 25] g2 g3 := by rw [e3]; exact ((FrM.fld (by decide)).trans (FrM.fld (by decide))).trans (FrM.fld (by decide))
  have X3 := fr3.fx X2
  obtain ⟨g4, b1', b2', b3', b4', b5', b6', b7', b8'⟩ := m_clear X3 (s := 4) (by decide)
  have X4 := b2'.fx X3
  have b1'' : f_X9_clear 45 4 g3 = some g4 := b1'
  obtain ⟨g5, e5⟩ : ∃ z, z = si (si g4 45 26 0) 45 27 0 := ⟨_, rfl⟩
  have fr5 : FrM [] [26, 27] g4 g5 := by rw [e5]; exact (FrM.fld (by decide)).trans (FrM.fld (by decide))
  have X5 := fr5.fx X4
  have f35 : ∀ k, k ∉ [2, 7, 25, 26, 27] → hi g5 45 k = hi g1 45 k := fun k hk' => by
    simp at hk'
    rw [fr5.ef (by simp; omega), b2'.ef (by simp), fr3.ef (by simp; omega), a2.ef (by simp)]
  have lx5 : LX g5 B n := by
    refine ⟨X5, ⟨n9, fun k hk' => ?_⟩, by rw [f35 3 (by decide), e1, hi_hit]⟩
    rw [fr5.ei _ (by decide) (by decide), b2'.ei _ (by decide) (by decide), fr3.ei _ (by decide) (by decide), a3 k hk', b255, fr1.ei _ (by decide) (by decide)]
    exact by46.2 k hk'
  have e7 : hi g5 45 7 = nI (tkE B n 0) := by
    rw [fr5.ef (by decide), b2'.ef (by decide), e3, hi_col _ _ (by decide), hi_hit]
    rfl
  obtain ⟨g6, c1, c2, c3, c4, c5⟩ := m_next lx5 (tkE_le B n 0) e7
  have m6 : MR g6 B n 0 := ⟨lx5.fr c2 (by decide) (by decide), ⟨by rw [c2.ef (by decide), f35 4 (by decide), e1]; simp (disch := (first | assumption | omega | decide)) only [hi_hit, hi_row, hi_col, hj_hit, hj_row, hj_col, hi_sj, hj_si, hq_si, hq_sj, hi_sq, hj_sq, hi_srh, hi_srm, hj_sr, hq_sr, hq_hit, hq_row, hq_col], by rw [c2.ef (by decide), f35 5 (by decide), e1]; simp (disch := (first | assumption | omega | decide)) only [hi_hit, hi_row, hi_col, hj_hit, hj_row, hj_col, hi_sj, hj_si, hq_si, hq_sj, hi_sq, hj_sq, hi_srh, hi_srm, hj_sr, hq_sr, hq_hit, hq_row, hq_col]⟩, c3, c4, c5⟩
  have X6 := m6.1.1
  have k56 : ∀ x k, x ≠ 45 → hi g6 x k = hi g4 x k := fun x k h45 => by rw [c2.ei _ (by simp) h45, fr5.ei _ (by simp) h45]
  have mb6 : MB g6 0 0 A0 := by
    refine ⟨by rw [c2.ef (by decide), e5]; simp (disch := (first | assumption | omega | decide)) only [hi_hit, hi_row, hi_col, hj_hit, hj_row, hj_col, hi_sj, hj_si, hq_si, hq_sj, hi_sq, hj_sq, hi_srh, hi_srm, hj_sr, hq_sr, hq_hit, hq_row, hq_col]; rfl, fun q hq' => ?_, fun q hq' => ?_, ?_, fun l hl => absurd hl (Nat.not_lt_zero _), ?_⟩
    · rw [k56 _ _ (by decide)]; exact (b3' q hq').1
    · rw [k56 _ _ (by decide), Nat.zero_testBit, if_neg (by decide)]; exact (b3' q hq').2
    · rw [k56 _ _ (by decide)]; exact b6'
    · show hi g6 61 4 = 0
      rw [k56 _ _ (by decide)]; exact b7'
  obtain ⟨g7, d1, d2, d3⟩ := m_L93 gt (nI s) 901 fu (0, 0, 0, A0) g6 0 (by unfold fu; omega) (by have := gt.1; show N < 0 + 901; omega) ⟨Nat.zero_le _, Nat.zero_le _, by decide, A0_ok, by decide⟩ m6 (by rw [c2.ef (by decide), e5, hi_hit]; rfl) mb6 (Nat.le_refl _) (by rw [k56 _ _ (by decide)]; exact b5')
  have F6 : FrM AM AB h g6 := ((((fr1.wk (by decide) (by decide)).trans (a2.wk (by decide) (by decide))).trans ((fr3.wk (by decide) (by decide)).trans (b2'.wk (by decide) (by decide)))).trans (fr5.wk (by decide) (by decide))).trans (c2.wk (by decide) (by decide))
  have F7 : FrM AM AB h g7 := F6.trans (d2.1.wk (by decide) (by decide))
  have X7 := d2.1.fx X6
  have e27 : hi g7 45 2 = 0 := by
    rw [d2.1.ef (by decide), c2.ef (by decide), fr5.ef (by decide), b2'.ef (by decide), e3]
    simp (disch := (first | assumption | omega | decide)) only [hi_hit, hi_row, hi_col, hj_hit, hj_row, hj_col, hi_sj, hj_si, hq_si, hq_sj, hi_sq, hj_sq, hi_srh, hi_srm, hj_sr, hq_sr, hq_hit, hq_row, hq_col]
  have kx6 : ∀ s', s' < 4 → KX s' h g6 := fun s' hs' => by
    have k1 : KX s' h g3 := ((KX.frm fr1 (by decide)).trans (KX.frm a2 (by decide))).trans (KX.frm fr3 (by decide))
    have k2 : KX s' g3 g4 := by
      refine ⟨fun q hq' => (b4' _ (by omega)).1, b8' s' (by omega), fun l hl x h1 h2 => b2'.ei _ (by simp; omega) (by omega), fun j hj => ⟨b2'.ei _ (by decide) (by decide), b2'.ei _ (by decide) (by decide)⟩⟩
    exact (k1.trans k2).trans ((KX.frm fr5 (by decide)).trans (KX.frm c2 (by decide)))
  have kx7 : ∀ s', s' < 4 → KX s' h g7 := fun s' hs' => (kx6 s' hs').trans (d2.2.kx hs')
  -- the rows of the method up to its lines
  have un : ∀ z, (b1 (f_X9_isGood 45 g7) fun x63 h59 =>
    if x63 = (0 : Int32) then
      some ((-1 : Int32), h59)
    else
      (rc h59 (some 45) 8).bind fun g67 =>
      (f_X9_lay g67 (nI s) h59).bind fun h65 =>
      (getQ h65 (some 45) 8 12).bind fun x69 =>
      (rdI h65 x69 10 (nI s)).bind fun x71 =>
      some (x71, h65)) = z → f_X9_act 45 (nI s) h = z := by
    intro z hz
    have y1 : FX (si h 45 4 0) := FX_of X rfl (fun _ _ => rfl)
    have y2 : FX (si (si h 45 4 0) 45 5 (-1)) := FX_of X rfl (fun _ _ => rfl)
    have y3 : FX (si g2 45 2 0) := FX_of X2 rfl (fun _ _ => rfl)
    have y4 : FX (si (si g2 45 2 0) 45 7 0) := FX_of X2 rfl (fun _ _ => rfl)
    have y5 : FX (si g4 45 26 0) := FX_of X4 rfl (fun _ _ => rfl)
    have v2 : hi (si (si h 45 4 0) 45 5 (-1)) 45 2 = nI n := by rw [hi_col _ _ (by decide), hi_col _ _ (by decide)]; exact e2
    have v25 : hi g3 45 25 = 4 := by rw [e3, hi_hit]
    unfold f_X9_act
    rw [sh, b1_some, if_neg (by decide), pi45 X, bd_some, pi45 y1, bd_some, gi45 y2, bd_some, v2, pi45 y2, bd_some, ← e1, a1, bd_some, pi45 X2, bd_some, pi45 y3, bd_some, pi45 y4, bd_some, ← e3, gi45 X3, bd_some, v25, rc45 X3, bd_some, b1'', bd_some, pi45 X4, bd_some, pi45 y5, bd_some, ← e5, rc45 X5, bd_some, c1, bd_some, d1, bd_some, rc45 X7, bd_some]
    exact hz
  cases hr : gTp (tT B n) 901 (0, 0, 0, A0) with
  | inl e =>
    rw [hr] at d3
    have d3' : MD g7 B n e := d3
    exact ⟨g7, F7, e27, un _ (by rw [m_bad d3', b1_some, if_pos rfl]), d3', kx7⟩
  | inr z =>
    rw [hr] at d3
    obtain ⟨o, p1, p2, p3, base, p4, p5⟩ := d3
    have zN := o.1
    have gN := gt.1
    obtain ⟨g8, q1, q2, q3, q4⟩ := m_lay X7 hs (by omega) p5 p3 o.2.2.2.1.1.1
    have X8 := q2.fx X7
    refine ⟨g8, F7.trans (q2.wk (by decide) (by decide)), (q2.ef (by decide)).trans e27, un _ ?_, (q2.ef (by decide)).trans p1.2.1.1, (q2.ef (by decide)).trans p1.2.1.2, q3, o, fun s' hs' ne => (kx7 s' hs').trans (q4 s' hs' ne)⟩
    rw [m_good p1, b1_some, if_neg (by decide), rc45 X7, bd_some, q1, bd_some, q45_12 X8, bd_some, r49 X8 (by omega), bd_some, q3.2.1]
end Ma2
