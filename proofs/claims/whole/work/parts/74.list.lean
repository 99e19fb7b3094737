/-! Holidays listed by days: the class's cells and the model's rows. -/
def FrP (H R : Nat → Nat → Prop) (h h' : Hp) : Prop := h'.1 = h.1 ∧ (∀ a k, ¬ H a k → hq h' a k = hq h a k) ∧ (∀ a k, ¬ R a k → hi h' a k = hi h a k) ∧ ∀ a k, ¬ R a k → hj h' a k = hj h a k
section Fp
variable {H R H' R' : Nat → Nat → Prop} {h h' h'' : Hp}
theorem FrP.rfl : FrP H R h h := ⟨Eq.refl _, fun _ _ _ => Eq.refl _, fun _ _ _ => Eq.refl _, fun _ _ _ => Eq.refl _⟩
theorem FrP.trans (a : FrP H R h h') (b : FrP H R h' h'') : FrP H R h h'' :=
  ⟨b.1.trans a.1, fun x k q => (b.2.1 x k q).trans (a.2.1 x k q), fun x k q => (b.2.2.1 x k q).trans (a.2.2.1 x k q), fun x k q => (b.2.2.2 x k q).trans (a.2.2.2 x k q)⟩
theorem FrP.mono (a : FrP H R h h') (hH : ∀ x k, H x k → H' x k) (hR : ∀ x k, R x k → R' x k) : FrP H' R' h h' :=
  ⟨a.1, fun x k q => a.2.1 x k (fun z => q (hH x k z)), fun x k q => a.2.2.1 x k (fun z => q (hR x k z)), fun x k q => a.2.2.2 x k (fun z => q (hR x k z))⟩
theorem FrP.ofFr {L : List Nat} {B : List (Nat × Nat)} (a : Fr L B h h') (hL : ∀ x ∈ L, ∀ k, R x k) (hB : ∀ p ∈ B, R p.1 p.2) : FrP H R h h' :=
  ⟨a.1, fun x k _ => a.2.1 x k, fun x k q => a.2.2.1 x k (fun z => q (hL x z k)) (fun z => q (hB _ z)), fun x k q => a.2.2.2 x k (fun z => q (hL x z k)) (fun z => q (hB _ z))⟩
theorem FrP.si {a k : Nat} {v : Int32} (r : R a k) : FrP H R h (si h a k v) :=
  ⟨Eq.refl _, fun _ _ _ => Eq.refl _, fun b j q => by
    rw [hi_put, if_neg]
    rintro ⟨rfl, rfl⟩
    exact q r, fun _ _ _ => Eq.refl _⟩
theorem FrP.sj {a k : Nat} {v : Int64} (r : R a k) : FrP H R h (sj h a k v) :=
  ⟨Eq.refl _, fun _ _ _ => Eq.refl _, fun _ _ _ => Eq.refl _, fun b j q => by
    show up2 h.2.2.1 a k v b j = _
    unfold up2
    rw [if_neg]
    · rfl
    · rintro ⟨rfl, rfl⟩
      exact q r⟩
theorem FrP.sq {a k : Nat} {v : Option Nat} (r : H a k) : FrP H R h (sq h a k v) :=
  ⟨Eq.refl _, fun b j q => by
    show up2 h.2.2.2 a k v b j = _
    unfold up2
    rw [if_neg]
    · rfl
    · rintro ⟨rfl, rfl⟩
      exact q r, fun _ _ _ => Eq.refl _, fun _ _ _ => Eq.refl _⟩
theorem FrP.kd (a : FrP H R h h') (x : Nat) : hk h' x = hk h x := by
  unfold hk
  rw [a.1]
theorem FrP.fx (a : FrP H R h h') (F : FX h) (hH : ∀ p ∈ rfT, ¬ H p.1 p.2.1) : FX h' := FX_of F a.1 fun p hp => a.2.1 _ _ (hH p hp)
end Fp
def H37 : Nat → Nat → Prop := fun a _ => a = 37
theorem H37_fx : ∀ p ∈ rfT, ¬ H37 p.1 p.2.1 := by
  unfold H37
  decide
def RN (nf : Nat) (fa : Nat → Nat) : Nat → Nat → Prop := fun a k => (a = 27 ∧ 9 ≤ k) ∨ ∃ f, f < nf ∧ a = fa f ∧ 9 ≤ k
def RS (nf : Nat) (fa : Nat → Nat) : Nat → Nat → Prop := fun a k => (33 ≤ a ∧ a ≤ 36) ∨ RN nf fa a k
theorem CFx.frp {h h' : Hp} {F : Nat → Nat → Int32} {nf : Nat} {fa : Nat → Nat} (C : CFx h F nf fa) (fr : FrP H37 (RS nf fa) h h') : CFx h' F nf fa := by
  intro f hf
  obtain ⟨c0, c1, c2, c3, c4, c5, c6, c7, c8, c9, c10⟩ := C f hf
  have e : ∀ k, k < 9 → hi h' (fa f) k = hi h (fa f) k := fun k hk' => fr.2.2.1 _ _ (fun q => by
    rcases q with q | q | ⟨f', -, -, q⟩ <;> omega)
  have eq : hq h' (fa f) 8 = hq h (fa f) 8 := fr.2.1 _ _ (fun q => by have q' : fa f = 37 := q; omega)
  rw [fr.kd, eq, e 0 (by omega), e 1 (by omega), e 2 (by omega), e 3 (by omega), e 4 (by omega), e 5 (by omega), e 6 (by omega), e 7 (by omega)]
  exact ⟨c0, c1, c2, c3, c4, c5, c6, c7, c8, c9, c10⟩
theorem RN_RS {nf : Nat} {fa : Nat → Nat} : ∀ a k, RN nf fa a k → RS nf fa a k := fun _ _ q => Or.inr q
theorem SHT.frp {P : Nat → Prop} (hP : ∀ x, P x → OKA x) {g g' : Hp} {b : Nat} {A : Ac} {pd : Nat → Nat → Int32} {pl tm : Int32} {F : Nat → Nat → Int32} {nf : Nat} {fa : Nat → Nat} (S : SHT P g b A pd pl tm) (C : CFx g F nf fa) (fr : FrP H37 (RN nf fa) g g') : SHT P g' b A pd pl tm := by
  obtain ⟨S1, S2, S3, S4, S5⟩ := S
  have k : ∀ x j, x < 88 → (x = 27 → j < 9) → hi g' x j = hi g x j := fun x j h1 h2 => fr.2.2.1 _ _ (fun q => by
    rcases q with q | ⟨f, hf, q, -⟩
    · have := h2 q.1; omega
    · have := (C f hf).1; omega)
  refine ⟨fr.fx S1 H37_fx, (fr.2.1 _ _ (fun q => absurd (show (27 : Nat) = 37 from q) (by decide))).trans S2, S3.kp ⟨fun x y e => by rw [fr.kd]; exact e, fun x hx h1 => ⟨fun j => fr.2.2.1 _ _ (fun q => ?_), fun j => fr.2.1 _ _ (fun q => ?_)⟩⟩, ⟨fun i u hi' hu => by rw [k 32 _ (by decide) (by omega)]; exact S4.1 i u hi' hu, by rw [k 27 2 (by decide) (by decide)]; exact S4.2.1, by rw [k 27 3 (by decide) (by decide)]; exact S4.2.2⟩, fun u hu => ?_⟩
  · have o := hP x hx
    unfold OKA at o
    rcases q with q | ⟨f, hf, q, -⟩
    · omega
    · rw [q] at h1
      exact h1 (C f hf).2.1
  · have o := hP x hx
    unfold OKA at o
    have q' : x = 37 := q
    omega
  · rw [k 33 _ (by decide) (by omega), k 34 _ (by decide) (by omega), k 35 _ (by decide) (by omega)]
    exact S5 u hu
section Ip
variable (F : Nat → Nat → Int32) (r : Nat → Nat) (f : Nat)
/-- where a fact comes among those listed -/
def ipos : Nat → Nat
  | 0 => 0
  | n + 1 => if F 2 f < F 2 (r n) then ipos n else n + 1
def insr (p : Nat) : Nat → Nat := fun j => if j < p then r j else if j = p then f else r (j - 1)
theorem ipos_le : ∀ n, ipos F r f n ≤ n
  | 0 => Nat.le_refl _
  | n + 1 => by
    have := ipos_le n
    unfold ipos
    split <;> omega
theorem ipos_hi : ∀ n j, ipos F r f n ≤ j → j < n → F 2 f < F 2 (r j)
  | 0, j, _, h => absurd h (Nat.not_lt_zero _)
  | n + 1, j, h1, h2 => by
    unfold ipos at h1
    split at h1
    · rename_i c
      rcases Nat.lt_or_ge j n with q | q
      · exact ipos_hi n j h1 q
      · rw [show j = n by omega]; exact c
    · omega
theorem ipos_lo : ∀ n, 0 < ipos F r f n → ¬ F 2 f < F 2 (r (ipos F r f n - 1))
  | 0, h => absurd h (Nat.lt_irrefl _)
  | n + 1, h => by
    by_cases c : F 2 f < F 2 (r n)
    · have e : ipos F r f (n + 1) = ipos F r f n := by show (if _ then _ else _) = _; rw [if_pos c]
      rw [e] at h ⊢
      exact ipos_lo n h
    · have e : ipos F r f (n + 1) = n + 1 := by show (if _ then _ else _) = _; rw [if_neg c]
      rw [e, Nat.add_sub_cancel]
      exact c
theorem insr_all {Q : Nat → Prop} {p n : Nat} (hp : p ≤ n) (h : ∀ j, j < n → Q (r j)) (hf : Q f) : ∀ j, j < n + 1 → Q (insr r f p j) := by
  intro j hj
  unfold insr
  by_cases c : j < p
  · rw [if_pos c]; exact h j (by omega)
  · rw [if_neg c]
    by_cases e : j = p
    · rw [if_pos e]; exact hf
    · rw [if_neg e]; exact h (j - 1) (by omega)
end Ip
/-- listed holidays, with the facts ahead of m -/
def LHn (ow : Nat → Int32) (F : Nat → Nat → Int32) (wk k : Int32) : Nat → (Nat → Nat) × Nat
  | 0 => (fun _ => 0, 0)
  | m + 1 => if cnts F 3 wk k m = true ∧ ¬ ow m ≤ 0 then (insr (LHn ow F wk k m).1 m (ipos F (LHn ow F wk k m).1 m (LHn ow F wk k m).2), (LHn ow F wk k m).2 + 1) else LHn ow F wk k m
section Lh
variable {ow : Nat → Int32} {F : Nat → Nat → Int32} {wk k : Int32}
theorem LHn_le (m : Nat) : (LHn ow F wk k m).2 ≤ m := by
  induction m with
  | zero => exact Nat.le_refl _
  | succ m ih =>
    rw [LHn.eq_2]
    split
    · simp only; omega
    · omega
theorem LHn_at (m : Nat) : ∀ j, j < (LHn ow F wk k m).2 → (LHn ow F wk k m).1 j < m ∧ cnts F 3 wk k ((LHn ow F wk k m).1 j) = true ∧ ¬ ow ((LHn ow F wk k m).1 j) ≤ 0 := by
  induction m with
  | zero => intro j hj; exact absurd hj (Nat.not_lt_zero _)
  | succ m ih =>
    rw [LHn.eq_2]
    split
    · rename_i c
      exact insr_all (LHn ow F wk k m).1 m (Q := fun x => x < m + 1 ∧ cnts F 3 wk k x = true ∧ ¬ ow x ≤ 0) (ipos_le _ _ _ _) (fun j hj => ⟨by have := (ih j hj).1; omega, (ih j hj).2⟩) ⟨by omega, c⟩
    · intro j hj
      have := ih j hj
      exact ⟨by omega, this.2⟩
theorem LHn_sorted (m : Nat) : ∀ i j, i ≤ j → j < (LHn ow F wk k m).2 → (F 2 ((LHn ow F wk k m).1 i)).toInt ≤ (F 2 ((LHn ow F wk k m).1 j)).toInt := by
  induction m with
  | zero => intro i j _ hj; exact absurd hj (Nat.not_lt_zero _)
  | succ m ih =>
    rw [LHn.eq_2]
    split
    · rename_i c
      obtain ⟨r, er⟩ : ∃ r, r = (LHn ow F wk k m).1 := ⟨_, rfl⟩
      obtain ⟨n, en⟩ : ∃ n, n = (LHn ow F wk k m).2 := ⟨_, rfl⟩
      rw [← er, ← en] at ih ⊢
      have hp := ipos_le F r m n
      have hh := ipos_hi F r m n
      have hl := ipos_lo F r m n
      obtain ⟨p, ep⟩ : ∃ p, p = ipos F r m n := ⟨_, rfl⟩
      rw [← ep] at hp hh hl ⊢
      have lo : ∀ j, j < p → (F 2 (r j)).toInt ≤ (F 2 m).toInt := fun j hj => by
        have h1 := hl (by omega)
        have h2 := ih j (p - 1) (by omega) (by omega)
        have h3 : ¬ (F 2 m).toInt < (F 2 (r (p - 1))).toInt := fun q => h1 (Int32.lt_iff_toInt_lt.mpr q)
        omega
      have hi2 : ∀ j, p ≤ j → j < n → (F 2 m).toInt ≤ (F 2 (r j)).toInt := fun j h1 h2 => by
        have := Int32.lt_iff_toInt_lt.mp (hh j h1 h2)
        omega
      intro i j hij hj
      simp only at hj ⊢
      unfold insr
      by_cases a1 : i < p
      · rw [if_pos a1]
        by_cases b1 : j < p
        · rw [if_pos b1]; exact ih i j hij (by omega)
        · rw [if_neg b1]
          by_cases b2 : j = p
          · rw [if_pos b2]; exact lo i a1
          · rw [if_neg b2]; exact ih i (j - 1) (by omega) (by omega)
      · rw [if_neg a1]
        by_cases a2 : i = p
        · rw [if_pos a2, if_neg (by omega)]
          by_cases b2 : j = p
          · rw [if_pos b2]; exact Int.le_refl _
          · rw [if_neg b2]; exact hi2 (j - 1) (by omega) (by omega)
        · rw [if_neg a2, if_neg (by omega), if_neg (by omega)]
          exact ih (i - 1) (j - 1) (by omega) (by omega)
    · exact ih
theorem LHn_inj (m : Nat) : ∀ i j, i < (LHn ow F wk k m).2 → j < (LHn ow F wk k m).2 → (LHn ow F wk k m).1 i = (LHn ow F wk k m).1 j → i = j := by
  induction m with
  | zero => intro i j hi' _; exact absurd hi' (Nat.not_lt_zero _)
  | succ m ih =>
    rw [LHn.eq_2]
    have lt := fun j hj => (LHn_at (ow := ow) (F := F) (wk := wk) (k := k) m j hj).1
    split
    · obtain ⟨r, er⟩ : ∃ r, r = (LHn ow F wk k m).1 := ⟨_, rfl⟩
      obtain ⟨n, en⟩ : ∃ n, n = (LHn ow F wk k m).2 := ⟨_, rfl⟩
      rw [← er, ← en] at ih lt ⊢
      have hp := ipos_le F r m n
      obtain ⟨p, ep⟩ : ∃ p, p = ipos F r m n := ⟨_, rfl⟩
      rw [← ep] at hp ⊢
      intro i j hi' hj e
      simp only at hi' hj e
      unfold insr at e
      by_cases a1 : i < p
      · have li := lt i (by omega)
        rw [if_pos a1] at e
        by_cases b1 : j < p
        · rw [if_pos b1] at e; exact ih i j (by omega) (by omega) e
        · rw [if_neg b1] at e
          by_cases b2 : j = p
          · rw [if_pos b2] at e; omega
          · rw [if_neg b2] at e
            have := ih i (j - 1) (by omega) (by omega) e
            omega
      · rw [if_neg a1] at e
        by_cases a2 : i = p
        · rw [if_pos a2] at e
          by_cases b1 : j < p
          · have := lt j (by omega)
            rw [if_pos b1] at e; omega
          · rw [if_neg b1] at e
            by_cases b2 : j = p
            · omega
            · have := lt (j - 1) (by omega)
              rw [if_neg b2] at e; omega
        · have li := lt (i - 1) (by omega)
          rw [if_neg a2] at e
          by_cases b1 : j < p
          · rw [if_pos b1] at e
            have := ih (i - 1) j (by omega) (by omega) e
            omega
          · rw [if_neg b1] at e
            by_cases b2 : j = p
            · rw [if_pos b2] at e; omega
            · rw [if_neg b2] at e
              have := ih (i - 1) (j - 1) (by omega) (by omega) e
              omega
    · exact ih
end Lh
theorem c_insert {g : Hp} {F : Nat → Nat → Int32} {nf c f : Nat} {fa r : Nat → Nat} (X : FX g) (C : CFx g F nf fa) (hf : f < nf) (e12 : hi g 27 12 = nI c) (hc : c < 250) (hr : ∀ j, j < c → r j < nf ∧ hq g 37 j = some (fa (r j))) :
    ∃ g', f_X4_insert 27 (some (fa f)) g = some g' ∧ FrP H37 (RN nf fa) g g' ∧ (∀ a j, a ≠ 27 ∨ j ≠ 12 → hi g' a j = hi g a j) ∧ hi g' 27 12 = nI (c + 1) ∧ ∀ j, j < c + 1 → hq g' 37 j = some (fa (insr r f (ipos F r f c) j)) := by
  have n0 : ¬ nI c < 0 := nI_pos (by omega)
  have n1 : nI c < nI 250 := by rw [nI_ltI (by omega) (by omega)]; omega
  have key : ∃ o, f_X4_insert_L25 fu 27 (some (fa f)) (nI c) g = some o ∧ ∃ g1, (o = Sum.inl (nI (ipos F r f c), g1) ∨ o = Sum.inr (nI (ipos F r f c), g1)) ∧ FrP H37 (RN nf fa) g g1 ∧ (∀ a j, hi g1 a j = hi g a j) ∧ (∀ j, j < ipos F r f c → hq g1 37 j = some (fa (r j))) ∧ ∀ j, ipos F r f c < j → j ≤ c → hq g1 37 j = some (fa (r (j - 1))) := by
    refine whl (fun n (p : Nat × Hp) => f_X4_insert_L25 n 27 (some (fa f)) (nI p.1) p.2) (fun p => p.1) (fun p => p.1 ≤ c ∧ ipos F r f p.1 = ipos F r f c ∧ FrP H37 (RN nf fa) g p.2 ∧ (∀ a j, hi p.2 a j = hi g a j) ∧ (∀ j, j < p.1 → hq p.2 37 j = some (fa (r j))) ∧ ∀ j, p.1 < j → j ≤ c → hq p.2 37 j = some (fa (r (j - 1))))
      (fun o => ∃ g1, (o = Sum.inl (nI (ipos F r f c), g1) ∨ o = Sum.inr (nI (ipos F r f c), g1)) ∧ FrP H37 (RN nf fa) g g1 ∧ (∀ a j, hi g1 a j = hi g a j) ∧ (∀ j, j < ipos F r f c → hq g1 37 j = some (fa (r j))) ∧ ∀ j, ipos F r f c < j → j ≤ c → hq g1 37 j = some (fa (r (j - 1)))) ?_ fu (c, g) ⟨Nat.le_refl _, rfl, FrP.rfl, fun _ _ => rfl, fun j hj => (hr j hj).2, fun j h1 h2 => by simp only at h1; omega⟩ (fu_gt (by show c ≤ _; omega))
    rintro n ⟨i, g1⟩ ⟨I0, I1, I2, I3, I4, I5⟩
    simp only at I0 I1 I2 I3 I4 I5
    have X1 := I2.fx X H37_fx
    have C1 := C.frp (I2.mono (fun _ _ q => q) RN_RS)
    cases i with
    | zero =>
      left
      refine ⟨Sum.inr (nI 0, g1), ?_, g1, Or.inr (by rw [← I1]; rfl), I2, I3, fun j hj => ?_, fun j h1 h2 => ?_⟩
      · show f_X4_insert_L25 (n + 1) 27 (some (fa f)) (nI 0) g1 = _
        rw [f_X4_insert_L25.eq_2, if_pos (show nI 0 ≤ (0 : Int32) by decide)]
      · rw [← I1] at hj; exact absurd hj (Nat.not_lt_zero _)
      · rw [← I1] at h1; exact I5 j h1 h2
    | succ m =>
      have m1 : ¬ nI (m + 1) ≤ 0 := nI_nle (by omega) (by omega)
      have hm : m < 250 := by omega
      obtain ⟨rm1, -⟩ := hr m (by omega)
      have q37 := I4 m (by omega)
      obtain ⟨-, km, -, -, m4, -⟩ := C1 (r m) rm1
      obtain ⟨-, kf, -, -, f4, -⟩ := C1 f hf
      have K1 : FK g1 (fa (r m)) := km
      have K2 : FK g1 (fa f) := kf
      have is : ipos F r f (m + 1) = if F 2 f < F 2 (r m) then ipos F r f m else m + 1 := rfl
      by_cases cc : F 2 f < F 2 (r m)
      · rw [if_pos cc] at is
        right
        have wq : wrQ g1 (some 37) 14 (nI (m + 1)) (some (fa (r m))) = some (sq g1 37 (m + 1) (some (fa (r m)))) := wrQ_eq (X1.kd (a := 37) (by decide) (by decide) rfl) km (by omega) (by decide)
        refine ⟨(m, sq g1 37 (m + 1) (some (fa (r m)))), ?_, ⟨by simp only; omega, by simp only; rw [← is]; exact I1, I2.trans (FrP.sq rfl), I3, fun j hj => ?_, fun j h1 h2 => ?_⟩, by simp only; omega⟩
        · simp only
          rw [f_X4_insert_L25.eq_2]
          simp (disch := (first | assumption | (simp only [FX_si, FX_sj, FX_sr, WX_si, WX_sj, WX_sr, FK_si, FK_sj, FK_sr]; assumption) | omega | decide)) only [m1, nI_pred, q37, m4, f4, cc, wq, pk_m1, ↓reduceIte, if_true, if_false, i10, i01, eq_self, wq7, wq8, wq9, wq10, wrc, wgi, wpi, wpz, wn1, wn2, wn3, wn4, wr1, wr2, wr3, wr4, ww1, ww2, ww3, ww4, fgi, fgq, fpi, frc, at18, at19, at21, at22, at23, at24, at25, at26, at_neg, wat1, wat2, wat3, wat4, reduceCtorEq, bd_some, b1_some, b2_some, b3_some, b4_some, c1_eq, elim_inl, elim_inr, zok0, zok1, getQ_si, getQ_sj, getQ_sr, q8_0, q8_1, q8_2, q8_4, q8_7, q8_8, q8_9, q8_10, q8_11, q9_0, q9_3, q9_4, q9_8, q17_0, q17_1, q17_2, q17_4, q17_5, q17_6, q17_9, q17_10, q17_11, q27_4, q27_5, q27_6, q27_7, q27_8, q27_11, q45_0, q45_1, q45_11, q45_12, q45_13, q45_14, q45_15, q45_16, q45_17, q45_18, q45_19, q45_20, q45_21, q45_22, q45_23, q45_24, q45_30, q45_31, q45_32, q45_33, q45_34, q45_35, q45_36, q45_37, q45_38, q45_39, q45_43, q45_44, q45_45, q45_46, q45_47, q45_48, q45_52, q45_53, q45_54, q45_59, q45_60, q45_61, q45_62, q45_65, q45_67, q45_68, gi8, gj8, pi8, pz8, pj8, rc8, gi9, gj9, pi9, pz9, pj9, rc9, gi17, gj17, pi17, pz17, pj17, rc17, gi27, gj27, pi27, pz27, pj27, rc27, gi45, gj45, pi45, pz45, pj45, rc45, aln_si, aln_sj, aln_sq, rc_si, rc_sj, rc_sq, n0, n1, n10, n11, n12, n13, n14, n15, n16, n18, n19, n20, n21, n22, n23, n24, n25, n26, n29, n30, n31, n32, n33, n34, n35, n36, n37, n38, n39, n40, n42, n43, n44, n46, n47, n48, n49, n50, n51, n52, n53, n54, n55, n56, n57, n58, n59, n60, n61, n62, n63, n64, n65, n66, n67, n68, n69, n70, n71, n72, n73, n74, n75, n76, n77, n78, n79, n80, n81, n82, n83, n84, n85, n86, n87, r0, r1, r10, r11, r12, r13, r14, r15, r16, r18, r19, r20, r21, r22, r23, r24, r25, r26, r29, r30, r31, r32, r33, r34, r35, r36, r37, r38, r39, r40, r42, r43, r44, r46, r47, r48, r49, r50, r51, r52, r53, r54, r55, r56, r57, r58, r59, r60, r61, r62, r63, r64, r65, r66, r67, r68, r69, r70, r71, r72, r73, r74, r75, r76, r77, r78, r79, r80, r81, r82, r83, r84, r85, r86, r87, w10, w11, w12, w13, w18, w19, w20, w21, w22, w23, w24, w25, w26, w30, w31, w32, w33, w34, w35, w36, w38, w39, w40, w43, w44, w46, w47, w48, w49, w50, w51, w52, w53, w54, w55, w56, w57, w58, w59, w60, w61, w62, w63, w64, w65, w66, w67, w68, w69, w70, w71, w72, w73, w74, w75, w76, w77, w78, w79, w80, w81, w82, w83, w84, w85, w86, w87, hi_hit, hi_row, hi_col, hj_hit, hj_row, hj_col, hi_sj, hj_si, hq_si, hq_sj, hi_sq, hj_sq, hi_srh, hi_srm]
        · simp only at hj ⊢
          rw [hq_col _ _ (by omega)]
          exact I4 j (by omega)
        · simp only at h1 ⊢
          by_cases z : j = m + 1
          · subst z
            rw [hq_hit, Nat.add_sub_cancel]
          · rw [hq_col _ _ z]
            exact I5 j (by omega) h2
      · rw [if_neg cc] at is
        left
        have ie : ipos F r f c = m + 1 := by rw [← I1, is]
        refine ⟨Sum.inl (nI (m + 1), g1), ?_, g1, Or.inl (by rw [ie]), I2, I3, fun j hj => I4 j (by omega), fun j h1 h2 => I5 j (by omega) h2⟩
        rw [f_X4_insert_L25.eq_2]
        simp (disch := (first | assumption | (simp only [FX_si, FX_sj, FX_sr, WX_si, WX_sj, WX_sr, FK_si, FK_sj, FK_sr]; assumption) | omega | decide)) only [m1, nI_pred, q37, m4, f4, cc, ↓reduceIte, if_true, if_false, i10, i01, eq_self, wq7, wq8, wq9, wq10, wrc, wgi, wpi, wpz, wn1, wn2, wn3, wn4, wr1, wr2, wr3, wr4, ww1, ww2, ww3, ww4, fgi, fgq, fpi, frc, at18, at19, at21, at22, at23, at24, at25, at26, at_neg, wat1, wat2, wat3, wat4, reduceCtorEq, bd_some, b1_some, b2_some, b3_some, b4_some, c1_eq, elim_inl, elim_inr, zok0, zok1, getQ_si, getQ_sj, getQ_sr, q8_0, q8_1, q8_2, q8_4, q8_7, q8_8, q8_9, q8_10, q8_11, q9_0, q9_3, q9_4, q9_8, q17_0, q17_1, q17_2, q17_4, q17_5, q17_6, q17_9, q17_10, q17_11, q27_4, q27_5, q27_6, q27_7, q27_8, q27_11, q45_0, q45_1, q45_11, q45_12, q45_13, q45_14, q45_15, q45_16, q45_17, q45_18, q45_19, q45_20, q45_21, q45_22, q45_23, q45_24, q45_30, q45_31, q45_32, q45_33, q45_34, q45_35, q45_36, q45_37, q45_38, q45_39, q45_43, q45_44, q45_45, q45_46, q45_47, q45_48, q45_52, q45_53, q45_54, q45_59, q45_60, q45_61, q45_62, q45_65, q45_67, q45_68, gi8, gj8, pi8, pz8, pj8, rc8, gi9, gj9, pi9, pz9, pj9, rc9, gi17, gj17, pi17, pz17, pj17, rc17, gi27, gj27, pi27, pz27, pj27, rc27, gi45, gj45, pi45, pz45, pj45, rc45, aln_si, aln_sj, aln_sq, rc_si, rc_sj, rc_sq, n0, n1, n10, n11, n12, n13, n14, n15, n16, n18, n19, n20, n21, n22, n23, n24, n25, n26, n29, n30, n31, n32, n33, n34, n35, n36, n37, n38, n39, n40, n42, n43, n44, n46, n47, n48, n49, n50, n51, n52, n53, n54, n55, n56, n57, n58, n59, n60, n61, n62, n63, n64, n65, n66, n67, n68, n69, n70, n71, n72, n73, n74, n75, n76, n77, n78, n79, n80, n81, n82, n83, n84, n85, n86, n87, r0, r1, r10, r11, r12, r13, r14, r15, r16, r18, r19, r20, r21, r22, r23, r24, r25, r26, r29, r30, r31, r32, r33, r34, r35, r36, r37, r38, r39, r40, r42, r43, r44, r46, r47, r48, r49, r50, r51, r52, r53, r54, r55, r56, r57, r58, r59, r60, r61, r62, r63, r64, r65, r66, r67, r68, r69, r70, r71, r72, r73, r74, r75, r76, r77, r78, r79, r80, r81, r82, r83, r84, r85, r86, r87, w10, w11, w12, w13, w18, w19, w20, w21, w22, w23, w24, w25, w26, w30, w31, w32, w33, w34, w35, w36, w38, w39, w40, w43, w44, w46, w47, w48, w49, w50, w51, w52, w53, w54, w55, w56, w57, w58, w59, w60, w61, w62, w63, w64, w65, w66, w67, w68, w69, w70, w71, w72, w73, w74, w75, w76, w77, w78, w79, w80, w81, w82, w83, w84, w85, w86, w87, hi_hit, hi_row, hi_col, hj_hit, hj_row, hj_col, hi_sj, hj_si, hq_si, hq_sj, hi_sq, hj_sq, hi_srh, hi_srm]
  obtain ⟨o, h1, g1, h2, h3, h4, h5, h6⟩ := key
  have X1 := h3.fx X H37_fx
  have hp := ipos_le F r f c
  have kf : hk g1 (fa f) = some (1, 0) := by rw [h3.kd]; exact (C f hf).2.1
  have wq : wrQ g1 (some 37) 14 (nI (ipos F r f c)) (some (fa f)) = some (sq g1 37 (ipos F r f c) (some (fa f))) := wrQ_eq (X1.kd (a := 37) (by decide) (by decide) rfl) kf (by omega) (by decide)
  have e12' : hi g1 27 12 = nI c := by rw [h4]; exact e12
  obtain ⟨g2, eg2⟩ : ∃ g2, g2 = sq g1 37 (ipos F r f c) (some (fa f)) := ⟨_, rfl⟩
  rw [← eg2] at wq
  have fr2 : FrP H37 (RN nf fa) g g2 := by rw [eg2]; exact h3.trans (FrP.sq rfl)
  have X2 := fr2.fx X H37_fx
  have e12'' : hi g2 27 12 = nI c := by rw [eg2]; exact e12'
  refine ⟨si g2 27 12 (nI (c + 1)), ?_, fr2.trans (FrP.si (Or.inl ⟨rfl, by decide⟩)), fun a j hj => ?_, hi_hit _ _ _, fun j hj => ?_⟩
  · unfold f_X4_insert
    rcases h2 with rfl | rfl
    · simp (disch := (first | assumption | (simp only [FX_si, FX_sj, FX_sr, WX_si, WX_sj, WX_sr, FK_si, FK_sj, FK_sr]; assumption) | omega | decide)) only [e12, n0, n1, h1, wq, e12'', nI_1, ↓reduceIte, if_true, if_false, i10, i01, eq_self, wq7, wq8, wq9, wq10, wrc, wgi, wpi, wpz, wn1, wn2, wn3, wn4, wr1, wr2, wr3, wr4, ww1, ww2, ww3, ww4, fgi, fgq, fpi, frc, at18, at19, at21, at22, at23, at24, at25, at26, at_neg, wat1, wat2, wat3, wat4, reduceCtorEq, bd_some, b1_some, b2_some, b3_some, b4_some, c1_eq, elim_inl, elim_inr, zok0, zok1, getQ_si, getQ_sj, getQ_sr, q8_0, q8_1, q8_2, q8_4, q8_7, q8_8, q8_9, q8_10, q8_11, q9_0, q9_3, q9_4, q9_8, q17_0, q17_1, q17_2, q17_4, q17_5, q17_6, q17_9, q17_10, q17_11, q27_4, q27_5, q27_6, q27_7, q27_8, q27_11, q45_0, q45_1, q45_11, q45_12, q45_13, q45_14, q45_15, q45_16, q45_17, q45_18, q45_19, q45_20, q45_21, q45_22, q45_23, q45_24, q45_30, q45_31, q45_32, q45_33, q45_34, q45_35, q45_36, q45_37, q45_38, q45_39, q45_43, q45_44, q45_45, q45_46, q45_47, q45_48, q45_52, q45_53, q45_54, q45_59, q45_60, q45_61, q45_62, q45_65, q45_67, q45_68, gi8, gj8, pi8, pz8, pj8, rc8, gi9, gj9, pi9, pz9, pj9, rc9, gi17, gj17, pi17, pz17, pj17, rc17, gi27, gj27, pi27, pz27, pj27, rc27, gi45, gj45, pi45, pz45, pj45, rc45, aln_si, aln_sj, aln_sq, rc_si, rc_sj, rc_sq, n0, n1, n10, n11, n12, n13, n14, n15, n16, n18, n19, n20, n21, n22, n23, n24, n25, n26, n29, n30, n31, n32, n33, n34, n35, n36, n37, n38, n39, n40, n42, n43, n44, n46, n47, n48, n49, n50, n51, n52, n53, n54, n55, n56, n57, n58, n59, n60, n61, n62, n63, n64, n65, n66, n67, n68, n69, n70, n71, n72, n73, n74, n75, n76, n77, n78, n79, n80, n81, n82, n83, n84, n85, n86, n87, r0, r1, r10, r11, r12, r13, r14, r15, r16, r18, r19, r20, r21, r22, r23, r24, r25, r26, r29, r30, r31, r32, r33, r34, r35, r36, r37, r38, r39, r40, r42, r43, r44, r46, r47, r48, r49, r50, r51, r52, r53, r54, r55, r56, r57, r58, r59, r60, r61, r62, r63, r64, r65, r66, r67, r68, r69, r70, r71, r72, r73, r74, r75, r76, r77, r78, r79, r80, r81, r82, r83, r84, r85, r86, r87, w10, w11, w12, w13, w18, w19, w20, w21, w22, w23, w24, w25, w26, w30, w31, w32, w33, w34, w35, w36, w38, w39, w40, w43, w44, w46, w47, w48, w49, w50, w51, w52, w53, w54, w55, w56, w57, w58, w59, w60, w61, w62, w63, w64, w65, w66, w67, w68, w69, w70, w71, w72, w73, w74, w75, w76, w77, w78, w79, w80, w81, w82, w83, w84, w85, w86, w87, hi_hit, hi_row, hi_col, hj_hit, hj_row, hj_col, hi_sj, hj_si, hq_si, hq_sj, hi_sq, hj_sq, hi_srh, hi_srm]
    · simp (disch := (first | assumption | (simp only [FX_si, FX_sj, FX_sr, WX_si, WX_sj, WX_sr, FK_si, FK_sj, FK_sr]; assumption) | omega | decide)) only [e12, n0, n1, h1, wq, e12'', nI_1, ↓reduceIte, if_true, if_false, i10, i01, eq_self, wq7, wq8, wq9, wq10, wrc, wgi, wpi, wpz, wn1, wn2, wn3, wn4, wr1, wr2, wr3, wr4, ww1, ww2, ww3, ww4, fgi, fgq, fpi, frc, at18, at19, at21, at22, at23, at24, at25, at26, at_neg, wat1, wat2, wat3, wat4, reduceCtorEq, bd_some, b1_some, b2_some, b3_some, b4_some, c1_eq, elim_inl, elim_inr, zok0, zok1, getQ_si, getQ_sj, getQ_sr, q8_0, q8_1, q8_2, q8_4, q8_7, q8_8, q8_9, q8_10, q8_11, q9_0, q9_3, q9_4, q9_8, q17_0, q17_1, q17_2, q17_4, q17_5, q17_6, q17_9, q17_10, q17_11, q27_4, q27_5, q27_6, q27_7, q27_8, q27_11, q45_0, q45_1, q45_11, q45_12, q45_13, q45_14, q45_15, q45_16, q45_17, q45_18, q45_19, q45_20, q45_21, q45_22, q45_23, q45_24, q45_30, q45_31, q45_32, q45_33, q45_34, q45_35, q45_36, q45_37, q45_38, q45_39, q45_43, q45_44, q45_45, q45_46, q45_47, q45_48, q45_52, q45_53, q45_54, q45_59, q45_60, q45_61, q45_62, q45_65, q45_67, q45_68, gi8, gj8, pi8, pz8, pj8, rc8, gi9, gj9, pi9, pz9, pj9, rc9, gi17, gj17, pi17, pz17, pj17, rc17, gi27, gj27, pi27, pz27, pj27, rc27, gi45, gj45, pi45, pz45, pj45, rc45, aln_si, aln_sj, aln_sq, rc_si, rc_sj, rc_sq, n0, n1, n10, n11, n12, n13, n14, n15, n16, n18, n19, n20, n21, n22, n23, n24, n25, n26, n29, n30, n31, n32, n33, n34, n35, n36, n37, n38, n39, n40, n42, n43, n44, n46, n47, n48, n49, n50, n51, n52, n53, n54, n55, n56, n57, n58, n59, n60, n61, n62, n63, n64, n65, n66, n67, n68, n69, n70, n71, n72, n73, n74, n75, n76, n77, n78, n79, n80, n81, n82, n83, n84, n85, n86, n87, r0, r1, r10, r11, r12, r13, r14, r15, r16, r18, r19, r20, r21, r22, r23, r24, r25, r26, r29, r30, r31, r32, r33, r34, r35, r36, r37, r38, r39, r40, r42, r43, r44, r46, r47, r48, r49, r50, r51, r52, r53, r54, r55, r56, r57, r58, r59, r60, r61, r62, r63, r64, r65, r66, r67, r68, r69, r70, r71, r72, r73, r74, r75, r76, r77, r78, r79, r80, r81, r82, r83, r84, r85, r86, r87, w10, w11, w12, w13, w18, w19, w20, w21, w22, w23, w24, w25, w26, w30, w31, w32, w33, w34, w35, w36, w38, w39, w40, w43, w44, w46, w47, w48, w49, w50, w51, w52, w53, w54, w55, w56, w57, w58, w59, w60, w61, w62, w63, w64, w65, w66, w67, w68, w69, w70, w71, w72, w73, w74, w75, w76, w77, w78, w79, w80, w81, w82, w83, w84, w85, w86, w87, hi_hit, hi_row, hi_col, hj_hit, hj_row, hj_col, hi_sj, hj_si, hq_si, hq_sj, hi_sq, hj_sq, hi_srh, hi_srm]
  · rw [hi_put, if_neg (fun q => hj.elim (fun z => z q.1) (fun z => z q.2)), eg2]
    exact h4 a j
  · rw [hq_si, eg2]
    unfold insr
    by_cases z : j = ipos F r f c
    · rw [z, hq_hit, if_neg (Nat.lt_irrefl _), if_pos rfl]
    · rw [hq_col _ _ z]
      by_cases y : j < ipos F r f c
      · rw [if_pos y]; exact h5 j y
      · rw [if_neg y, if_neg z]; exact h6 j (by omega) (by omega)
