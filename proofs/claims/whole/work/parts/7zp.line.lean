/-! What a line says; which lines were seen. -/
theorem or_nI {a b : Nat} (ha : a < 2 ^ 31) (hb : b < 2 ^ 31) : nI a ||| nI b = nI (a ||| b) := by
  apply Int32.toBitVec_inj.mp
  apply BitVec.eq_of_toNat_eq
  have := Nat.or_lt_two_pow ha hb
  rw [Int32.toBitVec_or, BitVec.toNat_or, pk_tn (by omega), pk_tn (by omega), pk_tn (by omega)]
theorem sh_tab : ∀ w, w ≤ 8 → nI w &&& (31 : Int32) = nI w ∧ ((nI w).toBitVec.smod 32).toNat = w ∧ (1 : Int32) <<< nI w = nI (2 ^ w) ∧ 2 ^ w < 2 ^ 9 := by decide
theorem seen_bit {M w : Nat} (hM : M < 2 ^ 9) (hw : w ≤ 8) : (nI M >>> (nI w &&& 31)) &&& (1 : Int32) = if M.testBit w = true then 1 else 0 := by
  obtain ⟨s1, s2, s3, s4⟩ := sh_tab w hw
  have lt : M / 2 ^ w < 2 ^ 31 := by have := Nat.div_le_self M (2 ^ w); omega
  rw [s1, pk_shrN (by omega) (nI w) w s2, pk_andN (n := M / 2 ^ w) (by omega) 1 rfl, Nat.testBit_eq_decide_div_mod_eq]
  by_cases c : M / 2 ^ w % 2 = 1
  · rw [if_pos (by simpa using c), show M / 2 ^ w % 2 ^ 1 = 1 from c]
    rfl
  · rw [if_neg (by simpa using c), show M / 2 ^ w % 2 ^ 1 = 0 by omega]
    rfl
theorem seen_put {M w : Nat} (hM : M < 2 ^ 9) (hw : w ≤ 8) : nI M ||| ((1 : Int32) <<< (nI w &&& 31)) = nI (M ||| 2 ^ w) ∧ M ||| 2 ^ w < 2 ^ 9 := by
  obtain ⟨s1, s2, s3, s4⟩ := sh_tab w hw
  exact ⟨by rw [s1, s3, or_nI (by omega) (by omega)], Nat.or_lt_two_pow hM s4⟩
theorem seen_or {M w v : Nat} : (M ||| 2 ^ w).testBit v = (M.testBit v || decide (w = v)) := by
  rw [Nat.testBit_or, Nat.testBit_two_pow]
def loN (n : Nat) : Nat := [1, 1, 1, 1, 0, 0, 0].getD n 0
def hiN (n : Nat) : Nat := [52, 104, 7, 999, 999, 9999, 999].getD n 0
/-- what is read: the place, the units, the lines seen, the act -/
abbrev LnS : Type := Nat × Nat × Nat × Ac
def gLn (T : Nat → Nat) (s : LnS) : (Nat × Nat) ⊕ LnS :=
  if T s.1 = 0 then
    if s.2.2.2.2.2.1.length < 10 then
      if 13 ≤ T (s.1 + 1) ∧ T (s.1 + 1) ≤ 17 then
        if 1000 ≤ T (s.1 + 2) then
          if T (s.1 + 2) ≤ 1100 then Sum.elim .inl (fun r => .inr (r.1, r.2.1, s.2.2.1, (s.2.2.2.1, s.2.2.2.2.1 + 1, s.2.2.2.2.2.1 ++ [(T (s.1 + 1) - 13, nI (T (s.1 + 2) - 1000), r.2.2)], s.2.2.2.2.2.2))) (gW T (s.1 + 3) s.2.1)
          else .inl (s.1 + 2, 4)
        else .inl (s.1 + 2, 2)
      else .inl (s.1 + 1, 2)
    else .inl (s.1, 2)
  else if (1 ≤ T s.1 ∧ T s.1 ≤ 8) ∧ s.2.2.1.testBit (T s.1) = false then
    if T s.1 = 1 then Sum.elim .inl (fun r => .inr (r.1, r.2.1, s.2.2.1 ||| 2 ^ T s.1, (s.2.2.2.1, s.2.2.2.2.1 + 1, s.2.2.2.2.2.1, some r.2.2))) (gW T (s.1 + 1) s.2.1)
    else if 1000 ≤ T (s.1 + 1) then
      if loN (T s.1 - 2) ≤ T (s.1 + 1) - 1000 ∧ T (s.1 + 1) - 1000 ≤ hiN (T s.1 - 2) then
        if T (s.1 + 2) = 59 then .inr (s.1 + 3, s.2.1, s.2.2.1 ||| 2 ^ T s.1, (upd s.2.2.2.1 (T s.1 - 2) (nI (T (s.1 + 1) - 1000)), s.2.2.2.2.1 + 1, s.2.2.2.2.2.1, s.2.2.2.2.2.2))
        else .inl (s.1 + 2, 2)
      else .inl (s.1 + 1, 4)
    else .inl (s.1 + 1, 2)
  else .inl (s.1, 2)
section Cl2
variable {T Pl : Nat → Nat} {N : Nat}
theorem c_kind (gt : GT T N) {h : Hp} {i u : Nat} (c : CT h T Pl N i u) : ((13 ≤ T i ∧ T i ≤ 17) → ∃ g, f_X2_takeKind 9 h = some (nI (T i - 13), g) ∧ Fr [] [(9, 6), (9, 7)] h g ∧ CT g T Pl N (i + 1) u) ∧ (¬ (13 ≤ T i ∧ T i ≤ 17) → ∃ g, f_X2_takeKind 9 h = some (0, g) ∧ Fr [] [(9, 7), (9, 12), (9, 13)] h g ∧ DD g T Pl (i, 2)) := by
  have X := c.1
  have c7 := c.2.2.2.2.1
  have ci := c.2.2.2.2.2.2
  have tl := okT_lt (gt.2.2.2 i)
  have q1 : nI (T i) < (13 : Int32) ↔ T i < 13 := nI_ltI (b := 13) (by omega) (by decide)
  have q2 : nI (T i) ≤ (17 : Int32) ↔ T i ≤ 17 := nI_leI (b := 17) (by omega) (by decide)
  constructor
  · intro hk'
    have ne : i ≠ N := fun e => by rw [e] at hk'; have := gt.2.1; omega
    obtain ⟨g, a1, a2, a3⟩ := c_nextT gt c (by omega)
    have ev : nI (T i) - (13 : Int32) = nI (T i - 13) := by rw [show (13 : Int32) = nI 13 from rfl, pk_sub (by omega)]
    refine ⟨g, ?_, a2, a3⟩
    unfold f_X2_takeKind
    rw [gi9 X, bd_some, bd_some, c7, if_neg (fun z => by have := q1.mp z; omega), bd_some, if_pos (q2.mpr hk'.2), rc9 X, bd_some, a1, bd_some, ev]
  · intro hk'
    obtain ⟨g, a1, a2, a3⟩ := c_refuse gt c (w := 2) (Or.inl rfl)
    have a1' : f_X2_refuse 9 (2 : Int32) h = some g := a1
    refine ⟨g, ?_, a2, a3⟩
    unfold f_X2_takeKind
    rw [gi9 X, bd_some, bd_some, c7]
    by_cases c1 : T i < 13
    · rw [if_pos (q1.mpr c1), rc9 X, bd_some, a1', bd_some]
    · rw [if_neg (fun z => c1 (q1.mp z)), bd_some, if_neg (fun z => by have := q2.mp z; omega), rc9 X, bd_some, a1', bd_some]
theorem c_kindD {h : Hp} {e : Nat × Nat} (d : DD h T Pl e) : ∃ g, f_X2_takeKind 9 h = some (0, g) ∧ Fr [] [(9, 7)] h g ∧ DD g T Pl e := by
  obtain ⟨g, a1, a2, a3⟩ := c_refuseD d 2
  refine ⟨g, ?_, a2, a3⟩
  unfold f_X2_takeKind
  rw [gi9 d.1, bd_some, bd_some, d.2.2.2.1, if_neg (by decide), bd_some, if_neg (by decide), rc9 d.1, bd_some, a1, bd_some]
theorem c_num (gt : GT T N) {h : Hp} {i u lo hh : Nat} (c : CT h T Pl N i u) (hlo : lo < 20000) (hhh : hh < 20000) : (1000 ≤ T i → lo ≤ T i - 1000 ∧ T i - 1000 ≤ hh → ∃ g, f_X2_takeNumber 9 (nI lo) (nI hh) h = some (nI (T i - 1000), g) ∧ Fr [] [(9, 6), (9, 7)] h g ∧ CT g T Pl N (i + 1) u) ∧ (1000 ≤ T i → ¬ (lo ≤ T i - 1000 ∧ T i - 1000 ≤ hh) → ∃ g, f_X2_takeNumber 9 (nI lo) (nI hh) h = some (nI lo, g) ∧ Fr [] [(9, 7), (9, 12), (9, 13)] h g ∧ DD g T Pl (i, 4)) ∧ (T i < 1000 → ∃ g, f_X2_takeNumber 9 (nI lo) (nI hh) h = some (nI lo, g) ∧ Fr [] [(9, 7), (9, 12), (9, 13)] h g ∧ DD g T Pl (i, 2)) := by
  have X := c.1
  have c7 := c.2.2.2.2.1
  have ci := c.2.2.2.2.2.2
  have tl := okT_lt (gt.2.2.2 i)
  have wi : ∀ x, x < 20000 → f_X8_within (nI x) (nI lo) (nI hh) h = some (if lo ≤ x ∧ x ≤ hh then 1 else 0, h) := by
    intro x hx
    have q1 : nI x < nI lo ↔ x < lo := nI_ltI (by omega) (by omega)
    have q2 : nI hh < nI x ↔ hh < x := nI_ltI (by omega) (by omega)
    unfold f_X8_within
    by_cases c1 : x < lo
    · rw [if_pos (q1.mpr c1), if_neg (by omega), b1_some, zok0, bd_some]
    · rw [if_neg (fun z => c1 (q1.mp z))]
      by_cases c2 : hh < x
      · rw [if_pos (q2.mpr c2), if_neg (by omega), b1_some, zok0, bd_some]
      · rw [if_neg (fun z => c2 (q2.mp z)), if_pos (by omega), b1_some, zok1, bd_some]
  have ev : 1000 ≤ T i → nI (T i) - (1000 : Int32) = nI (T i - 1000) := fun q => by rw [show (1000 : Int32) = nI 1000 from rfl, pk_sub q]
  refine ⟨fun hk' hr => ?_, fun hk' hr => ?_, fun hk' => ?_⟩
  · have ne : i ≠ N := fun e => by rw [e] at hk'; have := gt.2.1; omega
    obtain ⟨g, a1, a2, a3⟩ := c_nextT gt c (by omega)
    refine ⟨g, ?_, a2, a3⟩
    unfold f_X2_takeNumber
    rw [gi9 X, bd_some, c7, ev hk', if_pos (nI_pos' (by omega)), wi _ (by omega), if_pos hr, b1_some, if_neg (by decide), rc9 X, bd_some, a1, bd_some]
  · obtain ⟨g, a1, a2, a3⟩ := c_refuse gt c (w := 4) (Or.inr rfl)
    have a1' : f_X2_refuse 9 (4 : Int32) h = some g := a1
    refine ⟨g, ?_, a2, a3⟩
    unfold f_X2_takeNumber
    rw [gi9 X, bd_some, c7, ev hk', if_pos (nI_pos' (by omega)), wi _ (by omega), if_neg hr, b1_some, if_pos rfl, rc9 X, bd_some, a1', bd_some]
  · obtain ⟨g, a1, a2, a3⟩ := c_refuse gt c (w := 2) (Or.inl rfl)
    have a1' : f_X2_refuse 9 (2 : Int32) h = some g := a1
    refine ⟨g, ?_, a2, a3⟩
    have np : ¬ (0 : Int32) ≤ nI (T i) - 1000 := fun z => by
      have := pk_sneg (a := T i) (b := 1000) (by decide) hk'
      rw [Int32.lt_iff_toInt_lt] at this
      rw [Int32.le_iff_toInt_le] at z
      have e : nI (T i) - (1000 : Int32) = nI (T i) - nI 1000 := rfl
      rw [e] at z
      omega
    unfold f_X2_takeNumber
    rw [gi9 X, bd_some, c7, if_neg np, rc9 X, bd_some, a1', bd_some]
theorem c_numD {h : Hp} {e : Nat × Nat} (d : DD h T Pl e) (lo hh : Int32) : ∃ g, f_X2_takeNumber 9 lo hh h = some (lo, g) ∧ Fr [] [(9, 7)] h g ∧ DD g T Pl e := by
  obtain ⟨g, a1, a2, a3⟩ := c_refuseD d 2
  refine ⟨g, ?_, a2, a3⟩
  unfold f_X2_takeNumber
  rw [gi9 d.1, bd_some, d.2.2.2.1, if_neg (by decide), rc9 d.1, bd_some, a1, bd_some]
end Cl2
