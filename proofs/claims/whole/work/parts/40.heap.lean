/-! Pictures: what reads see behind writes; the machine's checks where the kinds are known. -/
section Pa
variable {h : Hp}
theorem hk_si (a k b : Nat) (v : Int32) : hk (si h a k v) b = hk h b := rfl
theorem hk_sj (a k b : Nat) (v : Int64) : hk (sj h a k v) b = hk h b := rfl
theorem hk_sq (a k b : Nat) (v : Option Nat) : hk (sq h a k v) b = hk h b := rfl
theorem hk_sr (a b : Nat) (g : Nat → Int32) : hk (sr h a g) b = hk h b := rfl
theorem hi_sj (a k b j : Nat) (v : Int64) : hi (sj h a k v) b j = hi h b j := rfl
theorem hi_sq (a k b j : Nat) (v : Option Nat) : hi (sq h a k v) b j = hi h b j := rfl
theorem hi_sr2 (a b j : Nat) (g : Nat → Int32) : hi (sr h a g) b j = if b = a then g j else hi h b j := rfl
theorem hj_si (a k b j : Nat) (v : Int32) : hj (si h a k v) b j = hj h b j := rfl
theorem hj_sq (a k b j : Nat) (v : Option Nat) : hj (sq h a k v) b j = hj h b j := rfl
theorem hj_sr (a b j : Nat) (g : Nat → Int32) : hj (sr h a g) b j = hj h b j := rfl
theorem hq_si (a k b j : Nat) (v : Int32) : hq (si h a k v) b j = hq h b j := rfl
theorem hq_sj (a k b j : Nat) (v : Int64) : hq (sj h a k v) b j = hq h b j := rfl
theorem hq_sr (a b j : Nat) (g : Nat → Int32) : hq (sr h a g) b j = hq h b j := rfl
theorem getI_of {a ci : Nat} (k : Nat) (e : hk h a = some (ci, 0)) : getI h (some a) ci k = some (hi h a k) := by simp [getI, e]
theorem getJ_of {a ci : Nat} (k : Nat) (e : hk h a = some (ci, 0)) : getJ h (some a) ci k = some (hj h a k) := by simp [getJ, e]
theorem getQ_of {a ci : Nat} (k : Nat) (e : hk h a = some (ci, 0)) : getQ h (some a) ci k = some (hq h a k) := by simp [getQ, e]
theorem putI_of {a ci : Nat} (k : Nat) (v : Int32) (e : hk h a = some (ci, 0)) : putI h (some a) ci k v = some (si h a k v) := by simp [putI, e]
theorem putZ_of {a ci : Nat} (k : Nat) {v : Int32} (e : hk h a = some (ci, 0)) (hv : v = 0 ∨ v = 1) : putZ h (some a) ci k v = some (si h a k v) := by simp [putZ, e, hv]
theorem putJ_of {a ci : Nat} (k : Nat) (v : Int64) (e : hk h a = some (ci, 0)) : putJ h (some a) ci k v = some (sj h a k v) := by simp [putJ, e]
theorem putQ_of {a ci : Nat} (k : Nat) (v : Option Nat) (e : hk h a = some (ci, 0)) : putQ h (some a) ci k v = some (sq h a k v) := by simp [putQ, e]
theorem rc_eq {a ci : Nat} (e : hk h a = some (ci, 0)) : rc h (some a) ci = some a := by simp [rc, e]
theorem arn_eq {a kd n : Nat} (e : hk h a = some (kd, n)) : arn h (some a) kd = some (a, n) := by simp [arn, e]
theorem aln_eq {a kd n : Nat} (e : hk h a = some (kd, n)) : aln h (some a) kd = some (nI n) := by simp [aln, arn_eq e]
theorem ok_nI {k n : Nat} (hk : k < n) (hn : n ≤ 65536) : 0 ≤ nI k ∧ (nI k).toNatClampNeg < n := ⟨nI_pos' (by omega), by rw [nI_clamp (by omega)]; exact hk⟩
theorem rdI_eq {a kd n k : Nat} (e : hk h a = some (kd, n)) (h1 : k < n) (hn : n ≤ 65536) : rdI h (some a) kd (nI k) = some (hi h a k) := by
  simp only [rdI, arn_eq e, Option.bind_some, if_pos (ok_nI h1 hn)]
  rw [nI_clamp (by omega)]
theorem rdJ_eq {a kd n k : Nat} (e : hk h a = some (kd, n)) (h1 : k < n) (hn : n ≤ 65536) : rdJ h (some a) kd (nI k) = some (hj h a k) := by
  simp only [rdJ, arn_eq e, Option.bind_some, if_pos (ok_nI h1 hn)]
  rw [nI_clamp (by omega)]
theorem rdQ_eq {a kd n k : Nat} (e : hk h a = some (kd, n)) (h1 : k < n) (hn : n ≤ 65536) : rdQ h (some a) kd (nI k) = some (hq h a k) := by
  simp only [rdQ, arn_eq e, Option.bind_some, if_pos (ok_nI h1 hn)]
  rw [nI_clamp (by omega)]
theorem wrI_eq {a n k : Nat} (v : Int32) (e : hk h a = some (10, n)) (ha : 8 ≤ a) (h1 : k < n) (hn : n ≤ 65536) : wrI h (some a) (nI k) v = some (si h a k v) := by
  simp only [wrI, arn_eq e, Option.bind_some, if_pos (And.intro ha (ok_nI h1 hn))]
  rw [nI_clamp (by omega)]
theorem wrB_eq {a n k : Nat} (v : Int32) (e : hk h a = some (9, n)) (h1 : k < n) (hn : n ≤ 65536) : wrB h (some a) (nI k) v = some (si h a k v.toInt8.toInt32) := by
  simp only [wrB, arn_eq e, Option.bind_some, if_pos (ok_nI h1 hn)]
  rw [nI_clamp (by omega)]
theorem wrZ_eq {a n k : Nat} {v : Int32} (e : hk h a = some (12, n)) (hv : v = 0 ∨ v = 1) (h1 : k < n) (hn : n ≤ 65536) : wrZ h (some a) (nI k) v = some (si h a k v) := by
  simp only [wrZ, arn_eq e, Option.bind_some, if_pos (And.intro hv (ok_nI h1 hn))]
  rw [nI_clamp (by omega)]
theorem wrJ_eq {a n k : Nat} (v : Int64) (e : hk h a = some (11, n)) (h1 : k < n) (hn : n ≤ 65536) : wrJ h (some a) (nI k) v = some (sj h a k v) := by
  simp only [wrJ, arn_eq e, Option.bind_some, if_pos (ok_nI h1 hn)]
  rw [nI_clamp (by omega)]
theorem wrQ_eq {a kd n k b : Nat} (e : hk h a = some (kd, n)) (eb' : hk h b = some (cik kd, 0)) (h1 : k < n) (hn : n ≤ 65536) : wrQ h (some a) kd (nI k) (some b) = some (sq h a k (some b)) := by
  simp only [wrQ, arn_eq e, rc_eq eb', Option.bind_some, if_pos (ok_nI h1 hn)]
  rw [nI_clamp (by omega)]
theorem b1_some {α β : Type} (a : α) (h1 : Hp) (f : α → Hp → Option β) : b1 (some (a, h1)) f = f a h1 := rfl
theorem b2_some {α1 α2 β : Type} (a : α1) (b : α2) (h1 : Hp) (f : α1 → α2 → Hp → Option β) : b2 (some (a, b, h1)) f = f a b h1 := rfl
theorem b3_some {α1 α2 α3 β : Type} (a : α1) (b : α2) (c : α3) (h1 : Hp) (f : α1 → α2 → α3 → Hp → Option β) : b3 (some (a, b, c, h1)) f = f a b c h1 := rfl
theorem b4_some {α1 α2 α3 α4 β : Type} (a : α1) (b : α2) (c : α3) (d : α4) (h1 : Hp) (f : α1 → α2 → α3 → α4 → Hp → Option β) : b4 (some (a, b, c, d, h1)) f = f a b c d h1 := rfl
theorem bd_some {α β : Type} (a : α) (f : α → Option β) : Option.bind (some a) f = f a := rfl
theorem b1_none {α β : Type} (f : α → Hp → Option β) : b1 none f = none := rfl
end Pa
/-- the kinds of all cells that the two constructors make, the start's before them -/
def kd0 (L : Nat) : List (Nat × Nat) := [(10, 7), (10, 7), (10, L), (17, 0), (17, 0), (18, 192), (18, 10), (19, 0),
  (7, 0), (2, 0), (9, 900), (10, 901), (10, 901), (10, 900), (13, 4), (16, 10), (14, 250),
  (5, 0), (10, 10), (10, 10), (10, 10), (10, 105), (10, 20), (10, 20), (10, 20), (10, 20), (10, 20),
  (4, 0), (0, 0), (15, 10), (10, 0), (10, 7), (10, 624), (10, 104), (10, 104), (10, 104), (10, 80), (14, 250),
  (11, 10), (10, 10), (11, 32), (0, 0), (15, 10), (10, 0), (10, 7),
  (8, 0), (9, 920), (9, 900), (10, 35), (10, 5), (10, 5), (10, 55), (10, 55), (10, 55), (10, 55), (10, 4500), (10, 4500), (10, 80), (10, 80), (10, 120), (12, 35), (12, 5),
  (10, 10), (10, 10), (10, 250), (10, 250), (10, 250), (10, 250), (10, 250), (10, 250), (10, 250), (12, 10),
  (10, 624), (10, 104), (10, 104), (10, 10), (12, 104), (11, 105), (10, 104), (10, 104), (12, 104), (10, 250), (10, 250), (10, 250), (10, 250), (10, 250), (11, 10), (10, 10)]
/-- the two objects are there -/
def KH (L : Nat) (h : Hp) : Prop := ∃ t, h.1 = kd0 L ++ t
theorem kd0_len (L : Nat) : (kd0 L).length = 88 := rfl
theorem KH.at {L : Nat} {h : Hp} (K : KH L h) {a : Nat} (ha : a < 88) : hk h a = (kd0 L)[a]? := by
  obtain ⟨t, ht⟩ := K
  unfold hk
  rw [ht, List.getElem?_append_left (by rw [kd0_len]; exact ha)]
theorem KH.k {L : Nat} {h : Hp} (K : KH L h) (a : Nat) {x : Nat × Nat} (ha : a < 88) (e : (kd0 L)[a]? = some x) : hk h a = some x := (K.at ha).trans e
/-- a field of an object that is there -/
theorem KH.gI {L : Nat} {h : Hp} (K : KH L h) {a ci : Nat} (k : Nat) (ha : a < 88) (e : (kd0 L)[a]? = some (ci, 0)) : getI h (some a) ci k = some (hi h a k) := getI_of k (K.k a ha e)
theorem KH.si {L : Nat} {h : Hp} (K : KH L h) (a k : Nat) (v : Int32) : KH L (si h a k v) := K
theorem KH.sj {L : Nat} {h : Hp} (K : KH L h) (a k : Nat) (v : Int64) : KH L (sj h a k v) := K
theorem KH.sq {L : Nat} {h : Hp} (K : KH L h) (a k : Nat) (v : Option Nat) : KH L (sq h a k v) := K
theorem KH.sr {L : Nat} {h : Hp} (K : KH L h) (a : Nat) (g : Nat → Int32) : KH L (sr h a g) := K
theorem KH.nw {L : Nat} {h : Hp} (K : KH L h) (kd n : Nat) : KH L (nw h kd n) := by
  obtain ⟨t, ht⟩ := K
  exact ⟨t ++ [(kd, n)], by show h.1 ++ [(kd, n)] = _; rw [ht, List.append_assoc]⟩
/-- the references that never change: of x, its reader, its sums, its sheet, and of the model -/
def rfC : List (Nat × Nat × Nat) := [(8, 0, 9), (8, 1, 14), (8, 2, 15), (8, 4, 16), (8, 7, 17), (8, 8, 27), (8, 9, 38), (8, 10, 39), (8, 11, 40),
  (9, 0, 10), (9, 3, 11), (9, 4, 12), (9, 8, 13)]
section Pb
variable {h : Hp}
theorem ln_si (a k : Nat) (v : Int32) : (si h a k v).1 = h.1 := rfl
theorem ln_sj (a k : Nat) (v : Int64) : (sj h a k v).1 = h.1 := rfl
theorem ln_sq (a k : Nat) (v : Option Nat) : (sq h a k v).1 = h.1 := rfl
theorem ln_nw (kd n : Nat) : (nw h kd n).1 = h.1 ++ [(kd, n)] := rfl
theorem hk_new {kd n b : Nat} (e : b = h.1.length) : hk (nw h kd n) b = some (kd, n) := by
  subst e
  unfold hk
  rw [ln_nw, List.getElem?_append_right (Nat.le_refl _), Nat.sub_self]
  rfl
theorem hk_old {kd n b : Nat} {x : Nat × Nat} (e : hk h b = some x) : hk (nw h kd n) b = some x := by
  unfold hk at e ⊢
  have := (List.getElem?_eq_some_iff.mp e).1
  rw [ln_nw, List.getElem?_append_left this]
  exact e
theorem hi_nw (kd n b j : Nat) : hi (nw h kd n) b j = if b = h.1.length then 0 else hi h b j := rfl
theorem hj_nw (kd n b j : Nat) : hj (nw h kd n) b j = if b = h.1.length then 0 else hj h b j := rfl
theorem hq_nw (kd n b j : Nat) : hq (nw h kd n) b j = if b = h.1.length then none else hq h b j := rfl
end Pb
