/-! The cells and the references that never change; reads and writes there. -/
def rfT : List (Nat × Nat × Nat) := [(8, 0, 9), (8, 1, 14), (8, 2, 15), (8, 4, 16), (8, 7, 17), (8, 8, 27), (8, 9, 38), (8, 10, 39), (8, 11, 40), (9, 0, 10), (9, 3, 11), (9, 4, 12), (9, 8, 13), (17, 0, 18), (17, 1, 19), (17, 2, 20), (17, 4, 21), (17, 5, 22), (17, 6, 23), (17, 9, 24), (17, 10, 25), (17, 11, 26), (27, 4, 32), (27, 5, 33), (27, 6, 34), (27, 7, 35), (27, 8, 36), (27, 11, 37), (45, 0, 46), (45, 1, 47), (45, 11, 48), (45, 12, 49), (45, 13, 50), (45, 14, 51), (45, 15, 52), (45, 16, 53), (45, 17, 54), (45, 18, 55), (45, 19, 56), (45, 20, 57), (45, 21, 58), (45, 22, 59), (45, 23, 60), (45, 24, 61), (45, 30, 62), (45, 31, 63), (45, 32, 64), (45, 33, 65), (45, 34, 66), (45, 35, 67), (45, 36, 68), (45, 37, 69), (45, 38, 70), (45, 39, 71), (45, 43, 72), (45, 44, 73), (45, 45, 74), (45, 46, 75), (45, 47, 76), (45, 48, 77), (45, 52, 78), (45, 53, 79), (45, 54, 80), (45, 59, 81), (45, 60, 82), (45, 61, 83), (45, 62, 84), (45, 65, 85), (45, 67, 86), (45, 68, 87)]
def FX (h : Hp) : Prop := (∃ L, L ≤ 3072 ∧ KH L h) ∧ ∀ p ∈ rfT, hq h p.1 p.2.1 = some p.2.2
theorem FX_si {h : Hp} {a k : Nat} {v : Int32} : FX (si h a k v) ↔ FX h := Iff.rfl
theorem FX_sj {h : Hp} {a k : Nat} {v : Int64} : FX (sj h a k v) ↔ FX h := Iff.rfl
theorem FX_sr {h : Hp} {a : Nat} {g : Nat → Int32} : FX (sr h a g) ↔ FX h := Iff.rfl
theorem FX_sq {h : Hp} {a k : Nat} {v : Option Nat} (F : FX h) (hn : rfT.all (fun p => !(p.1 == a && p.2.1 == k)) = true) : FX (sq h a k v) := by
  refine ⟨F.1, fun p hp => ?_⟩
  have h1 := List.all_eq_true.mp hn p hp
  have h2 := F.2 p hp
  show up2 h.2.2.2 a k v p.1 p.2.1 = _
  unfold up2
  rw [if_neg]
  · exact h2
  · rintro ⟨e1, e2⟩
    rw [e1, e2] at h1
    simp at h1
theorem FX_sq' {h : Hp} {a k : Nat} {v : Option Nat} (F : FX h) (ha : 46 ≤ a) : FX (sq h a k v) := by
  refine ⟨F.1, fun p hp => ?_⟩
  have h2 := F.2 p hp
  have h3 : p.1 < 46 := by
    have : rfT.all (fun p => decide (p.1 < 46)) = true := by decide
    exact of_decide_eq_true (List.all_eq_true.mp this p hp)
  show up2 h.2.2.2 a k v p.1 p.2.1 = _
  unfold up2
  rw [if_neg (by omega)]
  exact h2
theorem FX.len {h : Hp} (F : FX h) : 88 ≤ h.1.length := by
  obtain ⟨⟨L, _, t, e⟩, _⟩ := F
  rw [e, List.length_append, kd0_len]
  omega
theorem FX_nw {h : Hp} (F : FX h) (kd n : Nat) : FX (nw h kd n) := by
  have hl := F.len
  refine ⟨?_, fun p hp => ?_⟩
  · obtain ⟨L, hL, K⟩ := F.1
    exact ⟨L, hL, K.nw kd n⟩
  · have h2 := F.2 p hp
    have h3 : p.1 < 46 := by
      have : rfT.all (fun p => decide (p.1 < 46)) = true := by decide
      exact of_decide_eq_true (List.all_eq_true.mp this p hp)
    rw [hq_nw, if_neg (by omega)]
    exact h2
/-- other heaps with the same kinds and references -/
theorem FX_of {h h' : Hp} (F : FX h) (e1 : h'.1 = h.1) (e2 : ∀ p ∈ rfT, hq h' p.1 p.2.1 = hq h p.1 p.2.1) : FX h' := by
  refine ⟨?_, fun p hp => (e2 p hp).trans (F.2 p hp)⟩
  obtain ⟨L, hL, t, e⟩ := F.1
  exact ⟨L, hL, t, e1.trans e⟩
section Fa
variable {h : Hp}
theorem getQ_si (a k : Nat) (v : Int32) (x : Option Nat) (ci j : Nat) : getQ (si h a k v) x ci j = getQ h x ci j := rfl
theorem getQ_sj (a k : Nat) (v : Int64) (x : Option Nat) (ci j : Nat) : getQ (sj h a k v) x ci j = getQ h x ci j := rfl
theorem getQ_sr (a : Nat) (g : Nat → Int32) (x : Option Nat) (ci j : Nat) : getQ (sr h a g) x ci j = getQ h x ci j := rfl
theorem aln_si (a k : Nat) (v : Int32) (x : Option Nat) (kd : Nat) : aln (si h a k v) x kd = aln h x kd := rfl
theorem aln_sj (a k : Nat) (v : Int64) (x : Option Nat) (kd : Nat) : aln (sj h a k v) x kd = aln h x kd := rfl
theorem aln_sq (a k : Nat) (v : Option Nat) (x : Option Nat) (kd : Nat) : aln (sq h a k v) x kd = aln h x kd := rfl
theorem rc_si (a k : Nat) (v : Int32) (x : Option Nat) (ci : Nat) : rc (si h a k v) x ci = rc h x ci := rfl
theorem rc_sj (a k : Nat) (v : Int64) (x : Option Nat) (ci : Nat) : rc (sj h a k v) x ci = rc h x ci := rfl
theorem rc_sq (a k : Nat) (v : Option Nat) (x : Option Nat) (ci : Nat) : rc (sq h a k v) x ci = rc h x ci := rfl
theorem hi_hit (a k : Nat) (v : Int32) : hi (si h a k v) a k = v := by show up2 h.2.1 a k v a k = v; unfold up2; rw [if_pos ⟨rfl, rfl⟩]
theorem hi_row {a b : Nat} (k j : Nat) (v : Int32) (n : b ≠ a) : hi (si h a k v) b j = hi h b j := by show up2 h.2.1 a k v b j = _; unfold up2; rw [if_neg (by omega)]; rfl
theorem hi_col (a : Nat) {b k j : Nat} (v : Int32) (n : j ≠ k) : hi (si h a k v) b j = hi h b j := by show up2 h.2.1 a k v b j = _; unfold up2; rw [if_neg (by omega)]; rfl
theorem hi_put (a b k j : Nat) (v : Int32) : hi (si h a k v) b j = if b = a ∧ j = k then v else hi h b j := rfl
theorem hj_hit (a k : Nat) (v : Int64) : hj (sj h a k v) a k = v := by show up2 h.2.2.1 a k v a k = v; unfold up2; rw [if_pos ⟨rfl, rfl⟩]
theorem hj_row {a b : Nat} (k j : Nat) (v : Int64) (n : b ≠ a) : hj (sj h a k v) b j = hj h b j := by show up2 h.2.2.1 a k v b j = _; unfold up2; rw [if_neg (by omega)]; rfl
theorem hj_col (a : Nat) {b k j : Nat} (v : Int64) (n : j ≠ k) : hj (sj h a k v) b j = hj h b j := by show up2 h.2.2.1 a k v b j = _; unfold up2; rw [if_neg (by omega)]; rfl
theorem hq_hit (a k : Nat) (v : Option Nat) : hq (sq h a k v) a k = v := by show up2 h.2.2.2 a k v a k = v; unfold up2; rw [if_pos ⟨rfl, rfl⟩]
theorem hq_row {a b : Nat} (k j : Nat) (v : Option Nat) (n : b ≠ a) : hq (sq h a k v) b j = hq h b j := by show up2 h.2.2.2 a k v b j = _; unfold up2; rw [if_neg (by omega)]; rfl
theorem hq_col (a : Nat) {b k j : Nat} (v : Option Nat) (n : j ≠ k) : hq (sq h a k v) b j = hq h b j := by show up2 h.2.2.2 a k v b j = _; unfold up2; rw [if_neg (by omega)]; rfl
theorem hi_srh (a j : Nat) (g : Nat → Int32) : hi (sr h a g) a j = g j := by rw [hi_sr2, if_pos rfl]
theorem hi_srm {a b : Nat} (j : Nat) (g : Nat → Int32) (n : b ≠ a) : hi (sr h a g) b j = hi h b j := by rw [hi_sr2, if_neg n]
theorem c1_eq {α β : Type} (f : α → Hp → Option β) (a : α) (h1 : Hp) : c1 f (a, h1) = f a h1 := rfl
theorem elim_inl {α β γ : Type} (f : α → γ) (g : β → γ) (a : α) : Sum.elim f g (Sum.inl a) = f a := rfl
theorem elim_inr {α β γ : Type} (f : α → γ) (g : β → γ) (b : β) : Sum.elim f g (Sum.inr b) = g b := rfl
theorem zok0 : zok 0 = some () := rfl
theorem zok1 : zok 1 = some () := rfl
theorem zokI (c : Prop) (hd : Decidable c) : zok (if c then 1 else 0) = some () := by by_cases h : c <;> simp [zok, h]
theorem FX.kd {a : Nat} {x : Nat × Nat} (F : FX h) (ha : a < 88) (h2 : a ≠ 2) (e : (kd0 0)[a]? = some x) : hk h a = some x := by
  obtain ⟨L, hL, K⟩ := F.1
  refine K.k a ha (Eq.trans ?_ e)
  rcases (by omega : a < 2 ∨ 2 < a) with q | q
  · rcases (by omega : a = 0 ∨ a = 1) with rfl | rfl <;> rfl
  · obtain ⟨b, rfl⟩ : ∃ b, a = b + 3 := ⟨a - 3, by omega⟩
    rfl
theorem k8 (F : FX h) : hk h 8 = some (7, 0) := F.kd (by decide) (by decide) rfl
theorem gi8 (F : FX h) (k : Nat) : getI h (some 8) 7 k = some (hi h 8 k) := getI_of k (k8 F)
theorem gj8 (F : FX h) (k : Nat) : getJ h (some 8) 7 k = some (hj h 8 k) := getJ_of k (k8 F)
theorem gq8 (F : FX h) (k : Nat) : getQ h (some 8) 7 k = some (hq h 8 k) := getQ_of k (k8 F)
theorem pi8 (F : FX h) (k : Nat) (v : Int32) : putI h (some 8) 7 k v = some (si h 8 k v) := putI_of k v (k8 F)
theorem pz8 (F : FX h) (k : Nat) {v : Int32} (hv : v = 0 ∨ v = 1) : putZ h (some 8) 7 k v = some (si h 8 k v) := putZ_of k (k8 F) hv
theorem pj8 (F : FX h) (k : Nat) (v : Int64) : putJ h (some 8) 7 k v = some (sj h 8 k v) := putJ_of k v (k8 F)
theorem pq8 (F : FX h) (k : Nat) (v : Option Nat) : putQ h (some 8) 7 k v = some (sq h 8 k v) := putQ_of k v (k8 F)
theorem rc8 (F : FX h) : rc h (some 8) 7 = some 8 := rc_eq (k8 F)
theorem k9 (F : FX h) : hk h 9 = some (2, 0) := F.kd (by decide) (by decide) rfl
theorem gi9 (F : FX h) (k : Nat) : getI h (some 9) 2 k = some (hi h 9 k) := getI_of k (k9 F)
theorem gj9 (F : FX h) (k : Nat) : getJ h (some 9) 2 k = some (hj h 9 k) := getJ_of k (k9 F)
theorem gq9 (F : FX h) (k : Nat) : getQ h (some 9) 2 k = some (hq h 9 k) := getQ_of k (k9 F)
theorem pi9 (F : FX h) (k : Nat) (v : Int32) : putI h (some 9) 2 k v = some (si h 9 k v) := putI_of k v (k9 F)
theorem pz9 (F : FX h) (k : Nat) {v : Int32} (hv : v = 0 ∨ v = 1) : putZ h (some 9) 2 k v = some (si h 9 k v) := putZ_of k (k9 F) hv
theorem pj9 (F : FX h) (k : Nat) (v : Int64) : putJ h (some 9) 2 k v = some (sj h 9 k v) := putJ_of k v (k9 F)
theorem pq9 (F : FX h) (k : Nat) (v : Option Nat) : putQ h (some 9) 2 k v = some (sq h 9 k v) := putQ_of k v (k9 F)
theorem rc9 (F : FX h) : rc h (some 9) 2 = some 9 := rc_eq (k9 F)
theorem k17 (F : FX h) : hk h 17 = some (5, 0) := F.kd (by decide) (by decide) rfl
theorem gi17 (F : FX h) (k : Nat) : getI h (some 17) 5 k = some (hi h 17 k) := getI_of k (k17 F)
theorem gj17 (F : FX h) (k : Nat) : getJ h (some 17) 5 k = some (hj h 17 k) := getJ_of k (k17 F)
theorem gq17 (F : FX h) (k : Nat) : getQ h (some 17) 5 k = some (hq h 17 k) := getQ_of k (k17 F)
theorem pi17 (F : FX h) (k : Nat) (v : Int32) : putI h (some 17) 5 k v = some (si h 17 k v) := putI_of k v (k17 F)
theorem pz17 (F : FX h) (k : Nat) {v : Int32} (hv : v = 0 ∨ v = 1) : putZ h (some 17) 5 k v = some (si h 17 k v) := putZ_of k (k17 F) hv
theorem pj17 (F : FX h) (k : Nat) (v : Int64) : putJ h (some 17) 5 k v = some (sj h 17 k v) := putJ_of k v (k17 F)
theorem pq17 (F : FX h) (k : Nat) (v : Option Nat) : putQ h (some 17) 5 k v = some (sq h 17 k v) := putQ_of k v (k17 F)
theorem rc17 (F : FX h) : rc h (some 17) 5 = some 17 := rc_eq (k17 F)
theorem k27 (F : FX h) : hk h 27 = some (4, 0) := F.kd (by decide) (by decide) rfl
theorem gi27 (F : FX h) (k : Nat) : getI h (some 27) 4 k = some (hi h 27 k) := getI_of k (k27 F)
theorem gj27 (F : FX h) (k : Nat) : getJ h (some 27) 4 k = some (hj h 27 k) := getJ_of k (k27 F)
theorem gq27 (F : FX h) (k : Nat) : getQ h (some 27) 4 k = some (hq h 27 k) := getQ_of k (k27 F)
theorem pi27 (F : FX h) (k : Nat) (v : Int32) : putI h (some 27) 4 k v = some (si h 27 k v) := putI_of k v (k27 F)
theorem pz27 (F : FX h) (k : Nat) {v : Int32} (hv : v = 0 ∨ v = 1) : putZ h (some 27) 4 k v = some (si h 27 k v) := putZ_of k (k27 F) hv
theorem pj27 (F : FX h) (k : Nat) (v : Int64) : putJ h (some 27) 4 k v = some (sj h 27 k v) := putJ_of k v (k27 F)
theorem pq27 (F : FX h) (k : Nat) (v : Option Nat) : putQ h (some 27) 4 k v = some (sq h 27 k v) := putQ_of k v (k27 F)
theorem rc27 (F : FX h) : rc h (some 27) 4 = some 27 := rc_eq (k27 F)
theorem k45 (F : FX h) : hk h 45 = some (8, 0) := F.kd (by decide) (by decide) rfl
theorem gi45 (F : FX h) (k : Nat) : getI h (some 45) 8 k = some (hi h 45 k) := getI_of k (k45 F)
theorem gj45 (F : FX h) (k : Nat) : getJ h (some 45) 8 k = some (hj h 45 k) := getJ_of k (k45 F)
theorem gq45 (F : FX h) (k : Nat) : getQ h (some 45) 8 k = some (hq h 45 k) := getQ_of k (k45 F)
theorem pi45 (F : FX h) (k : Nat) (v : Int32) : putI h (some 45) 8 k v = some (si h 45 k v) := putI_of k v (k45 F)
theorem pz45 (F : FX h) (k : Nat) {v : Int32} (hv : v = 0 ∨ v = 1) : putZ h (some 45) 8 k v = some (si h 45 k v) := putZ_of k (k45 F) hv
theorem pj45 (F : FX h) (k : Nat) (v : Int64) : putJ h (some 45) 8 k v = some (sj h 45 k v) := putJ_of k v (k45 F)
theorem pq45 (F : FX h) (k : Nat) (v : Option Nat) : putQ h (some 45) 8 k v = some (sq h 45 k v) := putQ_of k v (k45 F)
theorem rc45 (F : FX h) : rc h (some 45) 8 = some 45 := rc_eq (k45 F)
theorem q8_0 (F : FX h) : getQ h (some 8) 7 0 = some (some 9) := (gq8 F 0).trans (congrArg some (F.2 (8, 0, 9) (by decide)))
theorem q8_1 (F : FX h) : getQ h (some 8) 7 1 = some (some 14) := (gq8 F 1).trans (congrArg some (F.2 (8, 1, 14) (by decide)))
theorem q8_2 (F : FX h) : getQ h (some 8) 7 2 = some (some 15) := (gq8 F 2).trans (congrArg some (F.2 (8, 2, 15) (by decide)))
theorem q8_4 (F : FX h) : getQ h (some 8) 7 4 = some (some 16) := (gq8 F 4).trans (congrArg some (F.2 (8, 4, 16) (by decide)))
theorem q8_7 (F : FX h) : getQ h (some 8) 7 7 = some (some 17) := (gq8 F 7).trans (congrArg some (F.2 (8, 7, 17) (by decide)))
theorem q8_8 (F : FX h) : getQ h (some 8) 7 8 = some (some 27) := (gq8 F 8).trans (congrArg some (F.2 (8, 8, 27) (by decide)))
theorem q8_9 (F : FX h) : getQ h (some 8) 7 9 = some (some 38) := (gq8 F 9).trans (congrArg some (F.2 (8, 9, 38) (by decide)))
theorem q8_10 (F : FX h) : getQ h (some 8) 7 10 = some (some 39) := (gq8 F 10).trans (congrArg some (F.2 (8, 10, 39) (by decide)))
theorem q8_11 (F : FX h) : getQ h (some 8) 7 11 = some (some 40) := (gq8 F 11).trans (congrArg some (F.2 (8, 11, 40) (by decide)))
theorem q9_0 (F : FX h) : getQ h (some 9) 2 0 = some (some 10) := (gq9 F 0).trans (congrArg some (F.2 (9, 0, 10) (by decide)))
theorem q9_3 (F : FX h) : getQ h (some 9) 2 3 = some (some 11) := (gq9 F 3).trans (congrArg some (F.2 (9, 3, 11) (by decide)))
theorem q9_4 (F : FX h) : getQ h (some 9) 2 4 = some (some 12) := (gq9 F 4).trans (congrArg some (F.2 (9, 4, 12) (by decide)))
theorem q9_8 (F : FX h) : getQ h (some 9) 2 8 = some (some 13) := (gq9 F 8).trans (congrArg some (F.2 (9, 8, 13) (by decide)))
theorem q17_0 (F : FX h) : getQ h (some 17) 5 0 = some (some 18) := (gq17 F 0).trans (congrArg some (F.2 (17, 0, 18) (by decide)))
theorem q17_1 (F : FX h) : getQ h (some 17) 5 1 = some (some 19) := (gq17 F 1).trans (congrArg some (F.2 (17, 1, 19) (by decide)))
theorem q17_2 (F : FX h) : getQ h (some 17) 5 2 = some (some 20) := (gq17 F 2).trans (congrArg some (F.2 (17, 2, 20) (by decide)))
theorem q17_4 (F : FX h) : getQ h (some 17) 5 4 = some (some 21) := (gq17 F 4).trans (congrArg some (F.2 (17, 4, 21) (by decide)))
theorem q17_5 (F : FX h) : getQ h (some 17) 5 5 = some (some 22) := (gq17 F 5).trans (congrArg some (F.2 (17, 5, 22) (by decide)))
theorem q17_6 (F : FX h) : getQ h (some 17) 5 6 = some (some 23) := (gq17 F 6).trans (congrArg some (F.2 (17, 6, 23) (by decide)))
theorem q17_9 (F : FX h) : getQ h (some 17) 5 9 = some (some 24) := (gq17 F 9).trans (congrArg some (F.2 (17, 9, 24) (by decide)))
theorem q17_10 (F : FX h) : getQ h (some 17) 5 10 = some (some 25) := (gq17 F 10).trans (congrArg some (F.2 (17, 10, 25) (by decide)))
theorem q17_11 (F : FX h) : getQ h (some 17) 5 11 = some (some 26) := (gq17 F 11).trans (congrArg some (F.2 (17, 11, 26) (by decide)))
theorem q27_4 (F : FX h) : getQ h (some 27) 4 4 = some (some 32) := (gq27 F 4).trans (congrArg some (F.2 (27, 4, 32) (by decide)))
theorem q27_5 (F : FX h) : getQ h (some 27) 4 5 = some (some 33) := (gq27 F 5).trans (congrArg some (F.2 (27, 5, 33) (by decide)))
theorem q27_6 (F : FX h) : getQ h (some 27) 4 6 = some (some 34) := (gq27 F 6).trans (congrArg some (F.2 (27, 6, 34) (by decide)))
theorem q27_7 (F : FX h) : getQ h (some 27) 4 7 = some (some 35) := (gq27 F 7).trans (congrArg some (F.2 (27, 7, 35) (by decide)))
theorem q27_8 (F : FX h) : getQ h (some 27) 4 8 = some (some 36) := (gq27 F 8).trans (congrArg some (F.2 (27, 8, 36) (by decide)))
theorem q27_11 (F : FX h) : getQ h (some 27) 4 11 = some (some 37) := (gq27 F 11).trans (congrArg some (F.2 (27, 11, 37) (by decide)))
theorem q45_0 (F : FX h) : getQ h (some 45) 8 0 = some (some 46) := (gq45 F 0).trans (congrArg some (F.2 (45, 0, 46) (by decide)))
theorem q45_1 (F : FX h) : getQ h (some 45) 8 1 = some (some 47) := (gq45 F 1).trans (congrArg some (F.2 (45, 1, 47) (by decide)))
theorem q45_11 (F : FX h) : getQ h (some 45) 8 11 = some (some 48) := (gq45 F 11).trans (congrArg some (F.2 (45, 11, 48) (by decide)))
theorem q45_12 (F : FX h) : getQ h (some 45) 8 12 = some (some 49) := (gq45 F 12).trans (congrArg some (F.2 (45, 12, 49) (by decide)))
theorem q45_13 (F : FX h) : getQ h (some 45) 8 13 = some (some 50) := (gq45 F 13).trans (congrArg some (F.2 (45, 13, 50) (by decide)))
theorem q45_14 (F : FX h) : getQ h (some 45) 8 14 = some (some 51) := (gq45 F 14).trans (congrArg some (F.2 (45, 14, 51) (by decide)))
theorem q45_15 (F : FX h) : getQ h (some 45) 8 15 = some (some 52) := (gq45 F 15).trans (congrArg some (F.2 (45, 15, 52) (by decide)))
theorem q45_16 (F : FX h) : getQ h (some 45) 8 16 = some (some 53) := (gq45 F 16).trans (congrArg some (F.2 (45, 16, 53) (by decide)))
theorem q45_17 (F : FX h) : getQ h (some 45) 8 17 = some (some 54) := (gq45 F 17).trans (congrArg some (F.2 (45, 17, 54) (by decide)))
theorem q45_18 (F : FX h) : getQ h (some 45) 8 18 = some (some 55) := (gq45 F 18).trans (congrArg some (F.2 (45, 18, 55) (by decide)))
theorem q45_19 (F : FX h) : getQ h (some 45) 8 19 = some (some 56) := (gq45 F 19).trans (congrArg some (F.2 (45, 19, 56) (by decide)))
theorem q45_20 (F : FX h) : getQ h (some 45) 8 20 = some (some 57) := (gq45 F 20).trans (congrArg some (F.2 (45, 20, 57) (by decide)))
theorem q45_21 (F : FX h) : getQ h (some 45) 8 21 = some (some 58) := (gq45 F 21).trans (congrArg some (F.2 (45, 21, 58) (by decide)))
theorem q45_22 (F : FX h) : getQ h (some 45) 8 22 = some (some 59) := (gq45 F 22).trans (congrArg some (F.2 (45, 22, 59) (by decide)))
theorem q45_23 (F : FX h) : getQ h (some 45) 8 23 = some (some 60) := (gq45 F 23).trans (congrArg some (F.2 (45, 23, 60) (by decide)))
theorem q45_24 (F : FX h) : getQ h (some 45) 8 24 = some (some 61) := (gq45 F 24).trans (congrArg some (F.2 (45, 24, 61) (by decide)))
theorem q45_30 (F : FX h) : getQ h (some 45) 8 30 = some (some 62) := (gq45 F 30).trans (congrArg some (F.2 (45, 30, 62) (by decide)))
theorem q45_31 (F : FX h) : getQ h (some 45) 8 31 = some (some 63) := (gq45 F 31).trans (congrArg some (F.2 (45, 31, 63) (by decide)))
theorem q45_32 (F : FX h) : getQ h (some 45) 8 32 = some (some 64) := (gq45 F 32).trans (congrArg some (F.2 (45, 32, 64) (by decide)))
theorem q45_33 (F : FX h) : getQ h (some 45) 8 33 = some (some 65) := (gq45 F 33).trans (congrArg some (F.2 (45, 33, 65) (by decide)))
theorem q45_34 (F : FX h) : getQ h (some 45) 8 34 = some (some 66) := (gq45 F 34).trans (congrArg some (F.2 (45, 34, 66) (by decide)))
theorem q45_35 (F : FX h) : getQ h (some 45) 8 35 = some (some 67) := (gq45 F 35).trans (congrArg some (F.2 (45, 35, 67) (by decide)))
theorem q45_36 (F : FX h) : getQ h (some 45) 8 36 = some (some 68) := (gq45 F 36).trans (congrArg some (F.2 (45, 36, 68) (by decide)))
theorem q45_37 (F : FX h) : getQ h (some 45) 8 37 = some (some 69) := (gq45 F 37).trans (congrArg some (F.2 (45, 37, 69) (by decide)))
theorem q45_38 (F : FX h) : getQ h (some 45) 8 38 = some (some 70) := (gq45 F 38).trans (congrArg some (F.2 (45, 38, 70) (by decide)))
theorem q45_39 (F : FX h) : getQ h (some 45) 8 39 = some (some 71) := (gq45 F 39).trans (congrArg some (F.2 (45, 39, 71) (by decide)))
theorem q45_43 (F : FX h) : getQ h (some 45) 8 43 = some (some 72) := (gq45 F 43).trans (congrArg some (F.2 (45, 43, 72) (by decide)))
theorem q45_44 (F : FX h) : getQ h (some 45) 8 44 = some (some 73) := (gq45 F 44).trans (congrArg some (F.2 (45, 44, 73) (by decide)))
theorem q45_45 (F : FX h) : getQ h (some 45) 8 45 = some (some 74) := (gq45 F 45).trans (congrArg some (F.2 (45, 45, 74) (by decide)))
theorem q45_46 (F : FX h) : getQ h (some 45) 8 46 = some (some 75) := (gq45 F 46).trans (congrArg some (F.2 (45, 46, 75) (by decide)))
theorem q45_47 (F : FX h) : getQ h (some 45) 8 47 = some (some 76) := (gq45 F 47).trans (congrArg some (F.2 (45, 47, 76) (by decide)))
theorem q45_48 (F : FX h) : getQ h (some 45) 8 48 = some (some 77) := (gq45 F 48).trans (congrArg some (F.2 (45, 48, 77) (by decide)))
theorem q45_52 (F : FX h) : getQ h (some 45) 8 52 = some (some 78) := (gq45 F 52).trans (congrArg some (F.2 (45, 52, 78) (by decide)))
theorem q45_53 (F : FX h) : getQ h (some 45) 8 53 = some (some 79) := (gq45 F 53).trans (congrArg some (F.2 (45, 53, 79) (by decide)))
theorem q45_54 (F : FX h) : getQ h (some 45) 8 54 = some (some 80) := (gq45 F 54).trans (congrArg some (F.2 (45, 54, 80) (by decide)))
theorem q45_59 (F : FX h) : getQ h (some 45) 8 59 = some (some 81) := (gq45 F 59).trans (congrArg some (F.2 (45, 59, 81) (by decide)))
theorem q45_60 (F : FX h) : getQ h (some 45) 8 60 = some (some 82) := (gq45 F 60).trans (congrArg some (F.2 (45, 60, 82) (by decide)))
theorem q45_61 (F : FX h) : getQ h (some 45) 8 61 = some (some 83) := (gq45 F 61).trans (congrArg some (F.2 (45, 61, 83) (by decide)))
theorem q45_62 (F : FX h) : getQ h (some 45) 8 62 = some (some 84) := (gq45 F 62).trans (congrArg some (F.2 (45, 62, 84) (by decide)))
theorem q45_65 (F : FX h) : getQ h (some 45) 8 65 = some (some 85) := (gq45 F 65).trans (congrArg some (F.2 (45, 65, 85) (by decide)))
theorem q45_67 (F : FX h) : getQ h (some 45) 8 67 = some (some 86) := (gq45 F 67).trans (congrArg some (F.2 (45, 67, 86) (by decide)))
theorem q45_68 (F : FX h) : getQ h (some 45) 8 68 = some (some 87) := (gq45 F 68).trans (congrArg some (F.2 (45, 68, 87) (by decide)))
theorem r0 (F : FX h) {i : Nat} (hi' : i < 7) : rdI h (some 0) 10 (nI i) = some (hi h 0 i) := rdI_eq (F.kd (a := 0) (by decide) (by decide) rfl) hi' (by decide)
theorem n0 (F : FX h) : aln h (some 0) 10 = some (nI 7) := aln_eq (F.kd (a := 0) (by decide) (by decide) rfl)
theorem r1 (F : FX h) {i : Nat} (hi' : i < 7) : rdI h (some 1) 10 (nI i) = some (hi h 1 i) := rdI_eq (F.kd (a := 1) (by decide) (by decide) rfl) hi' (by decide)
theorem n1 (F : FX h) : aln h (some 1) 10 = some (nI 7) := aln_eq (F.kd (a := 1) (by decide) (by decide) rfl)
theorem r10 (F : FX h) {i : Nat} (hi' : i < 900) : rdI h (some 10) 9 (nI i) = some (hi h 10 i) := rdI_eq (F.kd (a := 10) (by decide) (by decide) rfl) hi' (by decide)
theorem n10 (F : FX h) : aln h (some 10) 9 = some (nI 900) := aln_eq (F.kd (a := 10) (by decide) (by decide) rfl)
theorem w10 (F : FX h) {i : Nat} (hi' : i < 900) (v : Int32) : wrB h (some 10) (nI i) v = some (si h 10 i v.toInt8.toInt32) := wrB_eq v (F.kd (a := 10) (by decide) (by decide) rfl) hi' (by decide)
theorem r11 (F : FX h) {i : Nat} (hi' : i < 901) : rdI h (some 11) 10 (nI i) = some (hi h 11 i) := rdI_eq (F.kd (a := 11) (by decide) (by decide) rfl) hi' (by decide)
theorem n11 (F : FX h) : aln h (some 11) 10 = some (nI 901) := aln_eq (F.kd (a := 11) (by decide) (by decide) rfl)
theorem w11 (F : FX h) {i : Nat} (hi' : i < 901) (v : Int32) : wrI h (some 11) (nI i) v = some (si h 11 i v) := wrI_eq v (F.kd (a := 11) (by decide) (by decide) rfl) (by decide) hi' (by decide)
theorem r12 (F : FX h) {i : Nat} (hi' : i < 901) : rdI h (some 12) 10 (nI i) = some (hi h 12 i) := rdI_eq (F.kd (a := 12) (by decide) (by decide) rfl) hi' (by decide)
theorem n12 (F : FX h) : aln h (some 12) 10 = some (nI 901) := aln_eq (F.kd (a := 12) (by decide) (by decide) rfl)
theorem w12 (F : FX h) {i : Nat} (hi' : i < 901) (v : Int32) : wrI h (some 12) (nI i) v = some (si h 12 i v) := wrI_eq v (F.kd (a := 12) (by decide) (by decide) rfl) (by decide) hi' (by decide)
theorem r13 (F : FX h) {i : Nat} (hi' : i < 900) : rdI h (some 13) 10 (nI i) = some (hi h 13 i) := rdI_eq (F.kd (a := 13) (by decide) (by decide) rfl) hi' (by decide)
theorem n13 (F : FX h) : aln h (some 13) 10 = some (nI 900) := aln_eq (F.kd (a := 13) (by decide) (by decide) rfl)
theorem w13 (F : FX h) {i : Nat} (hi' : i < 900) (v : Int32) : wrI h (some 13) (nI i) v = some (si h 13 i v) := wrI_eq v (F.kd (a := 13) (by decide) (by decide) rfl) (by decide) hi' (by decide)
theorem r14 (F : FX h) {i : Nat} (hi' : i < 4) : rdQ h (some 14) 13 (nI i) = some (hq h 14 i) := rdQ_eq (F.kd (a := 14) (by decide) (by decide) rfl) hi' (by decide)
theorem n14 (F : FX h) : aln h (some 14) 13 = some (nI 4) := aln_eq (F.kd (a := 14) (by decide) (by decide) rfl)
theorem r15 (F : FX h) {i : Nat} (hi' : i < 10) : rdQ h (some 15) 16 (nI i) = some (hq h 15 i) := rdQ_eq (F.kd (a := 15) (by decide) (by decide) rfl) hi' (by decide)
theorem n15 (F : FX h) : aln h (some 15) 16 = some (nI 10) := aln_eq (F.kd (a := 15) (by decide) (by decide) rfl)
theorem r16 (F : FX h) {i : Nat} (hi' : i < 250) : rdQ h (some 16) 14 (nI i) = some (hq h 16 i) := rdQ_eq (F.kd (a := 16) (by decide) (by decide) rfl) hi' (by decide)
theorem n16 (F : FX h) : aln h (some 16) 14 = some (nI 250) := aln_eq (F.kd (a := 16) (by decide) (by decide) rfl)
theorem r18 (F : FX h) {i : Nat} (hi' : i < 10) : rdI h (some 18) 10 (nI i) = some (hi h 18 i) := rdI_eq (F.kd (a := 18) (by decide) (by decide) rfl) hi' (by decide)
theorem n18 (F : FX h) : aln h (some 18) 10 = some (nI 10) := aln_eq (F.kd (a := 18) (by decide) (by decide) rfl)
theorem w18 (F : FX h) {i : Nat} (hi' : i < 10) (v : Int32) : wrI h (some 18) (nI i) v = some (si h 18 i v) := wrI_eq v (F.kd (a := 18) (by decide) (by decide) rfl) (by decide) hi' (by decide)
theorem r19 (F : FX h) {i : Nat} (hi' : i < 10) : rdI h (some 19) 10 (nI i) = some (hi h 19 i) := rdI_eq (F.kd (a := 19) (by decide) (by decide) rfl) hi' (by decide)
theorem n19 (F : FX h) : aln h (some 19) 10 = some (nI 10) := aln_eq (F.kd (a := 19) (by decide) (by decide) rfl)
theorem w19 (F : FX h) {i : Nat} (hi' : i < 10) (v : Int32) : wrI h (some 19) (nI i) v = some (si h 19 i v) := wrI_eq v (F.kd (a := 19) (by decide) (by decide) rfl) (by decide) hi' (by decide)
theorem r20 (F : FX h) {i : Nat} (hi' : i < 10) : rdI h (some 20) 10 (nI i) = some (hi h 20 i) := rdI_eq (F.kd (a := 20) (by decide) (by decide) rfl) hi' (by decide)
theorem n20 (F : FX h) : aln h (some 20) 10 = some (nI 10) := aln_eq (F.kd (a := 20) (by decide) (by decide) rfl)
theorem w20 (F : FX h) {i : Nat} (hi' : i < 10) (v : Int32) : wrI h (some 20) (nI i) v = some (si h 20 i v) := wrI_eq v (F.kd (a := 20) (by decide) (by decide) rfl) (by decide) hi' (by decide)
theorem r21 (F : FX h) {i : Nat} (hi' : i < 105) : rdI h (some 21) 10 (nI i) = some (hi h 21 i) := rdI_eq (F.kd (a := 21) (by decide) (by decide) rfl) hi' (by decide)
theorem n21 (F : FX h) : aln h (some 21) 10 = some (nI 105) := aln_eq (F.kd (a := 21) (by decide) (by decide) rfl)
theorem w21 (F : FX h) {i : Nat} (hi' : i < 105) (v : Int32) : wrI h (some 21) (nI i) v = some (si h 21 i v) := wrI_eq v (F.kd (a := 21) (by decide) (by decide) rfl) (by decide) hi' (by decide)
theorem r22 (F : FX h) {i : Nat} (hi' : i < 20) : rdI h (some 22) 10 (nI i) = some (hi h 22 i) := rdI_eq (F.kd (a := 22) (by decide) (by decide) rfl) hi' (by decide)
theorem n22 (F : FX h) : aln h (some 22) 10 = some (nI 20) := aln_eq (F.kd (a := 22) (by decide) (by decide) rfl)
theorem w22 (F : FX h) {i : Nat} (hi' : i < 20) (v : Int32) : wrI h (some 22) (nI i) v = some (si h 22 i v) := wrI_eq v (F.kd (a := 22) (by decide) (by decide) rfl) (by decide) hi' (by decide)
theorem r23 (F : FX h) {i : Nat} (hi' : i < 20) : rdI h (some 23) 10 (nI i) = some (hi h 23 i) := rdI_eq (F.kd (a := 23) (by decide) (by decide) rfl) hi' (by decide)
theorem n23 (F : FX h) : aln h (some 23) 10 = some (nI 20) := aln_eq (F.kd (a := 23) (by decide) (by decide) rfl)
theorem w23 (F : FX h) {i : Nat} (hi' : i < 20) (v : Int32) : wrI h (some 23) (nI i) v = some (si h 23 i v) := wrI_eq v (F.kd (a := 23) (by decide) (by decide) rfl) (by decide) hi' (by decide)
theorem r24 (F : FX h) {i : Nat} (hi' : i < 20) : rdI h (some 24) 10 (nI i) = some (hi h 24 i) := rdI_eq (F.kd (a := 24) (by decide) (by decide) rfl) hi' (by decide)
theorem n24 (F : FX h) : aln h (some 24) 10 = some (nI 20) := aln_eq (F.kd (a := 24) (by decide) (by decide) rfl)
theorem w24 (F : FX h) {i : Nat} (hi' : i < 20) (v : Int32) : wrI h (some 24) (nI i) v = some (si h 24 i v) := wrI_eq v (F.kd (a := 24) (by decide) (by decide) rfl) (by decide) hi' (by decide)
theorem r25 (F : FX h) {i : Nat} (hi' : i < 20) : rdI h (some 25) 10 (nI i) = some (hi h 25 i) := rdI_eq (F.kd (a := 25) (by decide) (by decide) rfl) hi' (by decide)
theorem n25 (F : FX h) : aln h (some 25) 10 = some (nI 20) := aln_eq (F.kd (a := 25) (by decide) (by decide) rfl)
theorem w25 (F : FX h) {i : Nat} (hi' : i < 20) (v : Int32) : wrI h (some 25) (nI i) v = some (si h 25 i v) := wrI_eq v (F.kd (a := 25) (by decide) (by decide) rfl) (by decide) hi' (by decide)
theorem r26 (F : FX h) {i : Nat} (hi' : i < 20) : rdI h (some 26) 10 (nI i) = some (hi h 26 i) := rdI_eq (F.kd (a := 26) (by decide) (by decide) rfl) hi' (by decide)
theorem n26 (F : FX h) : aln h (some 26) 10 = some (nI 20) := aln_eq (F.kd (a := 26) (by decide) (by decide) rfl)
theorem w26 (F : FX h) {i : Nat} (hi' : i < 20) (v : Int32) : wrI h (some 26) (nI i) v = some (si h 26 i v) := wrI_eq v (F.kd (a := 26) (by decide) (by decide) rfl) (by decide) hi' (by decide)
theorem r29 (F : FX h) {i : Nat} (hi' : i < 10) : rdQ h (some 29) 15 (nI i) = some (hq h 29 i) := rdQ_eq (F.kd (a := 29) (by decide) (by decide) rfl) hi' (by decide)
theorem n29 (F : FX h) : aln h (some 29) 15 = some (nI 10) := aln_eq (F.kd (a := 29) (by decide) (by decide) rfl)
theorem r30 (F : FX h) {i : Nat} (hi' : i < 0) : rdI h (some 30) 10 (nI i) = some (hi h 30 i) := rdI_eq (F.kd (a := 30) (by decide) (by decide) rfl) hi' (by decide)
theorem n30 (F : FX h) : aln h (some 30) 10 = some (nI 0) := aln_eq (F.kd (a := 30) (by decide) (by decide) rfl)
theorem w30 (F : FX h) {i : Nat} (hi' : i < 0) (v : Int32) : wrI h (some 30) (nI i) v = some (si h 30 i v) := wrI_eq v (F.kd (a := 30) (by decide) (by decide) rfl) (by decide) hi' (by decide)
theorem r31 (F : FX h) {i : Nat} (hi' : i < 7) : rdI h (some 31) 10 (nI i) = some (hi h 31 i) := rdI_eq (F.kd (a := 31) (by decide) (by decide) rfl) hi' (by decide)
theorem n31 (F : FX h) : aln h (some 31) 10 = some (nI 7) := aln_eq (F.kd (a := 31) (by decide) (by decide) rfl)
theorem w31 (F : FX h) {i : Nat} (hi' : i < 7) (v : Int32) : wrI h (some 31) (nI i) v = some (si h 31 i v) := wrI_eq v (F.kd (a := 31) (by decide) (by decide) rfl) (by decide) hi' (by decide)
theorem r32 (F : FX h) {i : Nat} (hi' : i < 624) : rdI h (some 32) 10 (nI i) = some (hi h 32 i) := rdI_eq (F.kd (a := 32) (by decide) (by decide) rfl) hi' (by decide)
theorem n32 (F : FX h) : aln h (some 32) 10 = some (nI 624) := aln_eq (F.kd (a := 32) (by decide) (by decide) rfl)
theorem w32 (F : FX h) {i : Nat} (hi' : i < 624) (v : Int32) : wrI h (some 32) (nI i) v = some (si h 32 i v) := wrI_eq v (F.kd (a := 32) (by decide) (by decide) rfl) (by decide) hi' (by decide)
theorem r33 (F : FX h) {i : Nat} (hi' : i < 104) : rdI h (some 33) 10 (nI i) = some (hi h 33 i) := rdI_eq (F.kd (a := 33) (by decide) (by decide) rfl) hi' (by decide)
theorem n33 (F : FX h) : aln h (some 33) 10 = some (nI 104) := aln_eq (F.kd (a := 33) (by decide) (by decide) rfl)
theorem w33 (F : FX h) {i : Nat} (hi' : i < 104) (v : Int32) : wrI h (some 33) (nI i) v = some (si h 33 i v) := wrI_eq v (F.kd (a := 33) (by decide) (by decide) rfl) (by decide) hi' (by decide)
theorem r34 (F : FX h) {i : Nat} (hi' : i < 104) : rdI h (some 34) 10 (nI i) = some (hi h 34 i) := rdI_eq (F.kd (a := 34) (by decide) (by decide) rfl) hi' (by decide)
theorem n34 (F : FX h) : aln h (some 34) 10 = some (nI 104) := aln_eq (F.kd (a := 34) (by decide) (by decide) rfl)
theorem w34 (F : FX h) {i : Nat} (hi' : i < 104) (v : Int32) : wrI h (some 34) (nI i) v = some (si h 34 i v) := wrI_eq v (F.kd (a := 34) (by decide) (by decide) rfl) (by decide) hi' (by decide)
theorem r35 (F : FX h) {i : Nat} (hi' : i < 104) : rdI h (some 35) 10 (nI i) = some (hi h 35 i) := rdI_eq (F.kd (a := 35) (by decide) (by decide) rfl) hi' (by decide)
theorem n35 (F : FX h) : aln h (some 35) 10 = some (nI 104) := aln_eq (F.kd (a := 35) (by decide) (by decide) rfl)
theorem w35 (F : FX h) {i : Nat} (hi' : i < 104) (v : Int32) : wrI h (some 35) (nI i) v = some (si h 35 i v) := wrI_eq v (F.kd (a := 35) (by decide) (by decide) rfl) (by decide) hi' (by decide)
theorem r36 (F : FX h) {i : Nat} (hi' : i < 80) : rdI h (some 36) 10 (nI i) = some (hi h 36 i) := rdI_eq (F.kd (a := 36) (by decide) (by decide) rfl) hi' (by decide)
theorem n36 (F : FX h) : aln h (some 36) 10 = some (nI 80) := aln_eq (F.kd (a := 36) (by decide) (by decide) rfl)
theorem w36 (F : FX h) {i : Nat} (hi' : i < 80) (v : Int32) : wrI h (some 36) (nI i) v = some (si h 36 i v) := wrI_eq v (F.kd (a := 36) (by decide) (by decide) rfl) (by decide) hi' (by decide)
theorem r37 (F : FX h) {i : Nat} (hi' : i < 250) : rdQ h (some 37) 14 (nI i) = some (hq h 37 i) := rdQ_eq (F.kd (a := 37) (by decide) (by decide) rfl) hi' (by decide)
theorem n37 (F : FX h) : aln h (some 37) 14 = some (nI 250) := aln_eq (F.kd (a := 37) (by decide) (by decide) rfl)
theorem r38 (F : FX h) {i : Nat} (hi' : i < 10) : rdJ h (some 38) 11 (nI i) = some (hj h 38 i) := rdJ_eq (F.kd (a := 38) (by decide) (by decide) rfl) hi' (by decide)
theorem n38 (F : FX h) : aln h (some 38) 11 = some (nI 10) := aln_eq (F.kd (a := 38) (by decide) (by decide) rfl)
theorem w38 (F : FX h) {i : Nat} (hi' : i < 10) (v : Int64) : wrJ h (some 38) (nI i) v = some (sj h 38 i v) := wrJ_eq v (F.kd (a := 38) (by decide) (by decide) rfl) hi' (by decide)
theorem r39 (F : FX h) {i : Nat} (hi' : i < 10) : rdI h (some 39) 10 (nI i) = some (hi h 39 i) := rdI_eq (F.kd (a := 39) (by decide) (by decide) rfl) hi' (by decide)
theorem n39 (F : FX h) : aln h (some 39) 10 = some (nI 10) := aln_eq (F.kd (a := 39) (by decide) (by decide) rfl)
theorem w39 (F : FX h) {i : Nat} (hi' : i < 10) (v : Int32) : wrI h (some 39) (nI i) v = some (si h 39 i v) := wrI_eq v (F.kd (a := 39) (by decide) (by decide) rfl) (by decide) hi' (by decide)
theorem r40 (F : FX h) {i : Nat} (hi' : i < 32) : rdJ h (some 40) 11 (nI i) = some (hj h 40 i) := rdJ_eq (F.kd (a := 40) (by decide) (by decide) rfl) hi' (by decide)
theorem n40 (F : FX h) : aln h (some 40) 11 = some (nI 32) := aln_eq (F.kd (a := 40) (by decide) (by decide) rfl)
theorem w40 (F : FX h) {i : Nat} (hi' : i < 32) (v : Int64) : wrJ h (some 40) (nI i) v = some (sj h 40 i v) := wrJ_eq v (F.kd (a := 40) (by decide) (by decide) rfl) hi' (by decide)
theorem r42 (F : FX h) {i : Nat} (hi' : i < 10) : rdQ h (some 42) 15 (nI i) = some (hq h 42 i) := rdQ_eq (F.kd (a := 42) (by decide) (by decide) rfl) hi' (by decide)
theorem n42 (F : FX h) : aln h (some 42) 15 = some (nI 10) := aln_eq (F.kd (a := 42) (by decide) (by decide) rfl)
theorem r43 (F : FX h) {i : Nat} (hi' : i < 0) : rdI h (some 43) 10 (nI i) = some (hi h 43 i) := rdI_eq (F.kd (a := 43) (by decide) (by decide) rfl) hi' (by decide)
theorem n43 (F : FX h) : aln h (some 43) 10 = some (nI 0) := aln_eq (F.kd (a := 43) (by decide) (by decide) rfl)
theorem w43 (F : FX h) {i : Nat} (hi' : i < 0) (v : Int32) : wrI h (some 43) (nI i) v = some (si h 43 i v) := wrI_eq v (F.kd (a := 43) (by decide) (by decide) rfl) (by decide) hi' (by decide)
theorem r44 (F : FX h) {i : Nat} (hi' : i < 7) : rdI h (some 44) 10 (nI i) = some (hi h 44 i) := rdI_eq (F.kd (a := 44) (by decide) (by decide) rfl) hi' (by decide)
theorem n44 (F : FX h) : aln h (some 44) 10 = some (nI 7) := aln_eq (F.kd (a := 44) (by decide) (by decide) rfl)
theorem w44 (F : FX h) {i : Nat} (hi' : i < 7) (v : Int32) : wrI h (some 44) (nI i) v = some (si h 44 i v) := wrI_eq v (F.kd (a := 44) (by decide) (by decide) rfl) (by decide) hi' (by decide)
theorem r46 (F : FX h) {i : Nat} (hi' : i < 920) : rdI h (some 46) 9 (nI i) = some (hi h 46 i) := rdI_eq (F.kd (a := 46) (by decide) (by decide) rfl) hi' (by decide)
theorem n46 (F : FX h) : aln h (some 46) 9 = some (nI 920) := aln_eq (F.kd (a := 46) (by decide) (by decide) rfl)
theorem w46 (F : FX h) {i : Nat} (hi' : i < 920) (v : Int32) : wrB h (some 46) (nI i) v = some (si h 46 i v.toInt8.toInt32) := wrB_eq v (F.kd (a := 46) (by decide) (by decide) rfl) hi' (by decide)
theorem r47 (F : FX h) {i : Nat} (hi' : i < 900) : rdI h (some 47) 9 (nI i) = some (hi h 47 i) := rdI_eq (F.kd (a := 47) (by decide) (by decide) rfl) hi' (by decide)
theorem n47 (F : FX h) : aln h (some 47) 9 = some (nI 900) := aln_eq (F.kd (a := 47) (by decide) (by decide) rfl)
theorem w47 (F : FX h) {i : Nat} (hi' : i < 900) (v : Int32) : wrB h (some 47) (nI i) v = some (si h 47 i v.toInt8.toInt32) := wrB_eq v (F.kd (a := 47) (by decide) (by decide) rfl) hi' (by decide)
theorem r48 (F : FX h) {i : Nat} (hi' : i < 35) : rdI h (some 48) 10 (nI i) = some (hi h 48 i) := rdI_eq (F.kd (a := 48) (by decide) (by decide) rfl) hi' (by decide)
theorem n48 (F : FX h) : aln h (some 48) 10 = some (nI 35) := aln_eq (F.kd (a := 48) (by decide) (by decide) rfl)
theorem w48 (F : FX h) {i : Nat} (hi' : i < 35) (v : Int32) : wrI h (some 48) (nI i) v = some (si h 48 i v) := wrI_eq v (F.kd (a := 48) (by decide) (by decide) rfl) (by decide) hi' (by decide)
theorem r49 (F : FX h) {i : Nat} (hi' : i < 5) : rdI h (some 49) 10 (nI i) = some (hi h 49 i) := rdI_eq (F.kd (a := 49) (by decide) (by decide) rfl) hi' (by decide)
theorem n49 (F : FX h) : aln h (some 49) 10 = some (nI 5) := aln_eq (F.kd (a := 49) (by decide) (by decide) rfl)
theorem w49 (F : FX h) {i : Nat} (hi' : i < 5) (v : Int32) : wrI h (some 49) (nI i) v = some (si h 49 i v) := wrI_eq v (F.kd (a := 49) (by decide) (by decide) rfl) (by decide) hi' (by decide)
theorem r50 (F : FX h) {i : Nat} (hi' : i < 5) : rdI h (some 50) 10 (nI i) = some (hi h 50 i) := rdI_eq (F.kd (a := 50) (by decide) (by decide) rfl) hi' (by decide)
theorem n50 (F : FX h) : aln h (some 50) 10 = some (nI 5) := aln_eq (F.kd (a := 50) (by decide) (by decide) rfl)
theorem w50 (F : FX h) {i : Nat} (hi' : i < 5) (v : Int32) : wrI h (some 50) (nI i) v = some (si h 50 i v) := wrI_eq v (F.kd (a := 50) (by decide) (by decide) rfl) (by decide) hi' (by decide)
theorem r51 (F : FX h) {i : Nat} (hi' : i < 55) : rdI h (some 51) 10 (nI i) = some (hi h 51 i) := rdI_eq (F.kd (a := 51) (by decide) (by decide) rfl) hi' (by decide)
theorem n51 (F : FX h) : aln h (some 51) 10 = some (nI 55) := aln_eq (F.kd (a := 51) (by decide) (by decide) rfl)
theorem w51 (F : FX h) {i : Nat} (hi' : i < 55) (v : Int32) : wrI h (some 51) (nI i) v = some (si h 51 i v) := wrI_eq v (F.kd (a := 51) (by decide) (by decide) rfl) (by decide) hi' (by decide)
theorem r52 (F : FX h) {i : Nat} (hi' : i < 55) : rdI h (some 52) 10 (nI i) = some (hi h 52 i) := rdI_eq (F.kd (a := 52) (by decide) (by decide) rfl) hi' (by decide)
theorem n52 (F : FX h) : aln h (some 52) 10 = some (nI 55) := aln_eq (F.kd (a := 52) (by decide) (by decide) rfl)
theorem w52 (F : FX h) {i : Nat} (hi' : i < 55) (v : Int32) : wrI h (some 52) (nI i) v = some (si h 52 i v) := wrI_eq v (F.kd (a := 52) (by decide) (by decide) rfl) (by decide) hi' (by decide)
theorem r53 (F : FX h) {i : Nat} (hi' : i < 55) : rdI h (some 53) 10 (nI i) = some (hi h 53 i) := rdI_eq (F.kd (a := 53) (by decide) (by decide) rfl) hi' (by decide)
theorem n53 (F : FX h) : aln h (some 53) 10 = some (nI 55) := aln_eq (F.kd (a := 53) (by decide) (by decide) rfl)
theorem w53 (F : FX h) {i : Nat} (hi' : i < 55) (v : Int32) : wrI h (some 53) (nI i) v = some (si h 53 i v) := wrI_eq v (F.kd (a := 53) (by decide) (by decide) rfl) (by decide) hi' (by decide)
theorem r54 (F : FX h) {i : Nat} (hi' : i < 55) : rdI h (some 54) 10 (nI i) = some (hi h 54 i) := rdI_eq (F.kd (a := 54) (by decide) (by decide) rfl) hi' (by decide)
theorem n54 (F : FX h) : aln h (some 54) 10 = some (nI 55) := aln_eq (F.kd (a := 54) (by decide) (by decide) rfl)
theorem w54 (F : FX h) {i : Nat} (hi' : i < 55) (v : Int32) : wrI h (some 54) (nI i) v = some (si h 54 i v) := wrI_eq v (F.kd (a := 54) (by decide) (by decide) rfl) (by decide) hi' (by decide)
theorem r55 (F : FX h) {i : Nat} (hi' : i < 4500) : rdI h (some 55) 10 (nI i) = some (hi h 55 i) := rdI_eq (F.kd (a := 55) (by decide) (by decide) rfl) hi' (by decide)
theorem n55 (F : FX h) : aln h (some 55) 10 = some (nI 4500) := aln_eq (F.kd (a := 55) (by decide) (by decide) rfl)
theorem w55 (F : FX h) {i : Nat} (hi' : i < 4500) (v : Int32) : wrI h (some 55) (nI i) v = some (si h 55 i v) := wrI_eq v (F.kd (a := 55) (by decide) (by decide) rfl) (by decide) hi' (by decide)
theorem r56 (F : FX h) {i : Nat} (hi' : i < 4500) : rdI h (some 56) 10 (nI i) = some (hi h 56 i) := rdI_eq (F.kd (a := 56) (by decide) (by decide) rfl) hi' (by decide)
theorem n56 (F : FX h) : aln h (some 56) 10 = some (nI 4500) := aln_eq (F.kd (a := 56) (by decide) (by decide) rfl)
theorem w56 (F : FX h) {i : Nat} (hi' : i < 4500) (v : Int32) : wrI h (some 56) (nI i) v = some (si h 56 i v) := wrI_eq v (F.kd (a := 56) (by decide) (by decide) rfl) (by decide) hi' (by decide)
theorem r57 (F : FX h) {i : Nat} (hi' : i < 80) : rdI h (some 57) 10 (nI i) = some (hi h 57 i) := rdI_eq (F.kd (a := 57) (by decide) (by decide) rfl) hi' (by decide)
theorem n57 (F : FX h) : aln h (some 57) 10 = some (nI 80) := aln_eq (F.kd (a := 57) (by decide) (by decide) rfl)
theorem w57 (F : FX h) {i : Nat} (hi' : i < 80) (v : Int32) : wrI h (some 57) (nI i) v = some (si h 57 i v) := wrI_eq v (F.kd (a := 57) (by decide) (by decide) rfl) (by decide) hi' (by decide)
theorem r58 (F : FX h) {i : Nat} (hi' : i < 80) : rdI h (some 58) 10 (nI i) = some (hi h 58 i) := rdI_eq (F.kd (a := 58) (by decide) (by decide) rfl) hi' (by decide)
theorem n58 (F : FX h) : aln h (some 58) 10 = some (nI 80) := aln_eq (F.kd (a := 58) (by decide) (by decide) rfl)
theorem w58 (F : FX h) {i : Nat} (hi' : i < 80) (v : Int32) : wrI h (some 58) (nI i) v = some (si h 58 i v) := wrI_eq v (F.kd (a := 58) (by decide) (by decide) rfl) (by decide) hi' (by decide)
theorem r59 (F : FX h) {i : Nat} (hi' : i < 120) : rdI h (some 59) 10 (nI i) = some (hi h 59 i) := rdI_eq (F.kd (a := 59) (by decide) (by decide) rfl) hi' (by decide)
theorem n59 (F : FX h) : aln h (some 59) 10 = some (nI 120) := aln_eq (F.kd (a := 59) (by decide) (by decide) rfl)
theorem w59 (F : FX h) {i : Nat} (hi' : i < 120) (v : Int32) : wrI h (some 59) (nI i) v = some (si h 59 i v) := wrI_eq v (F.kd (a := 59) (by decide) (by decide) rfl) (by decide) hi' (by decide)
theorem r60 (F : FX h) {i : Nat} (hi' : i < 35) : rdI h (some 60) 12 (nI i) = some (hi h 60 i) := rdI_eq (F.kd (a := 60) (by decide) (by decide) rfl) hi' (by decide)
theorem n60 (F : FX h) : aln h (some 60) 12 = some (nI 35) := aln_eq (F.kd (a := 60) (by decide) (by decide) rfl)
theorem w60 (F : FX h) {i : Nat} (hi' : i < 35) {v : Int32} (hv : v = 0 ∨ v = 1) : wrZ h (some 60) (nI i) v = some (si h 60 i v) := wrZ_eq (F.kd (a := 60) (by decide) (by decide) rfl) hv hi' (by decide)
theorem r61 (F : FX h) {i : Nat} (hi' : i < 5) : rdI h (some 61) 12 (nI i) = some (hi h 61 i) := rdI_eq (F.kd (a := 61) (by decide) (by decide) rfl) hi' (by decide)
theorem n61 (F : FX h) : aln h (some 61) 12 = some (nI 5) := aln_eq (F.kd (a := 61) (by decide) (by decide) rfl)
theorem w61 (F : FX h) {i : Nat} (hi' : i < 5) {v : Int32} (hv : v = 0 ∨ v = 1) : wrZ h (some 61) (nI i) v = some (si h 61 i v) := wrZ_eq (F.kd (a := 61) (by decide) (by decide) rfl) hv hi' (by decide)
theorem r62 (F : FX h) {i : Nat} (hi' : i < 10) : rdI h (some 62) 10 (nI i) = some (hi h 62 i) := rdI_eq (F.kd (a := 62) (by decide) (by decide) rfl) hi' (by decide)
theorem n62 (F : FX h) : aln h (some 62) 10 = some (nI 10) := aln_eq (F.kd (a := 62) (by decide) (by decide) rfl)
theorem w62 (F : FX h) {i : Nat} (hi' : i < 10) (v : Int32) : wrI h (some 62) (nI i) v = some (si h 62 i v) := wrI_eq v (F.kd (a := 62) (by decide) (by decide) rfl) (by decide) hi' (by decide)
theorem r63 (F : FX h) {i : Nat} (hi' : i < 10) : rdI h (some 63) 10 (nI i) = some (hi h 63 i) := rdI_eq (F.kd (a := 63) (by decide) (by decide) rfl) hi' (by decide)
theorem n63 (F : FX h) : aln h (some 63) 10 = some (nI 10) := aln_eq (F.kd (a := 63) (by decide) (by decide) rfl)
theorem w63 (F : FX h) {i : Nat} (hi' : i < 10) (v : Int32) : wrI h (some 63) (nI i) v = some (si h 63 i v) := wrI_eq v (F.kd (a := 63) (by decide) (by decide) rfl) (by decide) hi' (by decide)
theorem r64 (F : FX h) {i : Nat} (hi' : i < 250) : rdI h (some 64) 10 (nI i) = some (hi h 64 i) := rdI_eq (F.kd (a := 64) (by decide) (by decide) rfl) hi' (by decide)
theorem n64 (F : FX h) : aln h (some 64) 10 = some (nI 250) := aln_eq (F.kd (a := 64) (by decide) (by decide) rfl)
theorem w64 (F : FX h) {i : Nat} (hi' : i < 250) (v : Int32) : wrI h (some 64) (nI i) v = some (si h 64 i v) := wrI_eq v (F.kd (a := 64) (by decide) (by decide) rfl) (by decide) hi' (by decide)
theorem r65 (F : FX h) {i : Nat} (hi' : i < 250) : rdI h (some 65) 10 (nI i) = some (hi h 65 i) := rdI_eq (F.kd (a := 65) (by decide) (by decide) rfl) hi' (by decide)
theorem n65 (F : FX h) : aln h (some 65) 10 = some (nI 250) := aln_eq (F.kd (a := 65) (by decide) (by decide) rfl)
theorem w65 (F : FX h) {i : Nat} (hi' : i < 250) (v : Int32) : wrI h (some 65) (nI i) v = some (si h 65 i v) := wrI_eq v (F.kd (a := 65) (by decide) (by decide) rfl) (by decide) hi' (by decide)
theorem r66 (F : FX h) {i : Nat} (hi' : i < 250) : rdI h (some 66) 10 (nI i) = some (hi h 66 i) := rdI_eq (F.kd (a := 66) (by decide) (by decide) rfl) hi' (by decide)
theorem n66 (F : FX h) : aln h (some 66) 10 = some (nI 250) := aln_eq (F.kd (a := 66) (by decide) (by decide) rfl)
theorem w66 (F : FX h) {i : Nat} (hi' : i < 250) (v : Int32) : wrI h (some 66) (nI i) v = some (si h 66 i v) := wrI_eq v (F.kd (a := 66) (by decide) (by decide) rfl) (by decide) hi' (by decide)
theorem r67 (F : FX h) {i : Nat} (hi' : i < 250) : rdI h (some 67) 10 (nI i) = some (hi h 67 i) := rdI_eq (F.kd (a := 67) (by decide) (by decide) rfl) hi' (by decide)
theorem n67 (F : FX h) : aln h (some 67) 10 = some (nI 250) := aln_eq (F.kd (a := 67) (by decide) (by decide) rfl)
theorem w67 (F : FX h) {i : Nat} (hi' : i < 250) (v : Int32) : wrI h (some 67) (nI i) v = some (si h 67 i v) := wrI_eq v (F.kd (a := 67) (by decide) (by decide) rfl) (by decide) hi' (by decide)
theorem r68 (F : FX h) {i : Nat} (hi' : i < 250) : rdI h (some 68) 10 (nI i) = some (hi h 68 i) := rdI_eq (F.kd (a := 68) (by decide) (by decide) rfl) hi' (by decide)
theorem n68 (F : FX h) : aln h (some 68) 10 = some (nI 250) := aln_eq (F.kd (a := 68) (by decide) (by decide) rfl)
theorem w68 (F : FX h) {i : Nat} (hi' : i < 250) (v : Int32) : wrI h (some 68) (nI i) v = some (si h 68 i v) := wrI_eq v (F.kd (a := 68) (by decide) (by decide) rfl) (by decide) hi' (by decide)
theorem r69 (F : FX h) {i : Nat} (hi' : i < 250) : rdI h (some 69) 10 (nI i) = some (hi h 69 i) := rdI_eq (F.kd (a := 69) (by decide) (by decide) rfl) hi' (by decide)
theorem n69 (F : FX h) : aln h (some 69) 10 = some (nI 250) := aln_eq (F.kd (a := 69) (by decide) (by decide) rfl)
theorem w69 (F : FX h) {i : Nat} (hi' : i < 250) (v : Int32) : wrI h (some 69) (nI i) v = some (si h 69 i v) := wrI_eq v (F.kd (a := 69) (by decide) (by decide) rfl) (by decide) hi' (by decide)
theorem r70 (F : FX h) {i : Nat} (hi' : i < 250) : rdI h (some 70) 10 (nI i) = some (hi h 70 i) := rdI_eq (F.kd (a := 70) (by decide) (by decide) rfl) hi' (by decide)
theorem n70 (F : FX h) : aln h (some 70) 10 = some (nI 250) := aln_eq (F.kd (a := 70) (by decide) (by decide) rfl)
theorem w70 (F : FX h) {i : Nat} (hi' : i < 250) (v : Int32) : wrI h (some 70) (nI i) v = some (si h 70 i v) := wrI_eq v (F.kd (a := 70) (by decide) (by decide) rfl) (by decide) hi' (by decide)
theorem r71 (F : FX h) {i : Nat} (hi' : i < 10) : rdI h (some 71) 12 (nI i) = some (hi h 71 i) := rdI_eq (F.kd (a := 71) (by decide) (by decide) rfl) hi' (by decide)
theorem n71 (F : FX h) : aln h (some 71) 12 = some (nI 10) := aln_eq (F.kd (a := 71) (by decide) (by decide) rfl)
theorem w71 (F : FX h) {i : Nat} (hi' : i < 10) {v : Int32} (hv : v = 0 ∨ v = 1) : wrZ h (some 71) (nI i) v = some (si h 71 i v) := wrZ_eq (F.kd (a := 71) (by decide) (by decide) rfl) hv hi' (by decide)
theorem r72 (F : FX h) {i : Nat} (hi' : i < 624) : rdI h (some 72) 10 (nI i) = some (hi h 72 i) := rdI_eq (F.kd (a := 72) (by decide) (by decide) rfl) hi' (by decide)
theorem n72 (F : FX h) : aln h (some 72) 10 = some (nI 624) := aln_eq (F.kd (a := 72) (by decide) (by decide) rfl)
theorem w72 (F : FX h) {i : Nat} (hi' : i < 624) (v : Int32) : wrI h (some 72) (nI i) v = some (si h 72 i v) := wrI_eq v (F.kd (a := 72) (by decide) (by decide) rfl) (by decide) hi' (by decide)
theorem r73 (F : FX h) {i : Nat} (hi' : i < 104) : rdI h (some 73) 10 (nI i) = some (hi h 73 i) := rdI_eq (F.kd (a := 73) (by decide) (by decide) rfl) hi' (by decide)
theorem n73 (F : FX h) : aln h (some 73) 10 = some (nI 104) := aln_eq (F.kd (a := 73) (by decide) (by decide) rfl)
theorem w73 (F : FX h) {i : Nat} (hi' : i < 104) (v : Int32) : wrI h (some 73) (nI i) v = some (si h 73 i v) := wrI_eq v (F.kd (a := 73) (by decide) (by decide) rfl) (by decide) hi' (by decide)
theorem r74 (F : FX h) {i : Nat} (hi' : i < 104) : rdI h (some 74) 10 (nI i) = some (hi h 74 i) := rdI_eq (F.kd (a := 74) (by decide) (by decide) rfl) hi' (by decide)
theorem n74 (F : FX h) : aln h (some 74) 10 = some (nI 104) := aln_eq (F.kd (a := 74) (by decide) (by decide) rfl)
theorem w74 (F : FX h) {i : Nat} (hi' : i < 104) (v : Int32) : wrI h (some 74) (nI i) v = some (si h 74 i v) := wrI_eq v (F.kd (a := 74) (by decide) (by decide) rfl) (by decide) hi' (by decide)
theorem r75 (F : FX h) {i : Nat} (hi' : i < 10) : rdI h (some 75) 10 (nI i) = some (hi h 75 i) := rdI_eq (F.kd (a := 75) (by decide) (by decide) rfl) hi' (by decide)
theorem n75 (F : FX h) : aln h (some 75) 10 = some (nI 10) := aln_eq (F.kd (a := 75) (by decide) (by decide) rfl)
theorem w75 (F : FX h) {i : Nat} (hi' : i < 10) (v : Int32) : wrI h (some 75) (nI i) v = some (si h 75 i v) := wrI_eq v (F.kd (a := 75) (by decide) (by decide) rfl) (by decide) hi' (by decide)
theorem r76 (F : FX h) {i : Nat} (hi' : i < 104) : rdI h (some 76) 12 (nI i) = some (hi h 76 i) := rdI_eq (F.kd (a := 76) (by decide) (by decide) rfl) hi' (by decide)
theorem n76 (F : FX h) : aln h (some 76) 12 = some (nI 104) := aln_eq (F.kd (a := 76) (by decide) (by decide) rfl)
theorem w76 (F : FX h) {i : Nat} (hi' : i < 104) {v : Int32} (hv : v = 0 ∨ v = 1) : wrZ h (some 76) (nI i) v = some (si h 76 i v) := wrZ_eq (F.kd (a := 76) (by decide) (by decide) rfl) hv hi' (by decide)
theorem r77 (F : FX h) {i : Nat} (hi' : i < 105) : rdJ h (some 77) 11 (nI i) = some (hj h 77 i) := rdJ_eq (F.kd (a := 77) (by decide) (by decide) rfl) hi' (by decide)
theorem n77 (F : FX h) : aln h (some 77) 11 = some (nI 105) := aln_eq (F.kd (a := 77) (by decide) (by decide) rfl)
theorem w77 (F : FX h) {i : Nat} (hi' : i < 105) (v : Int64) : wrJ h (some 77) (nI i) v = some (sj h 77 i v) := wrJ_eq v (F.kd (a := 77) (by decide) (by decide) rfl) hi' (by decide)
theorem r78 (F : FX h) {i : Nat} (hi' : i < 104) : rdI h (some 78) 10 (nI i) = some (hi h 78 i) := rdI_eq (F.kd (a := 78) (by decide) (by decide) rfl) hi' (by decide)
theorem n78 (F : FX h) : aln h (some 78) 10 = some (nI 104) := aln_eq (F.kd (a := 78) (by decide) (by decide) rfl)
theorem w78 (F : FX h) {i : Nat} (hi' : i < 104) (v : Int32) : wrI h (some 78) (nI i) v = some (si h 78 i v) := wrI_eq v (F.kd (a := 78) (by decide) (by decide) rfl) (by decide) hi' (by decide)
theorem r79 (F : FX h) {i : Nat} (hi' : i < 104) : rdI h (some 79) 10 (nI i) = some (hi h 79 i) := rdI_eq (F.kd (a := 79) (by decide) (by decide) rfl) hi' (by decide)
theorem n79 (F : FX h) : aln h (some 79) 10 = some (nI 104) := aln_eq (F.kd (a := 79) (by decide) (by decide) rfl)
theorem w79 (F : FX h) {i : Nat} (hi' : i < 104) (v : Int32) : wrI h (some 79) (nI i) v = some (si h 79 i v) := wrI_eq v (F.kd (a := 79) (by decide) (by decide) rfl) (by decide) hi' (by decide)
theorem r80 (F : FX h) {i : Nat} (hi' : i < 104) : rdI h (some 80) 12 (nI i) = some (hi h 80 i) := rdI_eq (F.kd (a := 80) (by decide) (by decide) rfl) hi' (by decide)
theorem n80 (F : FX h) : aln h (some 80) 12 = some (nI 104) := aln_eq (F.kd (a := 80) (by decide) (by decide) rfl)
theorem w80 (F : FX h) {i : Nat} (hi' : i < 104) {v : Int32} (hv : v = 0 ∨ v = 1) : wrZ h (some 80) (nI i) v = some (si h 80 i v) := wrZ_eq (F.kd (a := 80) (by decide) (by decide) rfl) hv hi' (by decide)
theorem r81 (F : FX h) {i : Nat} (hi' : i < 250) : rdI h (some 81) 10 (nI i) = some (hi h 81 i) := rdI_eq (F.kd (a := 81) (by decide) (by decide) rfl) hi' (by decide)
theorem n81 (F : FX h) : aln h (some 81) 10 = some (nI 250) := aln_eq (F.kd (a := 81) (by decide) (by decide) rfl)
theorem w81 (F : FX h) {i : Nat} (hi' : i < 250) (v : Int32) : wrI h (some 81) (nI i) v = some (si h 81 i v) := wrI_eq v (F.kd (a := 81) (by decide) (by decide) rfl) (by decide) hi' (by decide)
theorem r82 (F : FX h) {i : Nat} (hi' : i < 250) : rdI h (some 82) 10 (nI i) = some (hi h 82 i) := rdI_eq (F.kd (a := 82) (by decide) (by decide) rfl) hi' (by decide)
theorem n82 (F : FX h) : aln h (some 82) 10 = some (nI 250) := aln_eq (F.kd (a := 82) (by decide) (by decide) rfl)
theorem w82 (F : FX h) {i : Nat} (hi' : i < 250) (v : Int32) : wrI h (some 82) (nI i) v = some (si h 82 i v) := wrI_eq v (F.kd (a := 82) (by decide) (by decide) rfl) (by decide) hi' (by decide)
theorem r83 (F : FX h) {i : Nat} (hi' : i < 250) : rdI h (some 83) 10 (nI i) = some (hi h 83 i) := rdI_eq (F.kd (a := 83) (by decide) (by decide) rfl) hi' (by decide)
theorem n83 (F : FX h) : aln h (some 83) 10 = some (nI 250) := aln_eq (F.kd (a := 83) (by decide) (by decide) rfl)
theorem w83 (F : FX h) {i : Nat} (hi' : i < 250) (v : Int32) : wrI h (some 83) (nI i) v = some (si h 83 i v) := wrI_eq v (F.kd (a := 83) (by decide) (by decide) rfl) (by decide) hi' (by decide)
theorem r84 (F : FX h) {i : Nat} (hi' : i < 250) : rdI h (some 84) 10 (nI i) = some (hi h 84 i) := rdI_eq (F.kd (a := 84) (by decide) (by decide) rfl) hi' (by decide)
theorem n84 (F : FX h) : aln h (some 84) 10 = some (nI 250) := aln_eq (F.kd (a := 84) (by decide) (by decide) rfl)
theorem w84 (F : FX h) {i : Nat} (hi' : i < 250) (v : Int32) : wrI h (some 84) (nI i) v = some (si h 84 i v) := wrI_eq v (F.kd (a := 84) (by decide) (by decide) rfl) (by decide) hi' (by decide)
theorem r85 (F : FX h) {i : Nat} (hi' : i < 250) : rdI h (some 85) 10 (nI i) = some (hi h 85 i) := rdI_eq (F.kd (a := 85) (by decide) (by decide) rfl) hi' (by decide)
theorem n85 (F : FX h) : aln h (some 85) 10 = some (nI 250) := aln_eq (F.kd (a := 85) (by decide) (by decide) rfl)
theorem w85 (F : FX h) {i : Nat} (hi' : i < 250) (v : Int32) : wrI h (some 85) (nI i) v = some (si h 85 i v) := wrI_eq v (F.kd (a := 85) (by decide) (by decide) rfl) (by decide) hi' (by decide)
theorem r86 (F : FX h) {i : Nat} (hi' : i < 10) : rdJ h (some 86) 11 (nI i) = some (hj h 86 i) := rdJ_eq (F.kd (a := 86) (by decide) (by decide) rfl) hi' (by decide)
theorem n86 (F : FX h) : aln h (some 86) 11 = some (nI 10) := aln_eq (F.kd (a := 86) (by decide) (by decide) rfl)
theorem w86 (F : FX h) {i : Nat} (hi' : i < 10) (v : Int64) : wrJ h (some 86) (nI i) v = some (sj h 86 i v) := wrJ_eq v (F.kd (a := 86) (by decide) (by decide) rfl) hi' (by decide)
theorem r87 (F : FX h) {i : Nat} (hi' : i < 10) : rdI h (some 87) 10 (nI i) = some (hi h 87 i) := rdI_eq (F.kd (a := 87) (by decide) (by decide) rfl) hi' (by decide)
theorem n87 (F : FX h) : aln h (some 87) 10 = some (nI 10) := aln_eq (F.kd (a := 87) (by decide) (by decide) rfl)
theorem w87 (F : FX h) {i : Nat} (hi' : i < 10) (v : Int32) : wrI h (some 87) (nI i) v = some (si h 87 i v) := wrI_eq v (F.kd (a := 87) (by decide) (by decide) rfl) (by decide) hi' (by decide)
end Fa
theorem nI_m {a b : Nat} : nI a * nI b = nI (a * b) := pk_mul a b
theorem nI_6 (w i : Nat) : (6 : Int32) * nI w + nI i = nI (6 * w + i) := by rw [show (6 : Int32) = nI 6 from rfl, pk_mul, nI_add]
theorem nI_60 (w : Nat) : (6 : Int32) * nI w = nI (6 * w) := by rw [show (6 : Int32) = nI 6 from rfl, pk_mul]
theorem nI_65 (w : Nat) : (6 : Int32) * nI w + 5 = nI (6 * w + 5) := by rw [show (6 : Int32) = nI 6 from rfl, show (5 : Int32) = nI 5 from rfl, pk_mul, nI_add]
theorem nI_11 (w i : Nat) : (11 : Int32) * nI w + nI i = nI (11 * w + i) := by rw [show (11 : Int32) = nI 11 from rfl, pk_mul, nI_add]
theorem nI_7 (w i : Nat) : (7 : Int32) * nI w + nI i = nI (7 * w + i) := by rw [show (7 : Int32) = nI 7 from rfl, pk_mul, nI_add]
theorem nI_900 (w i : Nat) : (900 : Int32) * nI w + nI i = nI (900 * w + i) := by rw [show (900 : Int32) = nI 900 from rfl, pk_mul, nI_add]
theorem L2 : (2 : Int32) = nI 2 := rfl
theorem L3 : (3 : Int32) = nI 3 := rfl
theorem L4 : (4 : Int32) = nI 4 := rfl
theorem L5 : (5 : Int32) = nI 5 := rfl
theorem L6 : (6 : Int32) = nI 6 := rfl
theorem L7 : (7 : Int32) = nI 7 := rfl
theorem L8 : (8 : Int32) = nI 8 := rfl
theorem L10 : (10 : Int32) = nI 10 := rfl
theorem L11 : (11 : Int32) = nI 11 := rfl
theorem L12 : (12 : Int32) = nI 12 := rfl
theorem L20 : (20 : Int32) = nI 20 := rfl
theorem L32 : (32 : Int32) = nI 32 := rfl
theorem L52 : (52 : Int32) = nI 52 := rfl
theorem L104 : (104 : Int32) = nI 104 := rfl
theorem L105 : (105 : Int32) = nI 105 := rfl
theorem L250 : (250 : Int32) = nI 250 := rfl
theorem L624 : (624 : Int32) = nI 624 := rfl
theorem L900 : (900 : Int32) = nI 900 := rfl
theorem L901 : (901 : Int32) = nI 901 := rfl
