/-! The start: the two constructors. -/
def lki : List (Nat × Nat × Int32) → Nat → Nat → Int32
  | [], _, _ => 0
  | p :: r, a, k => if a = p.1 ∧ k = p.2.1 then p.2.2 else lki r a k
theorem lki_out {n : Nat} : ∀ {V : List (Nat × Nat × Int32)}, (∀ p ∈ V, p.1 < n) → ∀ k, lki V n k = 0
  | [], _, _ => rfl
  | p :: r, h, k => by
    unfold lki
    have := h p (List.mem_cons_self ..)
    rw [if_neg (by omega)]
    exact lki_out (fun q hq' => h q (List.mem_cons_of_mem _ hq')) k
def cq (a0 k kd m : Nat) (h : Hp) : Hp := sq (nw h kd m) a0 k (some h.1.length)
def cs (a0 k kd : Nat) (ini : Hp → Nat → Hp) (h : Hp) : Hp := sq (ini (nw h kd 0) h.1.length) a0 k (some h.1.length)
/-- a heap of the start: n cells, the references Q, the values V -/
def SG (L : Nat) (xs : Nat → Int32) (n : Nat) (Q : List (Nat × Nat × Nat)) (V : List (Nat × Nat × Int32)) (h : Hp) : Prop :=
  h.1 = (kd0 L).take n ∧ n ≤ 88 ∧ (∀ p ∈ Q, p.1 < n ∧ hq h p.1 p.2.1 = some p.2.2) ∧ (∀ a k, 8 ≤ a → a < n → hi h a k = lki V a k) ∧ (∀ p ∈ V, p.1 < n) ∧ ∀ a k, a < 8 → hi h a k = hi (hp0 L xs) a k
section Sg
variable {L : Nat} {xs : Nat → Int32} {n : Nat} {Q Q' : List (Nat × Nat × Nat)} {V V' : List (Nat × Nat × Int32)} {h : Hp}
theorem SG.len (s : SG L xs n Q V h) : h.1.length = n := by
  rw [s.1, List.length_take, kd0_len]
  have := s.2.1
  omega
theorem SG.nw {kd m : Nat} (s : SG L xs n Q V h) (h8 : 8 ≤ n) (e : (kd0 L)[n]? = some (kd, m)) : SG L xs (n + 1) Q V (nw h kd m) := by
  have l := s.len
  obtain ⟨s1, s2, s3, s4, s5, s6⟩ := s
  have lt : n < 88 := (List.getElem?_eq_some_iff.mp e).1
  refine ⟨?_, by omega, fun p hp => ⟨by have := (s3 p hp).1; omega, ?_⟩, fun a k h1 h2 => ?_, fun p hp => by have := s5 p hp; omega, fun a k ha => ?_⟩
  · rw [ln_nw, s1, List.take_add_one, e]
    rfl
  · rw [hq_nw, if_neg (by have := (s3 p hp).1; omega)]
    exact (s3 p hp).2
  · rw [hi_nw]
    by_cases q : a = h.1.length
    · rw [if_pos q, q, l, lki_out s5]
    · rw [if_neg q]
      exact s4 a k h1 (by omega)
  · rw [hi_nw, if_neg (by omega)]
    exact s6 a k ha
theorem SG.sq {a k b : Nat} (s : SG L xs n Q V h) (ha : a < n) (hQ : Q.all (fun p => !(p.1 == a && p.2.1 == k)) = true) : SG L xs n ((a, k, b) :: Q) V (sq h a k (some b)) := by
  obtain ⟨s1, s2, s3, s4, s5, s6⟩ := s
  refine ⟨s1, s2, fun p hp => ?_, s4, s5, s6⟩
  rcases List.mem_cons.mp hp with rfl | hp
  · exact ⟨ha, hq_hit _ _ _⟩
  · refine ⟨(s3 p hp).1, ?_⟩
    have := List.all_eq_true.mp hQ p hp
    simp at this
    rw [hq_put, if_neg (fun z => this.elim (fun q => q z.1) (fun q => q z.2))]
    exact (s3 p hp).2
theorem SG.si {a k : Nat} {v : Int32} (s : SG L xs n Q V h) (h8 : 8 ≤ a) (ha : a < n) : SG L xs n Q ((a, k, v) :: V) (si h a k v) := by
  obtain ⟨s1, s2, s3, s4, s5, s6⟩ := s
  refine ⟨s1, s2, s3, fun b j h1 h2 => ?_, fun p hp => ?_, fun b j hb => ?_⟩
  · rw [hi_put]
    unfold lki
    by_cases q : b = a ∧ j = k
    · rw [if_pos q, if_pos q]
    · rw [if_neg q, if_neg q]
      exact s4 b j h1 h2
  · rcases List.mem_cons.mp hp with rfl | hp
    · exact ha
    · exact s5 p hp
  · rw [hi_row _ _ _ (by omega)]
    exact s6 b j hb
theorem SG.cqs {a k kd m : Nat} (s : SG L xs n Q V h) (e : (kd0 L)[n]? = some (kd, m)) (h8 : 8 ≤ n) (ha : a < n) (hQ : Q.all (fun p => !(p.1 == a && p.2.1 == k)) = true) : SG L xs (n + 1) ((a, k, n) :: Q) V (cq a k kd m h) := by
  unfold cq
  rw [s.len]
  exact (s.nw h8 e).sq (by omega) hQ
theorem SG.css {a k kd n' : Nat} {ini : Hp → Nat → Hp} (s : SG L xs n Q V h) (e : (kd0 L)[n]? = some (kd, 0)) (h8 : 8 ≤ n) (ha : a < n') (st : ∀ g, SG L xs (n + 1) Q V g → SG L xs n' Q' V' (ini g n)) (hQ : Q'.all (fun p => !(p.1 == a && p.2.1 == k)) = true) : SG L xs n' ((a, k, n) :: Q') V' (cs a k kd ini h) := by
  unfold cs
  rw [s.len]
  exact (st _ (s.nw h8 e)).sq ha hQ

theorem x2_eq (h : Hp) (a0 : Nat) : hX2_init h a0 = (si (si (cq a0 8 10 900 (cq a0 4 10 901 (cq a0 3 10 901 (cq a0 0 9 900 h)))) a0 12 0) a0 13 (-1)) := rfl
theorem x6_eq (h : Hp) (a0 : Nat) : hX6_init h a0 = (cq a0 11 10 20 (cq a0 10 10 20 (cq a0 9 10 20 (cq a0 6 10 20 (cq a0 5 10 20 (cq a0 4 10 105 (cq a0 2 10 10 (cq a0 1 10 10 (cq a0 0 10 10 h))))))))) := rfl
theorem x4_eq (h : Hp) (a0 : Nat) : hX4_init h a0 = (cq a0 11 14 250 (cq a0 8 10 80 (cq a0 7 10 104 (cq a0 6 10 104 (cq a0 5 10 104 (cq a0 4 10 624 (cs a0 0 0 hX0_init h))))))) := rfl
set_option maxRecDepth 20000 in
theorem x9_eq (h : Hp) (a0 : Nat) : hX9_init h a0 = (cq a0 68 10 10 (cq a0 67 11 10 (cq a0 65 10 250 (cq a0 62 10 250 (cq a0 61 10 250 (cq a0 60 10 250 (cq a0 59 10 250 (cq a0 54 12 104 (cq a0 53 10 104 (cq a0 52 10 104 (cq a0 48 11 105 (cq a0 47 12 104 (cq a0 46 10 10 (cq a0 45 10 104 (cq a0 44 10 104 (cq a0 43 10 624 (cq a0 39 12 10 (cq a0 38 10 250 (cq a0 37 10 250 (cq a0 36 10 250 (cq a0 35 10 250 (cq a0 34 10 250 (cq a0 33 10 250 (cq a0 32 10 250 (cq a0 31 10 10 (cq a0 30 10 10 (cq a0 24 12 5 (cq a0 23 12 35 (cq a0 22 10 120 (cq a0 21 10 80 (cq a0 20 10 80 (cq a0 19 10 4500 (cq a0 18 10 4500 (cq a0 17 10 55 (cq a0 16 10 55 (cq a0 15 10 55 (cq a0 14 10 55 (cq a0 13 10 5 (cq a0 12 10 5 (cq a0 11 10 35 (si (cq a0 1 9 900 (cq a0 0 9 920 h)) a0 5 (-1)))))))))))))))))))))))))))))))))))))))))) := rfl
def x8b (h : Hp) (a0 : Nat) : Hp := (cq a0 11 11 32 (cq a0 10 10 10 (cq a0 9 11 10 (cs a0 8 4 hX4_init (cs a0 7 5 hX6_init (cq a0 4 14 250 (cq a0 2 16 10 (cq a0 1 13 4 (cs a0 0 2 hX2_init h)))))))))
theorem x8_eq (h : Hp) (a0 : Nat) : hX8a h a0 = hX0_init (nw (x8b h a0) 0 0) (x8b h a0).1.length := rfl
theorem x8_ad (h : Hp) (a0 : Nat) : aX8a h a0 = (x8b h a0).1.length := rfl
set_option maxRecDepth 20000 in
theorem sg_x2 {h : Hp} (s : SG L xs 10 [] [] h) : SG L xs 14 [(9, 8, 13), (9, 4, 12), (9, 3, 11), (9, 0, 10)] [(9, 13, (-1)), (9, 12, 0)] (hX2_init h 9) := by
  rw [x2_eq]
  exact ((((((s.cqs rfl (by decide) (by decide) (by decide)).cqs rfl (by decide) (by decide) (by decide)).cqs rfl (by decide) (by decide) (by decide)).cqs rfl (by decide) (by decide) (by decide)).si (by decide) (by decide)).si (by decide) (by decide))
set_option maxRecDepth 20000 in
theorem sg_x6 {h : Hp} (s : SG L xs 18 [(8, 4, 16), (8, 2, 15), (8, 1, 14), (8, 0, 9), (9, 8, 13), (9, 4, 12), (9, 3, 11), (9, 0, 10)] [(9, 13, (-1)), (9, 12, 0)] h) : SG L xs 27 [(17, 11, 26), (17, 10, 25), (17, 9, 24), (17, 6, 23), (17, 5, 22), (17, 4, 21), (17, 2, 20), (17, 1, 19), (17, 0, 18), (8, 4, 16), (8, 2, 15), (8, 1, 14), (8, 0, 9), (9, 8, 13), (9, 4, 12), (9, 3, 11), (9, 0, 10)] [(9, 13, (-1)), (9, 12, 0)] (hX6_init h 17) := by
  rw [x6_eq]
  exact (((((((((s.cqs rfl (by decide) (by decide) (by decide)).cqs rfl (by decide) (by decide) (by decide)).cqs rfl (by decide) (by decide) (by decide)).cqs rfl (by decide) (by decide) (by decide)).cqs rfl (by decide) (by decide) (by decide)).cqs rfl (by decide) (by decide) (by decide)).cqs rfl (by decide) (by decide) (by decide)).cqs rfl (by decide) (by decide) (by decide)).cqs rfl (by decide) (by decide) (by decide))
theorem sg_x0a {h : Hp} (s : SG L xs 28 [(8, 7, 17), (17, 11, 26), (17, 10, 25), (17, 9, 24), (17, 6, 23), (17, 5, 22), (17, 4, 21), (17, 2, 20), (17, 1, 19), (17, 0, 18), (8, 4, 16), (8, 2, 15), (8, 1, 14), (8, 0, 9), (9, 8, 13), (9, 4, 12), (9, 3, 11), (9, 0, 10)] [(9, 13, (-1)), (9, 12, 0)] h) : SG L xs 32 [(28, 4, 31), (28, 2, 30), (28, 0, 29), (8, 7, 17), (17, 11, 26), (17, 10, 25), (17, 9, 24), (17, 6, 23), (17, 5, 22), (17, 4, 21), (17, 2, 20), (17, 1, 19), (17, 0, 18), (8, 4, 16), (8, 2, 15), (8, 1, 14), (8, 0, 9), (9, 8, 13), (9, 4, 12), (9, 3, 11), (9, 0, 10)] [(31, 6, 0), (31, 5, 9999), (31, 4, 90), (31, 3, 90), (31, 2, 5), (31, 1, 104), (31, 0, 12), (9, 13, (-1)), (9, 12, 0)] (hX0_init (nw h 0 0) 28) := by
  rw [x0_eq h s.len.symm]
  exact ((((((((((((((s.nw (by decide) (kd := 0) (m := 0) rfl).nw (by decide) (kd := 15) (m := 10) rfl).sq (a := 28) (k := 0) (b := 29) (by decide) (by decide)).nw (by decide) (kd := 10) (m := 0) rfl).sq (a := 28) (k := 2) (b := 30) (by decide) (by decide)).nw (by decide) (kd := 10) (m := 7) rfl).si (a := 31) (k := 0) (v := 12) (by decide) (by decide)).si (a := 31) (k := 1) (v := 104) (by decide) (by decide)).si (a := 31) (k := 2) (v := 5) (by decide) (by decide)).si (a := 31) (k := 3) (v := 90) (by decide) (by decide)).si (a := 31) (k := 4) (v := 90) (by decide) (by decide)).si (a := 31) (k := 5) (v := 9999) (by decide) (by decide)).si (a := 31) (k := 6) (v := 0) (by decide) (by decide)).sq (a := 28) (k := 4) (b := 31) (by decide) (by decide))
theorem sg_c0 {h : Hp} (s : SG L xs 28 [(8, 7, 17), (17, 11, 26), (17, 10, 25), (17, 9, 24), (17, 6, 23), (17, 5, 22), (17, 4, 21), (17, 2, 20), (17, 1, 19), (17, 0, 18), (8, 4, 16), (8, 2, 15), (8, 1, 14), (8, 0, 9), (9, 8, 13), (9, 4, 12), (9, 3, 11), (9, 0, 10)] [(9, 13, (-1)), (9, 12, 0)] h) : SG L xs 32 [(27, 0, 28), (28, 4, 31), (28, 2, 30), (28, 0, 29), (8, 7, 17), (17, 11, 26), (17, 10, 25), (17, 9, 24), (17, 6, 23), (17, 5, 22), (17, 4, 21), (17, 2, 20), (17, 1, 19), (17, 0, 18), (8, 4, 16), (8, 2, 15), (8, 1, 14), (8, 0, 9), (9, 8, 13), (9, 4, 12), (9, 3, 11), (9, 0, 10)] [(31, 6, 0), (31, 5, 9999), (31, 4, 90), (31, 3, 90), (31, 2, 5), (31, 1, 104), (31, 0, 12), (9, 13, (-1)), (9, 12, 0)] (cs 27 0 0 hX0_init h) := by
  unfold cs
  rw [s.len]
  exact (sg_x0a s).sq (by decide) (by decide)
set_option maxRecDepth 20000 in
theorem sg_x4 {h : Hp} (s : SG L xs 28 [(8, 7, 17), (17, 11, 26), (17, 10, 25), (17, 9, 24), (17, 6, 23), (17, 5, 22), (17, 4, 21), (17, 2, 20), (17, 1, 19), (17, 0, 18), (8, 4, 16), (8, 2, 15), (8, 1, 14), (8, 0, 9), (9, 8, 13), (9, 4, 12), (9, 3, 11), (9, 0, 10)] [(9, 13, (-1)), (9, 12, 0)] h) : SG L xs 38 [(27, 11, 37), (27, 8, 36), (27, 7, 35), (27, 6, 34), (27, 5, 33), (27, 4, 32), (27, 0, 28), (28, 4, 31), (28, 2, 30), (28, 0, 29), (8, 7, 17), (17, 11, 26), (17, 10, 25), (17, 9, 24), (17, 6, 23), (17, 5, 22), (17, 4, 21), (17, 2, 20), (17, 1, 19), (17, 0, 18), (8, 4, 16), (8, 2, 15), (8, 1, 14), (8, 0, 9), (9, 8, 13), (9, 4, 12), (9, 3, 11), (9, 0, 10)] [(31, 6, 0), (31, 5, 9999), (31, 4, 90), (31, 3, 90), (31, 2, 5), (31, 1, 104), (31, 0, 12), (9, 13, (-1)), (9, 12, 0)] (hX4_init h 27) := by
  rw [x4_eq]
  exact (((((((sg_c0 s).cqs rfl (by decide) (by decide) (by decide)).cqs rfl (by decide) (by decide) (by decide)).cqs rfl (by decide) (by decide) (by decide)).cqs rfl (by decide) (by decide) (by decide)).cqs rfl (by decide) (by decide) (by decide)).cqs rfl (by decide) (by decide) (by decide))
set_option maxRecDepth 20000 in
theorem sg_x8b {h : Hp} (s : SG L xs 9 [] [] h) : SG L xs 41 [(8, 11, 40), (8, 10, 39), (8, 9, 38), (8, 8, 27), (27, 11, 37), (27, 8, 36), (27, 7, 35), (27, 6, 34), (27, 5, 33), (27, 4, 32), (27, 0, 28), (28, 4, 31), (28, 2, 30), (28, 0, 29), (8, 7, 17), (17, 11, 26), (17, 10, 25), (17, 9, 24), (17, 6, 23), (17, 5, 22), (17, 4, 21), (17, 2, 20), (17, 1, 19), (17, 0, 18), (8, 4, 16), (8, 2, 15), (8, 1, 14), (8, 0, 9), (9, 8, 13), (9, 4, 12), (9, 3, 11), (9, 0, 10)] [(31, 6, 0), (31, 5, 9999), (31, 4, 90), (31, 3, 90), (31, 2, 5), (31, 1, 104), (31, 0, 12), (9, 13, (-1)), (9, 12, 0)] (x8b h 8) := by
  unfold x8b
  exact (((((((((s.css (n' := 14) rfl (by decide) (by decide) (fun g z => sg_x2 z) (by decide)).cqs rfl (by decide) (by decide) (by decide)).cqs rfl (by decide) (by decide) (by decide)).cqs rfl (by decide) (by decide) (by decide)).css (n' := 27) rfl (by decide) (by decide) (fun g z => sg_x6 z) (by decide)).css (n' := 38) rfl (by decide) (by decide) (fun g z => sg_x4 z) (by decide)).cqs rfl (by decide) (by decide) (by decide)).cqs rfl (by decide) (by decide) (by decide)).cqs rfl (by decide) (by decide) (by decide))
theorem sg_x0b {h : Hp} (s : SG L xs 41 [(8, 11, 40), (8, 10, 39), (8, 9, 38), (8, 8, 27), (27, 11, 37), (27, 8, 36), (27, 7, 35), (27, 6, 34), (27, 5, 33), (27, 4, 32), (27, 0, 28), (28, 4, 31), (28, 2, 30), (28, 0, 29), (8, 7, 17), (17, 11, 26), (17, 10, 25), (17, 9, 24), (17, 6, 23), (17, 5, 22), (17, 4, 21), (17, 2, 20), (17, 1, 19), (17, 0, 18), (8, 4, 16), (8, 2, 15), (8, 1, 14), (8, 0, 9), (9, 8, 13), (9, 4, 12), (9, 3, 11), (9, 0, 10)] [(31, 6, 0), (31, 5, 9999), (31, 4, 90), (31, 3, 90), (31, 2, 5), (31, 1, 104), (31, 0, 12), (9, 13, (-1)), (9, 12, 0)] h) : SG L xs 45 [(41, 4, 44), (41, 2, 43), (41, 0, 42), (8, 11, 40), (8, 10, 39), (8, 9, 38), (8, 8, 27), (27, 11, 37), (27, 8, 36), (27, 7, 35), (27, 6, 34), (27, 5, 33), (27, 4, 32), (27, 0, 28), (28, 4, 31), (28, 2, 30), (28, 0, 29), (8, 7, 17), (17, 11, 26), (17, 10, 25), (17, 9, 24), (17, 6, 23), (17, 5, 22), (17, 4, 21), (17, 2, 20), (17, 1, 19), (17, 0, 18), (8, 4, 16), (8, 2, 15), (8, 1, 14), (8, 0, 9), (9, 8, 13), (9, 4, 12), (9, 3, 11), (9, 0, 10)] [(44, 6, 0), (44, 5, 9999), (44, 4, 90), (44, 3, 90), (44, 2, 5), (44, 1, 104), (44, 0, 12), (31, 6, 0), (31, 5, 9999), (31, 4, 90), (31, 3, 90), (31, 2, 5), (31, 1, 104), (31, 0, 12), (9, 13, (-1)), (9, 12, 0)] (hX0_init (nw h 0 0) 41) := by
  rw [x0_eq h s.len.symm]
  exact ((((((((((((((s.nw (by decide) (kd := 0) (m := 0) rfl).nw (by decide) (kd := 15) (m := 10) rfl).sq (a := 41) (k := 0) (b := 42) (by decide) (by decide)).nw (by decide) (kd := 10) (m := 0) rfl).sq (a := 41) (k := 2) (b := 43) (by decide) (by decide)).nw (by decide) (kd := 10) (m := 7) rfl).si (a := 44) (k := 0) (v := 12) (by decide) (by decide)).si (a := 44) (k := 1) (v := 104) (by decide) (by decide)).si (a := 44) (k := 2) (v := 5) (by decide) (by decide)).si (a := 44) (k := 3) (v := 90) (by decide) (by decide)).si (a := 44) (k := 4) (v := 90) (by decide) (by decide)).si (a := 44) (k := 5) (v := 9999) (by decide) (by decide)).si (a := 44) (k := 6) (v := 0) (by decide) (by decide)).sq (a := 41) (k := 4) (b := 44) (by decide) (by decide))
theorem sg_x8 {h : Hp} (s : SG L xs 9 [] [] h) : SG L xs 45 [(41, 4, 44), (41, 2, 43), (41, 0, 42), (8, 11, 40), (8, 10, 39), (8, 9, 38), (8, 8, 27), (27, 11, 37), (27, 8, 36), (27, 7, 35), (27, 6, 34), (27, 5, 33), (27, 4, 32), (27, 0, 28), (28, 4, 31), (28, 2, 30), (28, 0, 29), (8, 7, 17), (17, 11, 26), (17, 10, 25), (17, 9, 24), (17, 6, 23), (17, 5, 22), (17, 4, 21), (17, 2, 20), (17, 1, 19), (17, 0, 18), (8, 4, 16), (8, 2, 15), (8, 1, 14), (8, 0, 9), (9, 8, 13), (9, 4, 12), (9, 3, 11), (9, 0, 10)] [(44, 6, 0), (44, 5, 9999), (44, 4, 90), (44, 3, 90), (44, 2, 5), (44, 1, 104), (44, 0, 12), (31, 6, 0), (31, 5, 9999), (31, 4, 90), (31, 3, 90), (31, 2, 5), (31, 1, 104), (31, 0, 12), (9, 13, (-1)), (9, 12, 0)] (hX8a h 8) ∧ aX8a h 8 = 41 := by
  have t := sg_x8b s
  rw [x8_eq, x8_ad, t.len]
  exact ⟨sg_x0b t, rfl⟩
def qF : List (Nat × Nat × Nat) := [(14, 3, 41), (14, 2, 41), (14, 1, 41), (14, 0, 41), (41, 4, 44), (41, 2, 43), (41, 0, 42), (8, 11, 40), (8, 10, 39), (8, 9, 38), (8, 8, 27), (27, 11, 37), (27, 8, 36), (27, 7, 35), (27, 6, 34), (27, 5, 33), (27, 4, 32), (27, 0, 28), (28, 4, 31), (28, 2, 30), (28, 0, 29), (8, 7, 17), (17, 11, 26), (17, 10, 25), (17, 9, 24), (17, 6, 23), (17, 5, 22), (17, 4, 21), (17, 2, 20), (17, 1, 19), (17, 0, 18), (8, 4, 16), (8, 2, 15), (8, 1, 14), (8, 0, 9), (9, 8, 13), (9, 4, 12), (9, 3, 11), (9, 0, 10)]
def vFx : List (Nat × Nat × Int32) := [(44, 6, 0), (44, 5, 9999), (44, 4, 90), (44, 3, 90), (44, 2, 5), (44, 1, 104), (44, 0, 12), (31, 6, 0), (31, 5, 9999), (31, 4, 90), (31, 3, 90), (31, 2, 5), (31, 1, 104), (31, 0, 12), (9, 13, (-1)), (9, 12, 0)]
def qG : List (Nat × Nat × Nat) := [(45, 68, 87), (45, 67, 86), (45, 65, 85), (45, 62, 84), (45, 61, 83), (45, 60, 82), (45, 59, 81), (45, 54, 80), (45, 53, 79), (45, 52, 78), (45, 48, 77), (45, 47, 76), (45, 46, 75), (45, 45, 74), (45, 44, 73), (45, 43, 72), (45, 39, 71), (45, 38, 70), (45, 37, 69), (45, 36, 68), (45, 35, 67), (45, 34, 66), (45, 33, 65), (45, 32, 64), (45, 31, 63), (45, 30, 62), (45, 24, 61), (45, 23, 60), (45, 22, 59), (45, 21, 58), (45, 20, 57), (45, 19, 56), (45, 18, 55), (45, 17, 54), (45, 16, 53), (45, 15, 52), (45, 14, 51), (45, 13, 50), (45, 12, 49), (45, 11, 48), (45, 1, 47), (45, 0, 46), (14, 3, 41), (14, 2, 41), (14, 1, 41), (14, 0, 41), (41, 4, 44), (41, 2, 43), (41, 0, 42), (8, 11, 40), (8, 10, 39), (8, 9, 38), (8, 8, 27), (27, 11, 37), (27, 8, 36), (27, 7, 35), (27, 6, 34), (27, 5, 33), (27, 4, 32), (27, 0, 28), (28, 4, 31), (28, 2, 30), (28, 0, 29), (8, 7, 17), (17, 11, 26), (17, 10, 25), (17, 9, 24), (17, 6, 23), (17, 5, 22), (17, 4, 21), (17, 2, 20), (17, 1, 19), (17, 0, 18), (8, 4, 16), (8, 2, 15), (8, 1, 14), (8, 0, 9), (9, 8, 13), (9, 4, 12), (9, 3, 11), (9, 0, 10)]
def vG : List (Nat × Nat × Int32) := [(45, 5, (-1)), (44, 6, 0), (44, 5, 9999), (44, 4, 90), (44, 3, 90), (44, 2, 5), (44, 1, 104), (44, 0, 12), (31, 6, 0), (31, 5, 9999), (31, 4, 90), (31, 3, 90), (31, 2, 5), (31, 1, 104), (31, 0, 12), (9, 13, (-1)), (9, 12, 0)]
set_option maxRecDepth 20000 in
set_option maxHeartbeats 4000000 in
theorem sg_x9 {h : Hp} (s : SG L xs 46 [(14, 3, 41), (14, 2, 41), (14, 1, 41), (14, 0, 41), (41, 4, 44), (41, 2, 43), (41, 0, 42), (8, 11, 40), (8, 10, 39), (8, 9, 38), (8, 8, 27), (27, 11, 37), (27, 8, 36), (27, 7, 35), (27, 6, 34), (27, 5, 33), (27, 4, 32), (27, 0, 28), (28, 4, 31), (28, 2, 30), (28, 0, 29), (8, 7, 17), (17, 11, 26), (17, 10, 25), (17, 9, 24), (17, 6, 23), (17, 5, 22), (17, 4, 21), (17, 2, 20), (17, 1, 19), (17, 0, 18), (8, 4, 16), (8, 2, 15), (8, 1, 14), (8, 0, 9), (9, 8, 13), (9, 4, 12), (9, 3, 11), (9, 0, 10)] [(44, 6, 0), (44, 5, 9999), (44, 4, 90), (44, 3, 90), (44, 2, 5), (44, 1, 104), (44, 0, 12), (31, 6, 0), (31, 5, 9999), (31, 4, 90), (31, 3, 90), (31, 2, 5), (31, 1, 104), (31, 0, 12), (9, 13, (-1)), (9, 12, 0)] h) : SG L xs 88 [(45, 68, 87), (45, 67, 86), (45, 65, 85), (45, 62, 84), (45, 61, 83), (45, 60, 82), (45, 59, 81), (45, 54, 80), (45, 53, 79), (45, 52, 78), (45, 48, 77), (45, 47, 76), (45, 46, 75), (45, 45, 74), (45, 44, 73), (45, 43, 72), (45, 39, 71), (45, 38, 70), (45, 37, 69), (45, 36, 68), (45, 35, 67), (45, 34, 66), (45, 33, 65), (45, 32, 64), (45, 31, 63), (45, 30, 62), (45, 24, 61), (45, 23, 60), (45, 22, 59), (45, 21, 58), (45, 20, 57), (45, 19, 56), (45, 18, 55), (45, 17, 54), (45, 16, 53), (45, 15, 52), (45, 14, 51), (45, 13, 50), (45, 12, 49), (45, 11, 48), (45, 1, 47), (45, 0, 46), (14, 3, 41), (14, 2, 41), (14, 1, 41), (14, 0, 41), (41, 4, 44), (41, 2, 43), (41, 0, 42), (8, 11, 40), (8, 10, 39), (8, 9, 38), (8, 8, 27), (27, 11, 37), (27, 8, 36), (27, 7, 35), (27, 6, 34), (27, 5, 33), (27, 4, 32), (27, 0, 28), (28, 4, 31), (28, 2, 30), (28, 0, 29), (8, 7, 17), (17, 11, 26), (17, 10, 25), (17, 9, 24), (17, 6, 23), (17, 5, 22), (17, 4, 21), (17, 2, 20), (17, 1, 19), (17, 0, 18), (8, 4, 16), (8, 2, 15), (8, 1, 14), (8, 0, 9), (9, 8, 13), (9, 4, 12), (9, 3, 11), (9, 0, 10)] [(45, 5, (-1)), (44, 6, 0), (44, 5, 9999), (44, 4, 90), (44, 3, 90), (44, 2, 5), (44, 1, 104), (44, 0, 12), (31, 6, 0), (31, 5, 9999), (31, 4, 90), (31, 3, 90), (31, 2, 5), (31, 1, 104), (31, 0, 12), (9, 13, (-1)), (9, 12, 0)] (hX9_init h 45) := by
  rw [x9_eq]
  exact (((((((((((((((((((((((((((((((((((((((((((s.cqs rfl (by decide) (by decide) (by decide)).cqs rfl (by decide) (by decide) (by decide)).si (by decide) (by decide)).cqs rfl (by decide) (by decide) (by decide)).cqs rfl (by decide) (by decide) (by decide)).cqs rfl (by decide) (by decide) (by decide)).cqs rfl (by decide) (by decide) (by decide)).cqs rfl (by decide) (by decide) (by decide)).cqs rfl (by decide) (by decide) (by decide)).cqs rfl (by decide) (by decide) (by decide)).cqs rfl (by decide) (by decide) (by decide)).cqs rfl (by decide) (by decide) (by decide)).cqs rfl (by decide) (by decide) (by decide)).cqs rfl (by decide) (by decide) (by decide)).cqs rfl (by decide) (by decide) (by decide)).cqs rfl (by decide) (by decide) (by decide)).cqs rfl (by decide) (by decide) (by decide)).cqs rfl (by decide) (by decide) (by decide)).cqs rfl (by decide) (by decide) (by decide)).cqs rfl (by decide) (by decide) (by decide)).cqs rfl (by decide) (by decide) (by decide)).cqs rfl (by decide) (by decide) (by decide)).cqs rfl (by decide) (by decide) (by decide)).cqs rfl (by decide) (by decide) (by decide)).cqs rfl (by decide) (by decide) (by decide)).cqs rfl (by decide) (by decide) (by decide)).cqs rfl (by decide) (by decide) (by decide)).cqs rfl (by decide) (by decide) (by decide)).cqs rfl (by decide) (by decide) (by decide)).cqs rfl (by decide) (by decide) (by decide)).cqs rfl (by decide) (by decide) (by decide)).cqs rfl (by decide) (by decide) (by decide)).cqs rfl (by decide) (by decide) (by decide)).cqs rfl (by decide) (by decide) (by decide)).cqs rfl (by decide) (by decide) (by decide)).cqs rfl (by decide) (by decide) (by decide)).cqs rfl (by decide) (by decide) (by decide)).cqs rfl (by decide) (by decide) (by decide)).cqs rfl (by decide) (by decide) (by decide)).cqs rfl (by decide) (by decide) (by decide)).cqs rfl (by decide) (by decide) (by decide)).cqs rfl (by decide) (by decide) (by decide)).cqs rfl (by decide) (by decide) (by decide))
end Sg
