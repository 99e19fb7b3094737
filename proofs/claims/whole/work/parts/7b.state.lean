/-! The state of both objects; what queries leave as it was; a sheet opened. -/
def PW (nw : Nat) (wa : Nat → Nat) (x : Nat) : Prop := OKA x ∧ ∀ w, w < nw → x < wa w ∨ wa w + 4 < x
theorem PW_oka {nw : Nat} {wa : Nat → Nat} : ∀ x, PW nw wa x → OKA x := fun _ q => q.1
def HQ : Nat → Nat → Prop := fun a k => a = 37 ∨ (a = 27 ∧ k < 2)
theorem HQ_fx : ∀ p ∈ rfT, ¬ HQ p.1 p.2.1 := by
  unfold HQ
  decide
theorem H37_HQ : ∀ a k, H37 a k → HQ a k := fun _ _ q => Or.inl q
def RQ (nw nf : Nat) (wa fa : Nat → Nat) : Nat → Nat → Prop := fun a k => (17 ≤ a ∧ a ≤ 27) ∨ (32 ≤ a ∧ a ≤ 37) ∨ (a = 8 ∧ k = 12) ∨ (∃ w, w < nw ∧ ((a = wa w ∧ (k = 5 ∨ k = 6 ∨ k = 11)) ∨ (wa w < a ∧ a ≤ wa w + 4))) ∨ ∃ f, f < nf ∧ a = fa f ∧ 9 ≤ k
theorem RS_RQ {nw nf : Nat} {wa fa : Nat → Nat} : ∀ a k, RS nf fa a k → RQ nw nf wa fa a k := fun a k q => by
  rcases q with q | q | q
  · exact Or.inr (Or.inl (by omega))
  · exact Or.inl (by omega)
  · exact Or.inr (Or.inr (Or.inr (Or.inr q)))
/-- a worker's last fact -/
def lx (F : Nat → Nat → Int32) (wk : Int32) : Nat → Option Nat
  | 0 => none
  | n + 1 => if F 1 n = wk then some n else lx F wk n
def WKR (h : Hp) (F : Nat → Nat → Int32) (nf : Nat) (wa fa : Nat → Nat) (pls tms : Nat → Int32) (w : Nat) : Prop :=
  hq h 15 w = some (wa w) ∧ WX h (wa w) ∧ hi h (wa w) 0 = pls w ∧ hi h (wa w) 1 = tms w ∧ hi h (wa w) 4 = nI (BCn F (nI w) nf) ∧ hq h (wa w) 2 = (nx F (nI w) nf 0).map fa ∧ hq h (wa w) 3 = (lx F (nI w) nf).map fa
def CCH (h : Hp) (F : Nat → Nat → Int32) (nw nf : Nat) (wa : Nat → Nat) : Prop := ∀ w, w < nw → hi h (wa w) 5 = 0 ∨ hi h (wa w) 5 = 1 ∧ CW h (wa w) F (nI w) (hi h (wa w) 6) nf
/-- the class's object -/
def STC (h : Hp) (nw nf : Nat) (F : Nat → Nat → Int32) (A : Nat → Ac) (pls tms : Nat → Int32) (tme : Nat) (wa fa : Nat → Nat) : Prop :=
  hi h 8 3 = nI nw ∧ hi h 8 5 = nI nf ∧ hi h 8 6 = nI tme ∧ (∀ w, w < nw → WKR h F nf wa fa pls tms w) ∧ CFx h F nf fa ∧ (∀ f, f < nf → hq h 16 f = some (fa f)) ∧ (∀ s, s < 4 → ∃ b, hq h 14 s = some b ∧ CA (PW nw wa) h b (A s)) ∧ ∀ w w', w < w' → w' < nw → wa w + 4 < wa w'
/-- the model's object -/
def STM (h : Hp) (nw nf : Nat) (F : Nat → Nat → Int32) (A : Nat → Ac) (pls tms : Nat → Int32) (tme : Nat) : Prop :=
  hi h 45 40 = nI nw ∧ nw ≤ 10 ∧ hi h 45 41 = nI nf ∧ nf ≤ 250 ∧ vF h = F ∧ RG F nw nf ∧ (∀ s, s < 4 → MA h s (A s) ∧ AOK (A s)) ∧ hi h 62 = pls ∧ hi h 71 = tms ∧ (∀ w, w < nw → tms w = 0 ∨ tms w = 1) ∧ (∀ w, w < nw → hi h 63 w = nI (BCn F (nI w) nf)) ∧ hi h 45 42 = nI tme ∧ tme ≤ 100000
theorem CD.same {g g' : Hp} {s l : Nat} {C : List Nat} (D : CD g s l C) (E : ∀ a k, 45 ≤ a → a < 88 → hi g' a k = hi g a k) : CD g' s l C := by
  obtain ⟨f, D1, D2, D3, D4⟩ := D
  refine ⟨f, by rw [E _ _ (by decide) (by decide)]; exact D1, by rw [E _ _ (by decide) (by decide)]; exact D2, D3, fun j hj => ?_⟩
  rw [E _ _ (by decide) (by decide), E _ _ (by decide) (by decide)]
  exact D4 j hj
theorem MA.same {g g' : Hp} {s : Nat} {A : Ac} (M : MA g s A) (E : ∀ a k, 45 ≤ a → a < 88 → hi g' a k = hi g a k) : MA g' s A := by
  obtain ⟨M1, M2, ⟨M3, M4⟩, M5⟩ := M
  refine ⟨fun n hn => by rw [E _ _ (by decide) (by decide)]; exact M1 n hn, by rw [E _ _ (by decide) (by decide)]; exact M2, ⟨by rw [E _ _ (by decide) (by decide)]; exact M3, fun l hl => ?_⟩, ?_⟩
  · rw [E _ _ (by decide) (by decide), E _ _ (by decide) (by decide)]
    exact ⟨(M4 l hl).1, (M4 l hl).2.1, (M4 l hl).2.2.same E⟩
  · unfold MEm at M5 ⊢
    cases hA : A.2.2.2 with
    | none =>
      rw [hA] at M5
      show hi g' 61 s = 0
      rw [E _ _ (by decide) (by decide)]
      exact M5
    | some C =>
      rw [hA] at M5
      show hi g' 61 s = 1 ∧ CD g' s 10 C
      rw [E _ _ (by decide) (by decide)]
      exact ⟨M5.1, M5.2.same E⟩
section St
variable {h h' : Hp} {nw nf : Nat} {F : Nat → Nat → Int32} {A : Nat → Ac} {pls tms : Nat → Int32} {tme : Nat} {wa fa : Nat → Nat}
theorem STM.same (T : STM h nw nf F A pls tms tme) (E : ∀ a k, 45 ≤ a → a < 88 → hi h' a k = hi h a k) : STM h' nw nf F A pls tms tme := by
  obtain ⟨T1, T2, T3, T4, T5, T6, T7, T8, T9, T10, T11, T12, T13⟩ := T
  refine ⟨by rw [E _ _ (by decide) (by decide)]; exact T1, T2, by rw [E _ _ (by decide) (by decide)]; exact T3, T4, ?_, T6, fun s hs => ⟨(T7 s hs).1.same E, (T7 s hs).2⟩, ?_, ?_, T10, fun w hw => by rw [E _ _ (by decide) (by decide)]; exact T11 w hw, by rw [E _ _ (by decide) (by decide)]; exact T12, T13⟩
  · rw [← T5]
    funext j f
    by_cases q : j < 7
    · rw [vF_at _ f q, vF_at _ f q, E _ _ (by omega) (by omega)]
    · unfold vF
      rw [if_neg q, if_neg q]
  · rw [← T8]
    funext k
    exact E _ _ (by decide) (by decide)
  · rw [← T9]
    funext k
    exact E _ _ (by decide) (by decide)
theorem STM.frM (T : STM h nw nf F A pls tms tme) {L B : List Nat} (fr : FrM L B h h') (h1 : [48, 49, 50, 51, 52, 53, 54, 55, 56, 61, 62, 63, 64, 65, 66, 67, 68, 69, 70, 71].all (fun x => !L.contains x) = true) (h2 : 40 ∉ B ∧ 41 ∉ B ∧ 42 ∉ B) : STM h' nw nf F A pls tms tme := by
  obtain ⟨T1, T2, T3, T4, T5, T6, T7, T8, T9, T10, T11, T12, T13⟩ := T
  have h1' := h1
  simp at h1
  obtain ⟨p48, p49, p50, p51, p52, p53, p54, p55, p56, p61, p62, p63, p64, p65, p66, p67, p68, p69, p70, p71⟩ := h1
  refine ⟨(fr.ef h2.1).trans T1, T2, (fr.ef h2.2.1).trans T3, T4, ?_, T6, fun s hs => ⟨(T7 s hs).1.fr fr (by simp; exact ⟨p48, p49, p50, p51, p52, p53, p54, p55, p56, p61⟩), (T7 s hs).2⟩, ?_, ?_, T10, fun w hw => (fr.ei _ p63 (by decide)).trans (T11 w hw), (fr.ef h2.2.2).trans T12, T13⟩
  · rw [← T5]
    exact vF_frE fr (by simp; exact ⟨p64, p65, p66, p67, p68, p69, p70⟩)
  · rw [← T8]
    funext k
    exact fr.ei _ p62 (by decide)
  · rw [← T9]
    funext k
    exact fr.ei _ p71 (by decide)
theorem CW.same {a : Nat} {wk k : Int32} (c : CW h a F wk k nf) (E : ∀ b j, (b = a ∧ j = 11) ∨ (a < b ∧ b ≤ a + 4) → hi h' b j = hi h b j) : CW h' a F wk k nf := by
  obtain ⟨c1, c2, c3, c4⟩ := c
  refine ⟨fun i u hi' hu => by rw [E _ _ (by omega)]; exact c1 i u hi' hu, fun u hu => by rw [E _ _ (by omega)]; exact c2 u hu, fun u hu => by rw [E _ _ (by omega), E _ _ (by omega)]; exact c3 u hu, by rw [E _ _ (by omega)]; exact c4⟩
/-- kinds keep a worker's cells and facts' cells apart -/
theorem STC.apart (T : STC h nw nf F A pls tms tme wa fa) {w f : Nat} (hw : w < nw) (hf : f < nf) : fa f < wa w ∨ wa w + 4 < fa f := by
  obtain ⟨-, -, -, T4, T5, -⟩ := T
  obtain ⟨-, W, -⟩ := T4 w hw
  have k := (T5 f hf).2.1
  rcases Nat.lt_or_ge (fa f) (wa w) with q | q
  · exact Or.inl q
  · rcases Nat.lt_or_ge (wa w + 4) (fa f) with q2 | q2
    · exact Or.inr q2
    · exfalso
      rcases (by omega : fa f = wa w ∨ fa f = wa w + 1 ∨ fa f = wa w + 2 ∨ fa f = wa w + 3 ∨ fa f = wa w + 4) with e | e | e | e | e
      · rw [e, W.2.1] at k; cases k
      · rw [e, W.2.2.1] at k; cases k
      · rw [e, W.2.2.2.1] at k; cases k
      · rw [e, W.2.2.2.2.1] at k; cases k
      · rw [e, W.2.2.2.2.2.1] at k; cases k
theorem STC.sep (T : STC h nw nf F A pls tms tme wa fa) {w w' : Nat} (hw : w < nw) (hw' : w' < nw) (hne : w ≠ w') : wa w + 4 < wa w' ∨ wa w' + 4 < wa w := by
  rcases Nat.lt_or_ge w w' with q | q
  · exact Or.inl (T.2.2.2.2.2.2.2 w w' q hw')
  · exact Or.inr (T.2.2.2.2.2.2.2 w' w (by omega) hw)
theorem STC.ge (T : STC h nw nf F A pls tms tme wa fa) {w : Nat} (hw : w < nw) : 88 ≤ wa w := (T.2.2.2.1 w hw).2.1.1
/-- a query's writes leave the class's object -/
theorem STC.frq (T : STC h nw nf F A pls tms tme wa fa) (fr : FrP HQ (RQ nw nf wa fa) h h') : STC h' nw nf F A pls tms tme wa fa := by
  have T' := T
  obtain ⟨T1, T2, T3, T4, T5, T6, T7, T8⟩ := T
  have k8 : ∀ k, k ≠ 12 → hi h' 8 k = hi h 8 k := fun k hk' => fr.2.2.1 _ _ (fun q => by
    rcases q with q | q | q | ⟨w, hw, q⟩ | ⟨f, hf, q, -⟩
    · omega
    · omega
    · exact hk' q.2
    · have := T'.ge hw
      rcases q with q | q <;> omega
    · have := (T5 f hf).1; omega)
  have kw : ∀ w, w < nw → ∀ k, k ≠ 5 → k ≠ 6 → k ≠ 11 → hi h' (wa w) k = hi h (wa w) k := fun w hw k h5 h6 h11 => fr.2.2.1 _ _ (fun q => by
    have g1 := T'.ge hw
    rcases q with q | q | q | ⟨w', hw', q⟩ | ⟨f, hf, q, -⟩
    · omega
    · omega
    · omega
    · by_cases e : w = w'
      · subst e
        rcases q with q | q <;> omega
      · have := T'.sep hw hw' e
        rcases q with q | q <;> omega
    · have := T'.apart hw hf; omega)
  have kf : ∀ f, f < nf → ∀ k, k < 9 → hi h' (fa f) k = hi h (fa f) k := fun f hf k hk' => fr.2.2.1 _ _ (fun q => by
    have g1 := (T5 f hf).1
    rcases q with q | q | q | ⟨w', hw', q⟩ | ⟨f', hf', q, q2⟩
    · omega
    · omega
    · omega
    · have := T'.apart hw' hf
      rcases q with q | q <;> omega
    · omega)
  have kq : ∀ a k, a ≠ 37 → a ≠ 27 → hq h' a k = hq h a k := fun a k h1 h2 => fr.2.1 _ _ (fun q => by
    rcases q with q | q
    · exact h1 q
    · exact h2 q.1)
  refine ⟨(k8 3 (by decide)).trans T1, (k8 5 (by decide)).trans T2, (k8 6 (by decide)).trans T3, fun w hw => ?_, fun f hf => ?_, fun f hf => by rw [kq _ _ (by decide) (by decide)]; exact T6 f hf, fun s hs => ?_, T8⟩
  · obtain ⟨w1, w2, w3, w4, w5, w6, w7⟩ := T4 w hw
    have g1 := T'.ge hw
    refine ⟨by rw [kq _ _ (by decide) (by decide)]; exact w1, ?_, by rw [kw w hw _ (by decide) (by decide) (by decide)]; exact w3, by rw [kw w hw _ (by decide) (by decide) (by decide)]; exact w4, by rw [kw w hw _ (by decide) (by decide) (by decide)]; exact w5, by rw [kq _ _ (by omega) (by omega)]; exact w6, by rw [kq _ _ (by omega) (by omega)]; exact w7⟩
    unfold WX at w2 ⊢
    rw [fr.kd, fr.kd, fr.kd, fr.kd, fr.kd, kq _ _ (by omega) (by omega), kq _ _ (by omega) (by omega), kq _ _ (by omega) (by omega), kq _ _ (by omega) (by omega)]
    exact w2
  · obtain ⟨c0, c1, c2, c3, c4, c5, c6, c7, c8, c9, c10⟩ := T5 f hf
    rw [fr.kd, kq _ _ (by omega) (by omega), kf f hf 0 (by decide), kf f hf 1 (by decide), kf f hf 2 (by decide), kf f hf 3 (by decide), kf f hf 4 (by decide), kf f hf 5 (by decide), kf f hf 6 (by decide), kf f hf 7 (by decide)]
    exact ⟨c0, c1, c2, c3, c4, c5, c6, c7, c8, c9, c10⟩
  · obtain ⟨b, b1', b2'⟩ := T7 s hs
    refine ⟨b, by rw [kq _ _ (by decide) (by decide)]; exact b1', b2'.kp ⟨fun x y e => by rw [fr.kd]; exact e, fun x hx hk1 => ⟨fun k => fr.2.2.1 _ _ (fun q => ?_), fun k => kq _ _ ?_ ?_⟩⟩⟩
    · obtain ⟨o, ow⟩ := hx
      unfold OKA at o
      rcases q with q | q | q | ⟨w', hw', q⟩ | ⟨f', hf', q, q2⟩
      · omega
      · omega
      · omega
      · have := ow w' hw'
        rcases q with q | q <;> omega
      · rw [q] at hk1
        exact hk1 (T5 f' hf').2.1
    · have o := hx.1
      unfold OKA at o
      omega
    · have o := hx.1
      unfold OKA at o
      omega
/-- the model's writes leave the class's object -/
theorem STC.same (T : STC h nw nf F A pls tms tme wa fa) (e1 : h'.1 = h.1) (Q : ∀ a k, hq h' a k = hq h a k) (E : ∀ a k, a < 45 ∨ 88 ≤ a → hi h' a k = hi h a k) : STC h' nw nf F A pls tms tme wa fa := by
  have T' := T
  obtain ⟨T1, T2, T3, T4, T5, T6, T7, T8⟩ := T
  have kd : ∀ x, hk h' x = hk h x := fun x => by unfold hk; rw [e1]
  refine ⟨by rw [E _ _ (by decide)]; exact T1, by rw [E _ _ (by decide)]; exact T2, by rw [E _ _ (by decide)]; exact T3, fun w hw => ?_, fun f hf => ?_, fun f hf => by rw [Q]; exact T6 f hf, fun s hs => ?_, T8⟩
  · obtain ⟨w1, w2, w3, w4, w5, w6, w7⟩ := T4 w hw
    have g1 := T'.ge hw
    refine ⟨by rw [Q]; exact w1, ?_, by rw [E _ _ (by omega)]; exact w3, by rw [E _ _ (by omega)]; exact w4, by rw [E _ _ (by omega)]; exact w5, by rw [Q]; exact w6, by rw [Q]; exact w7⟩
    unfold WX at w2 ⊢
    rw [kd, kd, kd, kd, kd, Q, Q, Q, Q]
    exact w2
  · obtain ⟨c0, c1, c2, c3, c4, c5, c6, c7, c8, c9, c10⟩ := T5 f hf
    rw [kd, Q, E _ _ (by omega), E _ _ (by omega), E _ _ (by omega), E _ _ (by omega), E _ _ (by omega), E _ _ (by omega), E _ _ (by omega), E _ _ (by omega)]
    exact ⟨c0, c1, c2, c3, c4, c5, c6, c7, c8, c9, c10⟩
  · obtain ⟨b, b1', b2'⟩ := T7 s hs
    refine ⟨b, by rw [Q]; exact b1', b2'.kp ⟨fun x y e => by rw [kd]; exact e, fun x hx _ => ⟨fun k => E _ _ ?_, fun k => Q _ _⟩⟩⟩
    have o := hx.1
    unfold OKA at o
    omega
theorem CCH.same (c : CCH h F nw nf wa) (E : ∀ a k, 88 ≤ a → hi h' a k = hi h a k) (g1 : ∀ w, w < nw → 88 ≤ wa w) : CCH h' F nw nf wa := by
  intro w hw
  have := g1 w hw
  rw [E _ _ (by omega), E _ _ (by omega)]
  rcases c w hw with q | q
  · exact Or.inl q
  · exact Or.inr ⟨q.1, q.2.same (fun b j hb => E _ _ (by omega))⟩
/-- laid out: the cache of one worker is new, the others' stay -/
theorem S_lay (X : FX h) (T : STC h nw nf F A pls tms tme wa fa) (R : RG F nw nf) (hnf : nf ≤ 250) (c : CCH h F nw nf wa) {w : Nat} (hw : w < nw) (k : Int32) :
    ∃ g, f_X7_layOut (wa w) k (some 17) h = some g ∧ FrP HQ (RQ nw nf wa fa) h g ∧ CCH g F nw nf wa ∧ CW g (wa w) F (nI w) k nf := by
  obtain ⟨w1, w2, w3, w4, w5, w6, w7⟩ := T.2.2.2.1 w hw
  obtain ⟨g, a1, a2, a3, a4, a5⟩ := c_layOut X w2 T.2.2.2.2.1 R hnf hw w6 k (c w hw)
  have g1 := T.ge hw
  have fr : FrP HQ (RQ nw nf wa fa) h g := FrP.ofFr a2 (fun x hx j => by
    simp at hx
    rcases (by omega : (17 ≤ x ∧ x ≤ 27) ∨ (wa w < x ∧ x ≤ wa w + 4)) with q | q
    · exact Or.inl q
    · exact Or.inr (Or.inr (Or.inr (Or.inl ⟨w, hw, Or.inr q⟩)))) (fun p hp => by
    simp at hp
    rcases hp with q | q | q | q | q | q <;> rw [q]
    · exact Or.inl (by simp)
    · exact Or.inl (by simp)
    · exact Or.inl (by simp)
    · exact Or.inr (Or.inr (Or.inr (Or.inl ⟨w, hw, Or.inl ⟨rfl, by simp⟩⟩)))
    · exact Or.inr (Or.inr (Or.inr (Or.inl ⟨w, hw, Or.inl ⟨rfl, by simp⟩⟩)))
    · exact Or.inr (Or.inr (Or.inr (Or.inl ⟨w, hw, Or.inl ⟨rfl, by simp⟩⟩))))
  refine ⟨g, a1, fr, fun w' hw' => ?_, a5⟩
  by_cases e : w' = w
  · subst e
    exact Or.inr ⟨a3, by rw [a4]; exact a5⟩
  · have sp := T.sep hw' hw e
    have g2 := T.ge hw'
    have E : ∀ b j, wa w' ≤ b → b ≤ wa w' + 4 → hi g b j = hi h b j := fun b j h1 h2 => a2.2.2.1 b j (by simp; omega) (by simp; omega)
    rw [E _ _ (by omega) (by omega), E _ _ (by omega) (by omega)]
    rcases c w' hw' with q | q
    · exact Or.inl q
    · exact Or.inr ⟨q.1, q.2.same (fun b j hb => E b j (by omega) (by omega))⟩
end St
