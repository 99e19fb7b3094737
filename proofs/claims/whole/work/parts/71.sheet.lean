/-! Acts as the class holds them; what it finds of a week under an act. -/
def OKA (x : Nat) : Prop := (41 ≤ x ∧ x ≤ 44) ∨ 88 ≤ x
def CCx (h : Hp) (cb : Nat) (C : List Nat) : Prop := hk h cb = some (10, C.length) ∧ ∀ j (hj : j < C.length), hi h cb j = nI C[j]
def CE (P : Nat → Prop) (h : Hp) (b : Nat) (e : Option (List Nat)) : Prop := match e with
  | none => hi h b 3 = 0
  | some C => hi h b 3 = 1 ∧ ∃ eb, hq h b 2 = some eb ∧ P eb ∧ CCx h eb C
def CR (P : Nat → Prop) (h : Hp) (rb l : Nat) (r : Rl) : Prop := ∃ q cb, P q ∧ hq h rb l = some q ∧ hk h q = some (3, 0) ∧ hi h q 0 = nI r.1 ∧ hi h q 1 = r.2.1 ∧ hq h q 2 = some cb ∧ P cb ∧ CCx h cb r.2.2
/-- an act's cells; P: addresses that no query writes to -/
def CA (P : Nat → Prop) (h : Hp) (b : Nat) (A : Ac) : Prop :=
  ∃ rb nb, P b ∧ P rb ∧ P nb ∧ hk h b = some (0, 0) ∧ hq h b 0 = some rb ∧ hk h rb = some (15, 10) ∧ hi h b 1 = nI A.2.2.1.length ∧ hq h b 4 = some nb ∧ hk h nb = some (10, 7) ∧ (∀ n, n < 7 → hi h nb n = A.1 n) ∧ hi h b 5 = A.2.1 ∧ (∀ l (hl : l < A.2.2.1.length), CR P h rb l A.2.2.1[l]) ∧ CE P h b A.2.2.2
def KP (P : Nat → Prop) (h h' : Hp) : Prop := (∀ x y, hk h x = some y → hk h' x = some y) ∧ ∀ x, P x → hk h x ≠ some (1, 0) → (∀ k, hi h' x k = hi h x k) ∧ ∀ k, hq h' x k = hq h x k
theorem KP.trans {P : Nat → Prop} {h h' h'' : Hp} (a : KP P h h') (b : KP P h' h'') (hn : ∀ x, hk h' x = some (1, 0) → hk h x = some (1, 0) ∨ hk h x = none) (hs : ∀ x, P x → hk h x ≠ none) : KP P h h'' := by
  refine ⟨fun x y e => b.1 x y (a.1 x y e), fun x hx hk1 => ?_⟩
  have h1 := a.2 x hx hk1
  have h2 := b.2 x hx (fun e => (hn x e).elim hk1 (hs x hx))
  exact ⟨fun k => (h2.1 k).trans (h1.1 k), fun k => (h2.2 k).trans (h1.2 k)⟩
theorem ne10 {kd n : Nat} (h : kd ≠ 1) : (some (kd, n) : Option (Nat × Nat)) ≠ some (1, 0) := fun e => by cases e; exact h rfl
theorem CCx.kp {P : Nat → Prop} {h h' : Hp} {cb : Nat} {C : List Nat} (c : CCx h cb C) (hp : P cb) (K : KP P h h') : CCx h' cb C :=
  ⟨K.1 _ _ c.1, fun j hj => ((K.2 cb hp (by rw [c.1]; exact ne10 (by decide))).1 j).trans (c.2 j hj)⟩
theorem CR.kp {P : Nat → Prop} {h h' : Hp} {rb l : Nat} {r : Rl} (c : CR P h rb l r) (hrb : P rb) (krb : hk h rb = some (15, 10)) (K : KP P h h') : CR P h' rb l r := by
  obtain ⟨q, cb, p1, p2, p3, p4, p5, p6, p7, p8⟩ := c
  have k1 := K.2 q p1 (by rw [p3]; exact ne10 (by decide))
  have k2 := K.2 rb hrb (by rw [krb]; exact ne10 (by decide))
  exact ⟨q, cb, p1, (k2.2 _).trans p2, K.1 _ _ p3, (k1.1 _).trans p4, (k1.1 _).trans p5, (k1.2 _).trans p6, p7, p8.kp p7 K⟩
theorem CA.kp {P : Nat → Prop} {h h' : Hp} {b : Nat} {A : Ac} (c : CA P h b A) (K : KP P h h') : CA P h' b A := by
  obtain ⟨rb, nb, p1, p2, p3, p4, p5, p6, p7, p8, p9, p10, p11, p12, p13⟩ := c
  have k1 := K.2 b p1 (by rw [p4]; exact ne10 (by decide))
  have k3 := K.2 nb p3 (by rw [p9]; exact ne10 (by decide))
  refine ⟨rb, nb, p1, p2, p3, K.1 _ _ p4, (k1.2 _).trans p5, K.1 _ _ p6, (k1.1 _).trans p7, (k1.2 _).trans p8, K.1 _ _ p9, fun n hn => (k3.1 _).trans (p10 n hn), (k1.1 _).trans p11, fun l hl => (p12 l hl).kp p2 p6 K, ?_⟩
  unfold CE at p13 ⊢
  cases hA : A.2.2.2 with
  | none =>
    rw [hA] at p13
    exact (k1.1 _).trans p13
  | some C =>
    rw [hA] at p13
    obtain ⟨q1, eb, q2, q3, q4⟩ := p13
    exact ⟨(k1.1 _).trans q1, eb, (k1.2 _).trans q2, q3, q4.kp q3 K⟩
theorem KP_fr {P : Nat → Prop} {A : List Nat} {B : List (Nat × Nat)} {h h' : Hp} (fr : Fr A B h h') (hA : ∀ x ∈ A, ¬ P x) (hB : ∀ p ∈ B, ¬ P p.1 ∨ hk h p.1 = some (1, 0)) : KP P h h' := by
  refine ⟨fun x y e => by rw [hk_fr fr]; exact e, fun x hx hk1 => ⟨fun k => fr.ef (fun q => hA x q hx) (fun q => (hB _ q).elim (fun z => z hx) hk1), fun k => fr.2.1 x k⟩⟩
theorem f_num {P : Nat → Prop} {h : Hp} {b : Nat} {A : Ac} (c : CA P h b A) {n : Nat} (hn : n < 7) : f_X0_number b (nI n) h = some (A.1 n, h) := by
  obtain ⟨rb, nb, p1, p2, p3, p4, p5, p6, p7, p8, p9, p10, -⟩ := c
  unfold f_X0_number
  rw [getQ_of 4 p4, p8, bd_some, at_in p9 hn (by decide), b1_some, p10 n hn]
theorem c_isWeek {u : Nat} (hu : u < 104) (h : Hp) : f_X8_isWeek (nI u) h = some (1, h) := by
  unfold f_X8_isWeek f_X8_within
  rw [if_neg (nI_pos (by omega)), if_neg (by rw [show (103 : Int32) = nI 103 from rfl, nI_ltI (by omega) (by omega)]; omega), b1_some]
  rfl
/-- of the kinds -/
def prtO (ev : List Nat → Int32) (i : Nat) : List Rl → Option Int32
  | [] => none
  | r :: l => if r.1 = i ∧ ¬ ev r.2.2 = 0 then some r.2.1 else prtO ev i l
theorem prtO_prt (ev : List Nat → Int32) (i : Nat) : ∀ l, (prtO ev i l).getD 0 = prt ev i l
  | [] => rfl
  | r :: l => by
    unfold prtO prt
    split
    · rfl
    · exact prtO_prt ev i l
theorem prtO_app (ev : List Nat → Int32) (i : Nat) (r : Rl) : ∀ l, prtO ev i (l ++ [r]) = match prtO ev i l with
    | some p => some p
    | none => if r.1 = i ∧ ¬ ev r.2.2 = 0 then some r.2.1 else none
  | [] => rfl
  | x :: l => by
    show (if x.1 = i ∧ ¬ ev x.2.2 = 0 then some x.2.1 else prtO ev i (l ++ [r])) = _
    rw [prtO_app ev i r l]
    show _ = match (if x.1 = i ∧ ¬ ev x.2.2 = 0 then some x.2.1 else prtO ev i l) with
      | some p => some p
      | none => if r.1 = i ∧ ¬ ev r.2.2 = 0 then some r.2.1 else none
    split <;> rfl
def sS (f : Nat → Int32) : Nat → Int32
  | 0 => 0
  | n + 1 => sS f n + f n
theorem sS_congr {f f' : Nat → Int32} : ∀ n, (∀ i, i < n → f i = f' i) → sS f n = sS f' n
  | 0, _ => rfl
  | n + 1, h => by
    show sS f n + f n = sS f' n + f' n
    rw [sS_congr n (fun i hi' => h i (by omega)), h n (by omega)]
theorem sS_put {f f' : Nat → Int32} {j : Nat} (h0 : f j = 0) (h1 : ∀ i, i ≠ j → f' i = f i) : ∀ n, j < n → sS f' n = sS f n + f' j
  | 0, h => absurd h (Nat.not_lt_zero _)
  | n + 1, h => by
    show sS f' n + f' n = sS f n + f n + f' j
    by_cases e : n = j
    · subst e
      rw [h0, sS_congr n (fun i hi' => h1 i (by omega)), Int32.add_zero]
    · rw [sS_put h0 h1 n (by omega), h1 n e, Int32.add_assoc, Int32.add_assoc, Int32.add_comm (f' j)]
theorem hpN_put {p p' : Nat → Bool} {j : Nat} (h1 : p' j = true) (h2 : ∀ i, i ≠ j → p' i = p i) {n : Nat} (hj : j < n) : hpN p' n = hpN p n ||| 2 ^ j := by
  apply Nat.eq_of_testBit_eq
  intro i
  rw [Nat.testBit_or, hpN_tb, hpN_tb, Nat.testBit_two_pow]
  by_cases e : j = i
  · subst e
    simp [h1, hj]
  · rw [h2 i (fun q => e q.symm)]
    simp [e]
theorem hpN_congr {p p' : Nat → Bool} : ∀ n, (∀ i, i < n → p i = p' i) → hpN p n = hpN p' n
  | 0, _ => rfl
  | n + 1, h => by
    show hpN p n ||| _ = hpN p' n ||| _
    rw [hpN_congr n (fun i hi' => h i (by omega)), h n (by omega)]
/-- the sheet: an act over a worker's weeks -/
def SHT (P : Nat → Prop) (g : Hp) (b : Nat) (A : Ac) (pd : Nat → Nat → Int32) (pl tm : Int32) : Prop :=
  FX g ∧ hq g 27 0 = some b ∧ CA P g b A ∧ SHE g pd pl tm ∧ ∀ u, u < 104 → (hi g 33 u = -1 ∨ hi g 33 u = cntW pd pl tm A u ∧ hi g 35 u = nI (mkwW pd pl tm A u)) ∧ (hi g 34 u = -1 ∨ hi g 34 u = if empW pd pl tm A u = true then 1 else 0)
section Sa
variable {P : Nat → Prop} {g : Hp} {b : Nat} {A : Ac} {pd : Nat → Nat → Int32} {pl tm : Int32} {u : Nat}
theorem SHT.fr (hP : ∀ x, P x → OKA x) {g' : Hp} (S : SHT P g b A pd pl tm) {L : List Nat} {B : List (Nat × Nat)} (fr : Fr L B g g') (hL : ∀ x ∈ L, x = 36) (hB : ∀ p ∈ B, p.1 = 27 ∧ 9 ≤ p.2) : SHT P g' b A pd pl tm := by
  obtain ⟨S1, S2, S3, S4, S5⟩ := S
  have k : ∀ x j, x ≠ 36 → x ≠ 27 → hi g' x j = hi g x j := fun x j h1 h2 => fr.ef (fun q => h1 (hL x q)) (fun q => h2 (hB _ q).1)
  have k27 : ∀ j, j < 9 → hi g' 27 j = hi g 27 j := fun j hj => fr.ef (fun q => absurd (hL _ q) (by decide)) (fun q => by have := (hB _ q).2; simp only at this; omega)
  refine ⟨fr.fx S1, by rw [fr.2.1]; exact S2, S3.kp (KP_fr fr (fun x hx q => ?_) (fun p hp => Or.inl fun q => ?_)), ⟨fun i u hi' hu => by rw [k 32 _ (by decide) (by decide)]; exact S4.1 i u hi' hu, by rw [k27 2 (by decide)]; exact S4.2.1, by rw [k27 3 (by decide)]; exact S4.2.2⟩, fun u hu => ?_⟩
  · have := hP x q
    rw [hL x hx] at this
    unfold OKA at this
    omega
  · have := hP _ q
    rw [(hB p hp).1] at this
    unfold OKA at this
    omega
  · rw [k 33 _ (by decide) (by decide), k 34 _ (by decide) (by decide), k 35 _ (by decide) (by decide)]
    exact S5 u hu
def dcB (pd : Nat → Nat → Int32) (ev : List Nat → Int32) (R : List Rl) (u l i : Nat) : Bool := decide (¬ pd i u ≤ 0) && (prtO ev i (R.take l)).isSome
def tlI (pd : Nat → Nat → Int32) (ev : List Nat → Int32) (R : List Rl) (u l i : Nat) : Int32 := if dcB pd ev R u l i = true then pd i u * (prtO ev i (R.take l)).getD 0 / 100 else 0
def mkB (pd : Nat → Nat → Int32) (ev : List Nat → Int32) (R : List Rl) (u l i : Nat) : Bool := dcB pd ev R u l i && decide (¬ (prtO ev i (R.take l)).getD 0 ≤ 0)
theorem z100 : (0 : Int32) / 100 = 0 := by decide
theorem c_countL (hP : ∀ x, P x → OKA x) (S : SHT P g b A pd pl tm) (ok : AOK A) (hu : u < 104) (hpos : ∀ i, i < 5 → 0 ≤ pd i u) :
    ∃ r, f_X4_countIn_L36 fu 27 (nI u) 0 0 0 0 g = some r ∧ (r.1 = cntW pd pl tm A u ∧ r.2.1 = nI (mkwW pd pl tm A u) ∧ Fr [36] [] g r.2.2) := by
  obtain ⟨R, eR⟩ : ∃ R, R = A.2.2.1 := ⟨_, rfl⟩
  obtain ⟨ev, eev⟩ : ∃ ev, ev = evV pd pl tm u := ⟨_, rfl⟩
  have okR : ROK R := by rw [eR]; exact ok.1
  have hlen := okR.1
  refine forN (fun n l (p : Int32 × Int32 × Int32 × Hp) => f_X4_countIn_L36 n 27 (nI u) p.1 p.2.1 p.2.2.1 l p.2.2.2) R.length (by omega)
    (fun l p => p.1 = sS (tlI pd ev R u l) 5 ∧ p.2.1 = nI (hpN (mkB pd ev R u l) 5) ∧ p.2.2.1 = nI (hpN (dcB pd ev R u l) 5) ∧ Fr [36] [] g p.2.2.2) (fun r => r.1 = cntW pd pl tm A u ∧ r.2.1 = nI (mkwW pd pl tm A u) ∧ Fr [36] [] g r.2.2) ?_ ?_ (i0 := 0) (s := (0, 0, 0, g)) (Nat.zero_le _) ⟨?_, ?_, ?_, Fr.rfl⟩
  · rintro n ⟨x, y, z, g1⟩ ⟨I1, I2, I3, I4⟩
    simp only at I1 I2 I3 I4
    have S1 := S.fr hP I4 (by simp) (by simp)
    obtain ⟨X1, q1, ⟨rb, nb, p1, p2, p3, p4, p5, p6, p7, -⟩, -⟩ := S1
    refine ⟨(x, y, g1), ?_, ?_, ?_, I4⟩
    · simp only [f_X4_countIn_L36.eq_2]
      rw [getQ_of 0 (k27 X1), q1, bd_some, getI_of 1 p4, bd_some, p7, ← eR, if_pos (Int32.le_refl _)]
    · simp only
      rw [I1]
      show _ = ctS pd pl tm A u 5
      have e : ∀ n, n ≤ 5 → ctS pd pl tm A u n = sS (ctT pd pl tm A u) n := by
        intro n
        induction n with
        | zero => intro _; rfl
        | succ n ih => intro hn; show ctS pd pl tm A u n + _ = sS _ n + _; rw [ih (by omega)]
      rw [e 5 (by omega)]
      refine sS_congr 5 fun i hi' => ?_
      unfold tlI ctT dcB
      rw [← eR, ← eev, ← prtO_prt, List.take_length]
      by_cases c : pd i u ≤ 0
      · have z : pd i u = 0 := Int32.le_antisymm c (hpos i hi')
        rw [decide_eq_false (fun q => q c), Bool.false_and, if_neg (by decide), z, Int32.zero_mul, z100]
      · rw [decide_eq_true c, Bool.true_and]
        cases hq' : prtO ev i R with
        | none => rw [if_neg (by decide), show (none : Option Int32).getD 0 = 0 from rfl, Int32.mul_zero, z100]
        | some p => exact if_pos rfl
    · simp only
      rw [I2]
      show _ = nI (hpN (mkpP pd pl tm A u) 5)
      rw [hpN_congr 5 fun i hi' => ?_]
      unfold mkB dcB mkpP
      rw [← eR, ← eev, ← prtO_prt, List.take_length]
      cases hq' : prtO ev i R with
      | none => simp
      | some p => simp [Bool.and_comm]
  · rintro n l ⟨x, y, z, g1⟩ hl ⟨I1, I2, I3, I4⟩
    simp only at I1 I2 I3 I4
    subst I1
    subst I2
    subst I3
    right
    have S1 := S.fr hP I4 (by simp) (by simp)
    obtain ⟨X1, q1, ⟨rb, nb, p1, p2, p3, p4, p5, p6, p7, p8, p9, p10, p11, p12, p13⟩, E1, -⟩ := S1
    obtain ⟨rq, cb, r1, r2, r3, r4, r5, r6, r7, r8⟩ := p12 l (by rw [← eR]; exact hl)
    simp only [← eR] at r4 r5 r8 p7
    obtain ⟨κ, eκ⟩ : ∃ κ, κ = R[l].1 := ⟨_, rfl⟩
    obtain ⟨o1, ⟨pp, o2, o3⟩, o4⟩ := okR.2 R[l] (List.getElem_mem hl)
    rw [← eκ] at r4 o1
    have n0 : ¬ nI R.length ≤ nI l := by rw [nI_leI (by omega) (by omega)]; omega
    have n1 : ¬ nI 10 ≤ nI l := by rw [nI_leI (by omega) (by omega)]; omega
    have gq0 : getQ g1 (some 27) 4 0 = some (some b) := by rw [getQ_of 0 (k27 X1), q1]
    have gi1 : getI g1 (some b) 0 1 = some (nI R.length) := by rw [getI_of 1 p4, p7]
    have gqb : getQ g1 (some b) 0 0 = some (some rb) := by rw [getQ_of 0 p4, p5]
    have alr : aln g1 (some rb) 15 = some (nI 10) := aln_eq p6
    have rdr : rdQ g1 (some rb) 15 (nI l) = some (some rq) := by rw [rdQ_eq p6 (by omega) (by decide), r2]
    have gk : getI g1 (some rq) 3 0 = some (nI κ) := by rw [getI_of 0 r3, r4]
    have gp : getI g1 (some rq) 3 1 = some R[l].2.1 := by rw [getI_of 1 r3, r5]
    have gc : getQ g1 (some rq) 3 2 = some (some cb) := by rw [getQ_of 2 r3, r6]
    have hx : κ * 104 + u < 624 := by omega
    have ea : f_X8_at (some 32) (nI (κ * 104 + u)) g1 = some (pd κ u, g1) := by rw [at_in (X1.kd (a := 32) (by decide) (by decide) rfl) hx (by decide), E1.1 κ u (by omega) hu]
    have tk : R.take (l + 1) = R.take l ++ [R[l]] := by first | exact (List.take_append_getElem hl).symm | exact List.take_succ_eq_append_getElem hl | (rw [List.take_succ]; simp [hl])
    have other : ∀ i, i ≠ κ → prtO ev i (R.take (l + 1)) = prtO ev i (R.take l) := fun i hi' => by
      rw [tk, prtO_app]
      cases prtO ev i (R.take l) with
      | none => simp only; rw [if_neg (fun q => hi' (q.1 ▸ eκ).symm)]
      | some p => rfl
    have same : (pd κ u ≤ 0 ∨ prtO ev κ (R.take (l + 1)) = prtO ev κ (R.take l)) → dcB pd ev R u (l + 1) = dcB pd ev R u l ∧ tlI pd ev R u (l + 1) = tlI pd ev R u l ∧ mkB pd ev R u (l + 1) = mkB pd ev R u l := by
      intro hs
      have d1 : dcB pd ev R u (l + 1) = dcB pd ev R u l := by
        funext i
        unfold dcB
        by_cases e : i = κ
        · subst e
          rcases hs with q | q
          · rw [decide_eq_false (fun z => z q), Bool.false_and, Bool.false_and]
          · rw [q]
        · rw [other i e]
      refine ⟨d1, ?_, ?_⟩
      · funext i
        unfold tlI
        rw [d1]
        by_cases e : i = κ
        · subst e
          rcases hs with q | q
          · have : dcB pd ev R u l i = false := by unfold dcB; rw [decide_eq_false (fun z => z q), Bool.false_and]
            rw [this, if_neg (by decide), if_neg (by decide)]
          · rw [q]
        · rw [other i e]
      · funext i
        unfold mkB
        rw [d1]
        by_cases e : i = κ
        · subst e
          rcases hs with q | q
          · have : dcB pd ev R u l i = false := by unfold dcB; rw [decide_eq_false (fun z => z q), Bool.false_and]
            rw [this, Bool.false_and, Bool.false_and]
          · rw [q]
        · rw [other i e]
    have lt5 : hpN (dcB pd ev R u l) 5 < 32 := hpN_lt _ 5
    have bit := bit_of (s := hpN (dcB pd ev R u l) 5) (b := κ) (by omega) (by omega)
    have btk : btB (hpN (dcB pd ev R u l) 5) κ = dcB pd ev R u l κ := by rw [btB_tb, hpN_tb, decide_eq_true (show κ < 5 from o1), Bool.true_and]
    have k31 : κ < 31 := by omega
    by_cases c : pd κ u ≤ 0
    · obtain ⟨s1, s2, s3⟩ := same (Or.inl c)
      refine ⟨(sS (tlI pd ev R u l) 5, nI (hpN (mkB pd ev R u l) 5), nI (hpN (dcB pd ev R u l) 5), g1), ?_, by simp only; rw [s2], by simp only; rw [s3], by simp only; rw [s1], I4⟩
      simp only [f_X4_countIn_L36.eq_2]
      simp (disch := (first | assumption | (simp only [FX_si, FX_sj, FX_sr, WX_si, WX_sj, WX_sr, FK_si, FK_sj, FK_sr]; assumption) | omega | decide)) only [gq0, gi1, n0, gqb, alr, n1, rdr, gk, i104, ea, c, nI_1, ↓reduceIte, if_true, if_false, i10, i01, eq_self, wq7, wq8, wq9, wq10, wrc, wgi, wpi, wpz, wn1, wn2, wn3, wn4, wr1, wr2, wr3, wr4, ww1, ww2, ww3, ww4, fgi, fgq, fpi, frc, at18, at19, at21, at22, at23, at24, at25, at26, at_neg, wat1, wat2, wat3, wat4, reduceCtorEq, bd_some, b1_some, b2_some, b3_some, b4_some, c1_eq, elim_inl, elim_inr, zok0, zok1, getQ_si, getQ_sj, getQ_sr, q8_0, q8_1, q8_2, q8_4, q8_7, q8_8, q8_9, q8_10, q8_11, q9_0, q9_3, q9_4, q9_8, q17_0, q17_1, q17_2, q17_4, q17_5, q17_6, q17_9, q17_10, q17_11, q27_4, q27_5, q27_6, q27_7, q27_8, q27_11, q45_0, q45_1, q45_11, q45_12, q45_13, q45_14, q45_15, q45_16, q45_17, q45_18, q45_19, q45_20, q45_21, q45_22, q45_23, q45_24, q45_30, q45_31, q45_32, q45_33, q45_34, q45_35, q45_36, q45_37, q45_38, q45_39, q45_43, q45_44, q45_45, q45_46, q45_47, q45_48, q45_52, q45_53, q45_54, q45_59, q45_60, q45_61, q45_62, q45_65, q45_67, q45_68, gi8, gj8, pi8, pz8, pj8, rc8, gi9, gj9, pi9, pz9, pj9, rc9, gi17, gj17, pi17, pz17, pj17, rc17, gi27, gj27, pi27, pz27, pj27, rc27, gi45, gj45, pi45, pz45, pj45, rc45, aln_si, aln_sj, aln_sq, rc_si, rc_sj, rc_sq, n0, n1, n10, n11, n12, n13, n14, n15, n16, n18, n19, n20, n21, n22, n23, n24, n25, n26, n29, n30, n31, n32, n33, n34, n35, n36, n37, n38, n39, n40, n42, n43, n44, n46, n47, n48, n49, n50, n51, n52, n53, n54, n55, n56, n57, n58, n59, n60, n61, n62, n63, n64, n65, n66, n67, n68, n69, n70, n71, n72, n73, n74, n75, n76, n77, n78, n79, n80, n81, n82, n83, n84, n85, n86, n87, r0, r1, r10, r11, r12, r13, r14, r15, r16, r18, r19, r20, r21, r22, r23, r24, r25, r26, r29, r30, r31, r32, r33, r34, r35, r36, r37, r38, r39, r40, r42, r43, r44, r46, r47, r48, r49, r50, r51, r52, r53, r54, r55, r56, r57, r58, r59, r60, r61, r62, r63, r64, r65, r66, r67, r68, r69, r70, r71, r72, r73, r74, r75, r76, r77, r78, r79, r80, r81, r82, r83, r84, r85, r86, r87, w10, w11, w12, w13, w18, w19, w20, w21, w22, w23, w24, w25, w26, w30, w31, w32, w33, w34, w35, w36, w38, w39, w40, w43, w44, w46, w47, w48, w49, w50, w51, w52, w53, w54, w55, w56, w57, w58, w59, w60, w61, w62, w63, w64, w65, w66, w67, w68, w69, w70, w71, w72, w73, w74, w75, w76, w77, w78, w79, w80, w81, w82, w83, w84, w85, w86, w87, hi_hit, hi_row, hi_col, hj_hit, hj_row, hj_col, hi_sj, hj_si, hq_si, hq_sj, hi_sq, hj_sq, hi_srh, hi_srm]
    · cases hd : dcB pd ev R u l κ with
      | true =>
        rw [hd] at btk
        have b1e : bt1 (hpN (dcB pd ev R u l) 5) κ = 1 := of_decide_eq_true btk
        rw [b1e] at bit
        have bn : ¬ nI 1 = 0 := by decide
        have sm : prtO ev κ (R.take (l + 1)) = prtO ev κ (R.take l) := by
          unfold dcB at hd
          rw [decide_eq_true c, Bool.true_and] at hd
          rw [tk, prtO_app]
          cases hq' : prtO ev κ (R.take l) with
          | none => rw [hq'] at hd; exact absurd hd (by decide)
          | some p => rfl
        obtain ⟨s1, s2, s3⟩ := same (Or.inr sm)
        refine ⟨(sS (tlI pd ev R u l) 5, nI (hpN (mkB pd ev R u l) 5), nI (hpN (dcB pd ev R u l) 5), g1), ?_, by simp only; rw [s2], by simp only; rw [s3], by simp only; rw [s1], I4⟩
        simp only [f_X4_countIn_L36.eq_2]
        simp (disch := (first | assumption | (simp only [FX_si, FX_sj, FX_sr, WX_si, WX_sj, WX_sr, FK_si, FK_sj, FK_sr]; assumption) | omega | decide)) only [gq0, gi1, n0, gqb, alr, n1, rdr, gk, i104, ea, c, bit, bn, nI_1, ↓reduceIte, if_true, if_false, i10, i01, eq_self, wq7, wq8, wq9, wq10, wrc, wgi, wpi, wpz, wn1, wn2, wn3, wn4, wr1, wr2, wr3, wr4, ww1, ww2, ww3, ww4, fgi, fgq, fpi, frc, at18, at19, at21, at22, at23, at24, at25, at26, at_neg, wat1, wat2, wat3, wat4, reduceCtorEq, bd_some, b1_some, b2_some, b3_some, b4_some, c1_eq, elim_inl, elim_inr, zok0, zok1, getQ_si, getQ_sj, getQ_sr, q8_0, q8_1, q8_2, q8_4, q8_7, q8_8, q8_9, q8_10, q8_11, q9_0, q9_3, q9_4, q9_8, q17_0, q17_1, q17_2, q17_4, q17_5, q17_6, q17_9, q17_10, q17_11, q27_4, q27_5, q27_6, q27_7, q27_8, q27_11, q45_0, q45_1, q45_11, q45_12, q45_13, q45_14, q45_15, q45_16, q45_17, q45_18, q45_19, q45_20, q45_21, q45_22, q45_23, q45_24, q45_30, q45_31, q45_32, q45_33, q45_34, q45_35, q45_36, q45_37, q45_38, q45_39, q45_43, q45_44, q45_45, q45_46, q45_47, q45_48, q45_52, q45_53, q45_54, q45_59, q45_60, q45_61, q45_62, q45_65, q45_67, q45_68, gi8, gj8, pi8, pz8, pj8, rc8, gi9, gj9, pi9, pz9, pj9, rc9, gi17, gj17, pi17, pz17, pj17, rc17, gi27, gj27, pi27, pz27, pj27, rc27, gi45, gj45, pi45, pz45, pj45, rc45, aln_si, aln_sj, aln_sq, rc_si, rc_sj, rc_sq, n0, n1, n10, n11, n12, n13, n14, n15, n16, n18, n19, n20, n21, n22, n23, n24, n25, n26, n29, n30, n31, n32, n33, n34, n35, n36, n37, n38, n39, n40, n42, n43, n44, n46, n47, n48, n49, n50, n51, n52, n53, n54, n55, n56, n57, n58, n59, n60, n61, n62, n63, n64, n65, n66, n67, n68, n69, n70, n71, n72, n73, n74, n75, n76, n77, n78, n79, n80, n81, n82, n83, n84, n85, n86, n87, r0, r1, r10, r11, r12, r13, r14, r15, r16, r18, r19, r20, r21, r22, r23, r24, r25, r26, r29, r30, r31, r32, r33, r34, r35, r36, r37, r38, r39, r40, r42, r43, r44, r46, r47, r48, r49, r50, r51, r52, r53, r54, r55, r56, r57, r58, r59, r60, r61, r62, r63, r64, r65, r66, r67, r68, r69, r70, r71, r72, r73, r74, r75, r76, r77, r78, r79, r80, r81, r82, r83, r84, r85, r86, r87, w10, w11, w12, w13, w18, w19, w20, w21, w22, w23, w24, w25, w26, w30, w31, w32, w33, w34, w35, w36, w38, w39, w40, w43, w44, w46, w47, w48, w49, w50, w51, w52, w53, w54, w55, w56, w57, w58, w59, w60, w61, w62, w63, w64, w65, w66, w67, w68, w69, w70, w71, w72, w73, w74, w75, w76, w77, w78, w79, w80, w81, w82, w83, w84, w85, w86, w87, hi_hit, hi_row, hi_col, hj_hit, hj_row, hj_col, hi_sj, hj_si, hq_si, hq_sj, hi_sq, hj_sq, hi_srh, hi_srm]
      | false =>
        rw [hd] at btk
        have b1e : bt1 (hpN (dcB pd ev R u l) 5) κ = 0 := by
          have h1 : ¬ bt1 (hpN (dcB pd ev R u l) 5) κ = 1 := of_decide_eq_false btk
          have h2 : bt1 (hpN (dcB pd ev R u l) 5) κ < 2 := Nat.mod_lt _ (by omega)
          omega
        rw [b1e] at bit
        have bn : nI 0 = 0 := rfl
        have hno : prtO ev κ (R.take l) = none := by
          unfold dcB at hd
          rw [decide_eq_true c, Bool.true_and] at hd
          cases hq' : prtO ev κ (R.take l) with
          | none => rfl
          | some p => rw [hq'] at hd; exact absurd hd (by simp)
        obtain ⟨g2, v1, v2⟩ := c_value X1 E1 hu r8.1 (fun q => by have := hP _ r7; rw [q] at this; unfold OKA at this; omega) r8.2 o4
        rw [← eev] at v1
        have X2 := v2.fx X1
        have fr2 := I4.trans v2
        have r3' : hk g2 rq = some (3, 0) := by rw [hk_fr v2]; exact r3
        have nq : rq ≠ 36 := fun q => by have := hP _ r1; rw [q] at this; unfold OKA at this; omega
        have gk2 : getI g2 (some rq) 3 0 = some (nI κ) := by rw [getI_of 0 r3', v2.2.2.1 rq 0 (by simp [nq]) (by simp), r4]
        have gp2 : getI g2 (some rq) 3 1 = some R[l].2.1 := by rw [getI_of 1 r3', v2.2.2.1 rq 1 (by simp [nq]) (by simp), r5]
        by_cases z : ev R[l].2.2 = 0
        · have sm : prtO ev κ (R.take (l + 1)) = prtO ev κ (R.take l) := by rw [tk, prtO_app, hno]; simp only; rw [if_neg (fun q => q.2 z)]
          obtain ⟨s1, s2, s3⟩ := same (Or.inr sm)
          refine ⟨(sS (tlI pd ev R u l) 5, nI (hpN (mkB pd ev R u l) 5), nI (hpN (dcB pd ev R u l) 5), g2), ?_, by simp only; rw [s2], by simp only; rw [s3], by simp only; rw [s1], fr2⟩
          simp only [f_X4_countIn_L36.eq_2]
          simp (disch := (first | assumption | (simp only [FX_si, FX_sj, FX_sr, WX_si, WX_sj, WX_sr, FK_si, FK_sj, FK_sr]; assumption) | omega | decide)) only [gq0, gi1, n0, gqb, alr, n1, rdr, gk, i104, ea, c, bit, bn, gc, v1, z, nI_1, ↓reduceIte, if_true, if_false, i10, i01, eq_self, wq7, wq8, wq9, wq10, wrc, wgi, wpi, wpz, wn1, wn2, wn3, wn4, wr1, wr2, wr3, wr4, ww1, ww2, ww3, ww4, fgi, fgq, fpi, frc, at18, at19, at21, at22, at23, at24, at25, at26, at_neg, wat1, wat2, wat3, wat4, reduceCtorEq, bd_some, b1_some, b2_some, b3_some, b4_some, c1_eq, elim_inl, elim_inr, zok0, zok1, getQ_si, getQ_sj, getQ_sr, q8_0, q8_1, q8_2, q8_4, q8_7, q8_8, q8_9, q8_10, q8_11, q9_0, q9_3, q9_4, q9_8, q17_0, q17_1, q17_2, q17_4, q17_5, q17_6, q17_9, q17_10, q17_11, q27_4, q27_5, q27_6, q27_7, q27_8, q27_11, q45_0, q45_1, q45_11, q45_12, q45_13, q45_14, q45_15, q45_16, q45_17, q45_18, q45_19, q45_20, q45_21, q45_22, q45_23, q45_24, q45_30, q45_31, q45_32, q45_33, q45_34, q45_35, q45_36, q45_37, q45_38, q45_39, q45_43, q45_44, q45_45, q45_46, q45_47, q45_48, q45_52, q45_53, q45_54, q45_59, q45_60, q45_61, q45_62, q45_65, q45_67, q45_68, gi8, gj8, pi8, pz8, pj8, rc8, gi9, gj9, pi9, pz9, pj9, rc9, gi17, gj17, pi17, pz17, pj17, rc17, gi27, gj27, pi27, pz27, pj27, rc27, gi45, gj45, pi45, pz45, pj45, rc45, aln_si, aln_sj, aln_sq, rc_si, rc_sj, rc_sq, n0, n1, n10, n11, n12, n13, n14, n15, n16, n18, n19, n20, n21, n22, n23, n24, n25, n26, n29, n30, n31, n32, n33, n34, n35, n36, n37, n38, n39, n40, n42, n43, n44, n46, n47, n48, n49, n50, n51, n52, n53, n54, n55, n56, n57, n58, n59, n60, n61, n62, n63, n64, n65, n66, n67, n68, n69, n70, n71, n72, n73, n74, n75, n76, n77, n78, n79, n80, n81, n82, n83, n84, n85, n86, n87, r0, r1, r10, r11, r12, r13, r14, r15, r16, r18, r19, r20, r21, r22, r23, r24, r25, r26, r29, r30, r31, r32, r33, r34, r35, r36, r37, r38, r39, r40, r42, r43, r44, r46, r47, r48, r49, r50, r51, r52, r53, r54, r55, r56, r57, r58, r59, r60, r61, r62, r63, r64, r65, r66, r67, r68, r69, r70, r71, r72, r73, r74, r75, r76, r77, r78, r79, r80, r81, r82, r83, r84, r85, r86, r87, w10, w11, w12, w13, w18, w19, w20, w21, w22, w23, w24, w25, w26, w30, w31, w32, w33, w34, w35, w36, w38, w39, w40, w43, w44, w46, w47, w48, w49, w50, w51, w52, w53, w54, w55, w56, w57, w58, w59, w60, w61, w62, w63, w64, w65, w66, w67, w68, w69, w70, w71, w72, w73, w74, w75, w76, w77, w78, w79, w80, w81, w82, w83, w84, w85, w86, w87, hi_hit, hi_row, hi_col, hj_hit, hj_row, hj_col, hi_sj, hj_si, hq_si, hq_sj, hi_sq, hj_sq, hi_srh, hi_srm]
        · have sm : prtO ev κ (R.take (l + 1)) = some R[l].2.1 := by rw [tk, prtO_app, hno]; simp only; rw [if_pos ⟨eκ.symm, z⟩]
          have dk : dcB pd ev R u (l + 1) κ = true := by unfold dcB; rw [decide_eq_true c, sm]; rfl
          have od : ∀ i, i ≠ κ → dcB pd ev R u (l + 1) i = dcB pd ev R u l i := fun i hi' => by unfold dcB; rw [other i hi']
          have tk0 : tlI pd ev R u l κ = 0 := by unfold tlI; rw [hd, if_neg (by decide)]
          have tk1 : tlI pd ev R u (l + 1) κ = pd κ u * R[l].2.1 / 100 := by unfold tlI; rw [dk, if_pos rfl, sm]; rfl
          have ot : ∀ i, i ≠ κ → tlI pd ev R u (l + 1) i = tlI pd ev R u l i := fun i hi' => by unfold tlI; rw [od i hi', other i hi']
          have om : ∀ i, i ≠ κ → mkB pd ev R u (l + 1) i = mkB pd ev R u l i := fun i hi' => by unfold mkB; rw [od i hi', other i hi']
          have e1 := sS_put tk0 ot 5 o1
          rw [tk1] at e1
          have e3 := hpN_put dk od o1
          have mk0 : mkB pd ev R u l κ = false := by unfold mkB; rw [hd, Bool.false_and]
          by_cases y : R[l].2.1 ≤ 0
          · have e2 : hpN (mkB pd ev R u (l + 1)) 5 = hpN (mkB pd ev R u l) 5 := hpN_congr 5 fun i _ => by
              by_cases e : i = κ
              · subst e
                rw [mk0]
                unfold mkB
                rw [sm, show (some R[l].2.1).getD 0 = R[l].2.1 from rfl, decide_eq_false (fun q => q y), Bool.and_false]
              · exact om i e
            refine ⟨(sS (tlI pd ev R u l) 5 + pd κ u * R[l].2.1 / 100, nI (hpN (mkB pd ev R u l) 5) ||| 0, nI (hpN (dcB pd ev R u l) 5) ||| nI (2 ^ κ), g2), ?_, e1.symm, by simp only; rw [e2, Int32.or_zero], by simp only; rw [e3, bor_of], fr2⟩
            simp only [f_X4_countIn_L36.eq_2]
            simp (disch := (first | assumption | (simp only [FX_si, FX_sj, FX_sr, WX_si, WX_sj, WX_sr, FK_si, FK_sj, FK_sr]; assumption) | omega | decide)) only [gq0, gi1, n0, gqb, alr, n1, rdr, gk, i104, ea, c, bit, bn, gc, v1, z, gk2, gp2, dv100, y, shl_of, nI_1, ↓reduceIte, if_true, if_false, i10, i01, eq_self, wq7, wq8, wq9, wq10, wrc, wgi, wpi, wpz, wn1, wn2, wn3, wn4, wr1, wr2, wr3, wr4, ww1, ww2, ww3, ww4, fgi, fgq, fpi, frc, at18, at19, at21, at22, at23, at24, at25, at26, at_neg, wat1, wat2, wat3, wat4, reduceCtorEq, bd_some, b1_some, b2_some, b3_some, b4_some, c1_eq, elim_inl, elim_inr, zok0, zok1, getQ_si, getQ_sj, getQ_sr, q8_0, q8_1, q8_2, q8_4, q8_7, q8_8, q8_9, q8_10, q8_11, q9_0, q9_3, q9_4, q9_8, q17_0, q17_1, q17_2, q17_4, q17_5, q17_6, q17_9, q17_10, q17_11, q27_4, q27_5, q27_6, q27_7, q27_8, q27_11, q45_0, q45_1, q45_11, q45_12, q45_13, q45_14, q45_15, q45_16, q45_17, q45_18, q45_19, q45_20, q45_21, q45_22, q45_23, q45_24, q45_30, q45_31, q45_32, q45_33, q45_34, q45_35, q45_36, q45_37, q45_38, q45_39, q45_43, q45_44, q45_45, q45_46, q45_47, q45_48, q45_52, q45_53, q45_54, q45_59, q45_60, q45_61, q45_62, q45_65, q45_67, q45_68, gi8, gj8, pi8, pz8, pj8, rc8, gi9, gj9, pi9, pz9, pj9, rc9, gi17, gj17, pi17, pz17, pj17, rc17, gi27, gj27, pi27, pz27, pj27, rc27, gi45, gj45, pi45, pz45, pj45, rc45, aln_si, aln_sj, aln_sq, rc_si, rc_sj, rc_sq, n0, n1, n10, n11, n12, n13, n14, n15, n16, n18, n19, n20, n21, n22, n23, n24, n25, n26, n29, n30, n31, n32, n33, n34, n35, n36, n37, n38, n39, n40, n42, n43, n44, n46, n47, n48, n49, n50, n51, n52, n53, n54, n55, n56, n57, n58, n59, n60, n61, n62, n63, n64, n65, n66, n67, n68, n69, n70, n71, n72, n73, n74, n75, n76, n77, n78, n79, n80, n81, n82, n83, n84, n85, n86, n87, r0, r1, r10, r11, r12, r13, r14, r15, r16, r18, r19, r20, r21, r22, r23, r24, r25, r26, r29, r30, r31, r32, r33, r34, r35, r36, r37, r38, r39, r40, r42, r43, r44, r46, r47, r48, r49, r50, r51, r52, r53, r54, r55, r56, r57, r58, r59, r60, r61, r62, r63, r64, r65, r66, r67, r68, r69, r70, r71, r72, r73, r74, r75, r76, r77, r78, r79, r80, r81, r82, r83, r84, r85, r86, r87, w10, w11, w12, w13, w18, w19, w20, w21, w22, w23, w24, w25, w26, w30, w31, w32, w33, w34, w35, w36, w38, w39, w40, w43, w44, w46, w47, w48, w49, w50, w51, w52, w53, w54, w55, w56, w57, w58, w59, w60, w61, w62, w63, w64, w65, w66, w67, w68, w69, w70, w71, w72, w73, w74, w75, w76, w77, w78, w79, w80, w81, w82, w83, w84, w85, w86, w87, hi_hit, hi_row, hi_col, hj_hit, hj_row, hj_col, hi_sj, hj_si, hq_si, hq_sj, hi_sq, hj_sq, hi_srh, hi_srm]
          · have mk1 : mkB pd ev R u (l + 1) κ = true := by
              unfold mkB
              rw [dk, sm, show (some R[l].2.1).getD 0 = R[l].2.1 from rfl, decide_eq_true y]
              rfl
            have e2 := hpN_put mk1 om o1
            refine ⟨(sS (tlI pd ev R u l) 5 + pd κ u * R[l].2.1 / 100, nI (hpN (mkB pd ev R u l) 5) ||| nI (2 ^ κ), nI (hpN (dcB pd ev R u l) 5) ||| nI (2 ^ κ), g2), ?_, e1.symm, by simp only; rw [e2, bor_of], by simp only; rw [e3, bor_of], fr2⟩
            simp only [f_X4_countIn_L36.eq_2]
            simp (disch := (first | assumption | (simp only [FX_si, FX_sj, FX_sr, WX_si, WX_sj, WX_sr, FK_si, FK_sj, FK_sr]; assumption) | omega | decide)) only [gq0, gi1, n0, gqb, alr, n1, rdr, gk, i104, ea, c, bit, bn, gc, v1, z, gk2, gp2, dv100, y, shl_of, nI_1, ↓reduceIte, if_true, if_false, i10, i01, eq_self, wq7, wq8, wq9, wq10, wrc, wgi, wpi, wpz, wn1, wn2, wn3, wn4, wr1, wr2, wr3, wr4, ww1, ww2, ww3, ww4, fgi, fgq, fpi, frc, at18, at19, at21, at22, at23, at24, at25, at26, at_neg, wat1, wat2, wat3, wat4, reduceCtorEq, bd_some, b1_some, b2_some, b3_some, b4_some, c1_eq, elim_inl, elim_inr, zok0, zok1, getQ_si, getQ_sj, getQ_sr, q8_0, q8_1, q8_2, q8_4, q8_7, q8_8, q8_9, q8_10, q8_11, q9_0, q9_3, q9_4, q9_8, q17_0, q17_1, q17_2, q17_4, q17_5, q17_6, q17_9, q17_10, q17_11, q27_4, q27_5, q27_6, q27_7, q27_8, q27_11, q45_0, q45_1, q45_11, q45_12, q45_13, q45_14, q45_15, q45_16, q45_17, q45_18, q45_19, q45_20, q45_21, q45_22, q45_23, q45_24, q45_30, q45_31, q45_32, q45_33, q45_34, q45_35, q45_36, q45_37, q45_38, q45_39, q45_43, q45_44, q45_45, q45_46, q45_47, q45_48, q45_52, q45_53, q45_54, q45_59, q45_60, q45_61, q45_62, q45_65, q45_67, q45_68, gi8, gj8, pi8, pz8, pj8, rc8, gi9, gj9, pi9, pz9, pj9, rc9, gi17, gj17, pi17, pz17, pj17, rc17, gi27, gj27, pi27, pz27, pj27, rc27, gi45, gj45, pi45, pz45, pj45, rc45, aln_si, aln_sj, aln_sq, rc_si, rc_sj, rc_sq, n0, n1, n10, n11, n12, n13, n14, n15, n16, n18, n19, n20, n21, n22, n23, n24, n25, n26, n29, n30, n31, n32, n33, n34, n35, n36, n37, n38, n39, n40, n42, n43, n44, n46, n47, n48, n49, n50, n51, n52, n53, n54, n55, n56, n57, n58, n59, n60, n61, n62, n63, n64, n65, n66, n67, n68, n69, n70, n71, n72, n73, n74, n75, n76, n77, n78, n79, n80, n81, n82, n83, n84, n85, n86, n87, r0, r1, r10, r11, r12, r13, r14, r15, r16, r18, r19, r20, r21, r22, r23, r24, r25, r26, r29, r30, r31, r32, r33, r34, r35, r36, r37, r38, r39, r40, r42, r43, r44, r46, r47, r48, r49, r50, r51, r52, r53, r54, r55, r56, r57, r58, r59, r60, r61, r62, r63, r64, r65, r66, r67, r68, r69, r70, r71, r72, r73, r74, r75, r76, r77, r78, r79, r80, r81, r82, r83, r84, r85, r86, r87, w10, w11, w12, w13, w18, w19, w20, w21, w22, w23, w24, w25, w26, w30, w31, w32, w33, w34, w35, w36, w38, w39, w40, w43, w44, w46, w47, w48, w49, w50, w51, w52, w53, w54, w55, w56, w57, w58, w59, w60, w61, w62, w63, w64, w65, w66, w67, w68, w69, w70, w71, w72, w73, w74, w75, w76, w77, w78, w79, w80, w81, w82, w83, w84, w85, w86, w87, hi_hit, hi_row, hi_col, hj_hit, hj_row, hj_col, hi_sj, hj_si, hq_si, hq_sj, hi_sq, hj_sq, hi_srh, hi_srm]
  · have : ∀ i, tlI pd ev R u 0 i = 0 := fun i => by unfold tlI dcB; simp [prtO]
    rw [sS_congr 5 (f' := fun _ => 0) (fun i _ => this i)]
    rfl
  · have : ∀ i, mkB pd ev R u 0 i = false := fun i => by unfold mkB dcB; simp [prtO]
    rw [hpN_congr 5 (p' := fun _ => false) (fun i _ => this i)]
    rfl
  · have : ∀ i, dcB pd ev R u 0 i = false := fun i => by unfold dcB; simp [prtO]
    rw [hpN_congr 5 (p' := fun _ => false) (fun i _ => this i)]
    rfl
end Sa
