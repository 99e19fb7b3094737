/-! What the instructions do to pictures, as functions; none: the machine would throw, or the picture does not know. -/
def ob {α β : Type} {o : Option α} {f : α → Option β} {z : β} (h : o.bind f = some z) : ∃ v, o = some v ∧ f v = some z := Option.bind_eq_some_iff.mp h
def rc (h : Hp) (x : Option Nat) (ci : Nat) : Option Nat := x.bind fun a => if hk h a = some (ci, 0) then some a else none
def getI (h : Hp) (x : Option Nat) (ci k : Nat) : Option Int32 := x.bind fun a => if hk h a = some (ci, 0) then some (hi h a k) else none
def getJ (h : Hp) (x : Option Nat) (ci k : Nat) : Option Int64 := x.bind fun a => if hk h a = some (ci, 0) then some (hj h a k) else none
def getQ (h : Hp) (x : Option Nat) (ci k : Nat) : Option (Option Nat) := x.bind fun a => if hk h a = some (ci, 0) then some (hq h a k) else none
def putI (h : Hp) (x : Option Nat) (ci k : Nat) (v : Int32) : Option Hp := x.bind fun a => if hk h a = some (ci, 0) then some (si h a k v) else none
def putZ (h : Hp) (x : Option Nat) (ci k : Nat) (v : Int32) : Option Hp := x.bind fun a => if hk h a = some (ci, 0) ∧ (v = 0 ∨ v = 1) then some (si h a k v) else none
def putJ (h : Hp) (x : Option Nat) (ci k : Nat) (v : Int64) : Option Hp := x.bind fun a => if hk h a = some (ci, 0) then some (sj h a k v) else none
def putQ (h : Hp) (x : Option Nat) (ci k : Nat) (v : Option Nat) : Option Hp := x.bind fun a => if hk h a = some (ci, 0) then some (sq h a k v) else none
/-- an array's length, if it is of that kind -/
def arn (h : Hp) (x : Option Nat) (kd : Nat) : Option (Nat × Nat) := x.bind fun a => (hk h a).bind fun z => if z.1 = kd then some (a, z.2) else none
def aln (h : Hp) (x : Option Nat) (kd : Nat) : Option Int32 := (arn h x kd).map fun z => nI z.2
def inb (i : Int32) (n : Nat) : Prop := 0 ≤ i ∧ i.toNatClampNeg < n
theorem inb_vp {i : Int32} {n : Nat} (h : 0 ≤ i ∧ i.toNatClampNeg < n) : vp_in i n := by
  intro q
  rcases q with q | q
  · exact absurd h.1 (Int32.not_le.mpr q)
  · have := h.2
    omega
def rdI (h : Hp) (x : Option Nat) (kd : Nat) (i : Int32) : Option Int32 := (arn h x kd).bind fun z => if 0 ≤ i ∧ i.toNatClampNeg < z.2 then some (hi h z.1 i.toNatClampNeg) else none
def rdJ (h : Hp) (x : Option Nat) (kd : Nat) (i : Int32) : Option Int64 := (arn h x kd).bind fun z => if 0 ≤ i ∧ i.toNatClampNeg < z.2 then some (hj h z.1 i.toNatClampNeg) else none
def rdQ (h : Hp) (x : Option Nat) (kd : Nat) (i : Int32) : Option (Option Nat) := (arn h x kd).bind fun z => if 0 ≤ i ∧ i.toNatClampNeg < z.2 then some (hq h z.1 i.toNatClampNeg) else none
def wrI (h : Hp) (x : Option Nat) (i v : Int32) : Option Hp := (arn h x 10).bind fun z => if 8 ≤ z.1 ∧ 0 ≤ i ∧ i.toNatClampNeg < z.2 then some (si h z.1 i.toNatClampNeg v) else none
def wrB (h : Hp) (x : Option Nat) (i v : Int32) : Option Hp := (arn h x 9).bind fun z => if 0 ≤ i ∧ i.toNatClampNeg < z.2 then some (si h z.1 i.toNatClampNeg v.toInt8.toInt32) else none
def wrZ (h : Hp) (x : Option Nat) (i v : Int32) : Option Hp := (arn h x 12).bind fun z => if (v = 0 ∨ v = 1) ∧ 0 ≤ i ∧ i.toNatClampNeg < z.2 then some (si h z.1 i.toNatClampNeg v) else none
def wrJ (h : Hp) (x : Option Nat) (i : Int32) (v : Int64) : Option Hp := (arn h x 11).bind fun z => if 0 ≤ i ∧ i.toNatClampNeg < z.2 then some (sj h z.1 i.toNatClampNeg v) else none
def wrQ (h : Hp) (x : Option Nat) (kd : Nat) (i : Int32) (y : Option Nat) : Option Hp := (arn h x kd).bind fun z => (rc h y (cik kd)).bind fun _ => if 0 ≤ i ∧ i.toNatClampNeg < z.2 then some (sq h z.1 i.toNatClampNeg y) else none
/-- a new array's length -/
def nln (n : Int32) (most : Nat) : Option Nat := if 0 ≤ n ∧ n.toNatClampNeg ≤ most then some n.toNatClampNeg else none
def dvI (x y : Int32) : Option Int32 := if y = 0 then none else some (x / y)
def dvJ (x y : Int64) : Option Int64 := if y = 0 then none else some (x / y)
def zok (v : Int32) : Option Unit := if v = 0 ∨ v = 1 then some () else none
def cpI (h : Hp) (x0 : Option Nat) (i0 : Int32) (x : Option Nat) (i1 n : Int32) : Option Hp := (arn h x0 10).bind fun z0 => (arn h x 10).bind fun z =>
  if 8 ≤ z.1 ∧ 8 ≤ z0.1 ∧ z0.2 ≤ 65536 ∧ z.2 ≤ 65536 ∧ 0 ≤ i0 ∧ 0 ≤ i1 ∧ 0 ≤ n ∧ i0.toNatClampNeg + n.toNatClampNeg ≤ z0.2 ∧ i1.toNatClampNeg + n.toNatClampNeg ≤ z.2 then some (sr h z.1 (va_cpy (hi h z0.1) (hi h z.1) i0.toNatClampNeg i1.toNatClampNeg n.toNatClampNeg)) else none
theorem og {α β : Type} {o : Option α} {c : α → Prop} [DecidablePred c] {f : α → β} {z : β} (h : (o.bind fun a => if c a then some (f a) else none) = some z) : ∃ a, o = some a ∧ c a ∧ f a = z := by
  obtain ⟨a, h1, h2⟩ := ob h
  by_cases hc : c a
  · simp only [if_pos hc] at h2
    exact ⟨a, h1, hc, Option.some.inj h2⟩
  · simp only [if_neg hc] at h2
    cases h2
theorem rc_of {h : Hp} {x : Option Nat} {ci b : Nat} (e : rc h x ci = some b) : x = some b ∧ hk h b = some (ci, 0) := by
  obtain ⟨a, h1, h2, h3⟩ := og e
  subst h3
  exact ⟨h1, h2⟩
theorem arn_of {h : Hp} {x : Option Nat} {kd : Nat} {z : Nat × Nat} (e : arn h x kd = some z) : x = some z.1 ∧ hk h z.1 = some (kd, z.2) := by
  obtain ⟨a, h1, h2⟩ := ob e
  obtain ⟨y, h3, h4, h5⟩ := og h2
  subst h5
  subst h4
  exact ⟨h1, h3⟩
section MwG
variable {E : En} {M N : Mi} {d mc ms mc' ms' pc : Nat} {lo : List (Option Vv)} {st : List Vv} {h : Hp} {Q : Option Vv → Hp → Prop}
theorem ml_getI {idx ci k : Nat} {x : Option Nat} {v : Int32} (hdg : decode M.2.1 pc = .ok (.getfield idx, 3)) (hf : Fl M.1.cls idx ci k) (ht : fkd ci k = 0) (e : getI h x ci k = some v) (kk : MW E M d mc ms (pc + 3) lo (vi v :: st) h Q) : MW E M d mc ms pc lo (vq x :: st) h Q := by
  obtain ⟨a, h1, h2, h3⟩ := og e
  subst h3
  exact mw_getI hdg hf ht h1 h2 kk
theorem ml_getJ {idx ci k : Nat} {x : Option Nat} {v : Int64} (hdg : decode M.2.1 pc = .ok (.getfield idx, 3)) (hf : Fl M.1.cls idx ci k) (ht : fkd ci k = 1) (e : getJ h x ci k = some v) (kk : MW E M d mc ms (pc + 3) lo (vl v :: st) h Q) : MW E M d mc ms pc lo (vq x :: st) h Q := by
  obtain ⟨a, h1, h2, h3⟩ := og e
  subst h3
  exact mw_getJ hdg hf ht h1 h2 kk
theorem ml_getQ {idx ci k : Nat} {x v : Option Nat} (hdg : decode M.2.1 pc = .ok (.getfield idx, 3)) (hf : Fl M.1.cls idx ci k) (ht : fkd ci k = 2) (e : getQ h x ci k = some v) (kk : MW E M d mc ms (pc + 3) lo (vq v :: st) h Q) : MW E M d mc ms pc lo (vq x :: st) h Q := by
  obtain ⟨a, h1, h2, h3⟩ := og e
  subst h3
  exact mw_getQ hdg hf ht h1 h2 kk
theorem ml_putI {idx ci k : Nat} {x : Option Nat} {v : Int32} {h' : Hp} (hdg : decode M.2.1 pc = .ok (.putfield idx, 3)) (hf : Fl M.1.cls idx ci k) (hfin : Pf M ci k) (ht : fkd ci k = 0) (hty : tyc ci k = .int) (e : putI h x ci k v = some h') (kk : MW E M d mc ms (pc + 3) lo st h' Q) : MW E M d mc ms pc lo (vi v :: vq x :: st) h Q := by
  obtain ⟨a, h1, h2, h3⟩ := og e
  subst h3
  exact mw_putI hdg hf hfin ht hty h1 h2 kk
theorem ml_putZ {idx ci k : Nat} {x : Option Nat} {v : Int32} {h' : Hp} (hdg : decode M.2.1 pc = .ok (.putfield idx, 3)) (hf : Fl M.1.cls idx ci k) (hfin : Pf M ci k) (ht : fkd ci k = 0) (hty : tyc ci k = .boolean) (e : putZ h x ci k v = some h') (kk : MW E M d mc ms (pc + 3) lo st h' Q) : MW E M d mc ms pc lo (vi v :: vq x :: st) h Q := by
  obtain ⟨a, h1, h2, h3⟩ := og e
  subst h3
  exact mw_putZ hdg hf hfin ht hty h1 h2.1 h2.2 kk
theorem ml_putJ {idx ci k : Nat} {x : Option Nat} {v : Int64} {h' : Hp} (hdg : decode M.2.1 pc = .ok (.putfield idx, 3)) (hf : Fl M.1.cls idx ci k) (hfin : Pf M ci k) (ht : fkd ci k = 1) (hty : tyc ci k = .long) (e : putJ h x ci k v = some h') (kk : MW E M d mc ms (pc + 3) lo st h' Q) : MW E M d mc ms pc lo (vl v :: vq x :: st) h Q := by
  obtain ⟨a, h1, h2, h3⟩ := og e
  subst h3
  exact mw_putJ hdg hf hfin ht hty h1 h2 kk
theorem ml_putQ {idx ci k : Nat} {x v : Option Nat} {h' : Hp} (hdg : decode M.2.1 pc = .ok (.putfield idx, 3)) (hf : Fl M.1.cls idx ci k) (hfin : Pf M ci k) (ht : fkd ci k = 2) (hty : (∃ t, tyc ci k = .object t) ∨ ∃ t, tyc ci k = .array t) (e : putQ h x ci k v = some h') (kk : MW E M d mc ms (pc + 3) lo st h' Q) : MW E M d mc ms pc lo (vq v :: vq x :: st) h Q := by
  obtain ⟨a, h1, h2, h3⟩ := og e
  subst h3
  exact mw_putQ hdg hf hfin ht hty h1 h2 kk
theorem ml_alen {kd : Nat} {x : Option Nat} {v : Int32} (hdg : decode M.2.1 pc = .ok (.arraylength, 1)) (e : aln h x kd = some v) (h1 : ¬ kd < 9) (h2 : kd < 17) (kk : MW E M d mc ms (pc + 1) lo (vi v :: st) h Q) : MW E M d mc ms pc lo (vq x :: st) h Q := by
  obtain ⟨z, e1, e2⟩ := Option.map_eq_some_iff.mp e
  subst e2
  exact mw_alen hdg (arn_of e1).1 (arn_of e1).2 h1 h2 kk
theorem ml_iald {x : Option Nat} {i v : Int32} (hdg : decode M.2.1 pc = .ok (.iaload, 1)) (e : rdI h x 10 i = some v) (kk : MW E M d mc ms (pc + 1) lo (vi v :: st) h Q) : MW E M d mc ms pc lo (vi i :: vq x :: st) h Q := by
  obtain ⟨z, e1, e2, e3⟩ := og e
  subst e3
  exact mw_iald hdg (arn_of e1).1 (arn_of e1).2 (inb_vp e2) kk
theorem ml_bald {x : Option Nat} {i v : Int32} (hdg : decode M.2.1 pc = .ok (.baload, 1)) (e : rdI h x 9 i = some v) (kk : MW E M d mc ms (pc + 1) lo (vi v :: st) h Q) : MW E M d mc ms pc lo (vi i :: vq x :: st) h Q := by
  obtain ⟨z, e1, e2, e3⟩ := og e
  subst e3
  exact mw_bald hdg (arn_of e1).1 (arn_of e1).2 (inb_vp e2) kk
theorem ml_zald {x : Option Nat} {i v : Int32} (hdg : decode M.2.1 pc = .ok (.baload, 1)) (e : rdI h x 12 i = some v) (kk : MW E M d mc ms (pc + 1) lo (vi v :: st) h Q) : MW E M d mc ms pc lo (vi i :: vq x :: st) h Q := by
  obtain ⟨z, e1, e2, e3⟩ := og e
  subst e3
  exact mw_zald hdg (arn_of e1).1 (arn_of e1).2 (inb_vp e2) kk
theorem ml_lald {x : Option Nat} {i : Int32} {v : Int64} (hdg : decode M.2.1 pc = .ok (.laload, 1)) (e : rdJ h x 11 i = some v) (kk : MW E M d mc ms (pc + 1) lo (vl v :: st) h Q) : MW E M d mc ms pc lo (vi i :: vq x :: st) h Q := by
  obtain ⟨z, e1, e2, e3⟩ := og e
  subst e3
  exact mw_lald hdg (arn_of e1).1 (arn_of e1).2 (inb_vp e2) kk
theorem ml_aald {kd : Nat} {x v : Option Nat} {i : Int32} (hdg : decode M.2.1 pc = .ok (.aaload, 1)) (e : rdQ h x kd i = some v) (h1 : ¬ kd < 13) (h2 : kd < 17) (kk : MW E M d mc ms (pc + 1) lo (vq v :: st) h Q) : MW E M d mc ms pc lo (vi i :: vq x :: st) h Q := by
  obtain ⟨z, e1, e2, e3⟩ := og e
  subst e3
  exact mw_aald hdg (arn_of e1).1 (arn_of e1).2 h1 h2 (inb_vp e2) kk
theorem ml_iast {x : Option Nat} {i v : Int32} {h' : Hp} (hdg : decode M.2.1 pc = .ok (.iastore, 1)) (e : wrI h x i v = some h') (kk : MW E M d mc ms (pc + 1) lo st h' Q) : MW E M d mc ms pc lo (vi v :: vi i :: vq x :: st) h Q := by
  obtain ⟨z, e1, e2, e3⟩ := og e
  subst e3
  exact mw_iast hdg (arn_of e1).1 e2.1 (arn_of e1).2 (inb_vp e2.2) kk
theorem ml_bast {x : Option Nat} {i v : Int32} {h' : Hp} (hdg : decode M.2.1 pc = .ok (.bastore, 1)) (e : wrB h x i v = some h') (kk : MW E M d mc ms (pc + 1) lo st h' Q) : MW E M d mc ms pc lo (vi v :: vi i :: vq x :: st) h Q := by
  obtain ⟨z, e1, e2, e3⟩ := og e
  subst e3
  exact mw_bast hdg (arn_of e1).1 (arn_of e1).2 (inb_vp e2) kk
theorem ml_zast {x : Option Nat} {i v : Int32} {h' : Hp} (hdg : decode M.2.1 pc = .ok (.bastore, 1)) (e : wrZ h x i v = some h') (kk : MW E M d mc ms (pc + 1) lo st h' Q) : MW E M d mc ms pc lo (vi v :: vi i :: vq x :: st) h Q := by
  obtain ⟨z, e1, e2, e3⟩ := og e
  subst e3
  exact mw_zast hdg (arn_of e1).1 (arn_of e1).2 e2.1 (inb_vp e2.2) kk
theorem ml_last {x : Option Nat} {i : Int32} {v : Int64} {h' : Hp} (hdg : decode M.2.1 pc = .ok (.lastore, 1)) (e : wrJ h x i v = some h') (kk : MW E M d mc ms (pc + 1) lo st h' Q) : MW E M d mc ms pc lo (vl v :: vi i :: vq x :: st) h Q := by
  obtain ⟨z, e1, e2, e3⟩ := og e
  subst e3
  exact mw_last hdg (arn_of e1).1 (arn_of e1).2 (inb_vp e2) kk
theorem ml_aast {kd : Nat} {x y : Option Nat} {i : Int32} {h' : Hp} (hdg : decode M.2.1 pc = .ok (.aastore, 1)) (e : wrQ h x kd i y = some h') (h1 : ¬ kd < 13) (h2 : kd < 17) (kk : MW E M d mc ms (pc + 1) lo st h' Q) : MW E M d mc ms pc lo (vq y :: vi i :: vq x :: st) h Q := by
  obtain ⟨z, e1, e2⟩ := ob e
  obtain ⟨b, e3, e4, e5⟩ := og e2
  subst e5
  exact mw_aast hdg (arn_of e1).1 (arn_of e1).2 h1 h2 (inb_vp e4) (rc_of e3).1 (rc_of e3).2 kk
theorem nln_of {n : Int32} {most N : Nat} (hm : most ≤ 65536) (e : nln n most = some N) : n = nI N ∧ N ≤ most := by
  unfold nln at e
  split at e
  · rename_i hc
    cases e
    refine ⟨?_, hc.2⟩
    obtain ⟨j, hj, rfl⟩ := nI_of (x := n) (Int32.not_lt.mpr hc.1)
    rw [nI_clamp hj]
  · cases e
theorem ml_newa {kd N most : Nat} {at' : ArrayType} {n : Int32} (hdg : decode M.2.1 pc = .ok (.newarray at', 2)) (hty : newarray.typeOf at' = tyk kd) (hkd : kd = 9 ∨ kd = 10 ∨ kd = 11 ∨ kd = 12) (hw : Cond.arrayClass (newarray.typeOf at') ∈ wG) (hm : most ≤ 65536) (e : nln n most = some N)
    (kk : MW E M d mc ms (pc + 2) lo (vq (some h.1.length) :: st) (nw h kd N) Q) : MW E M d (mc + 1) (ms + most) pc lo (vi n :: st) h Q := by
  obtain ⟨e1, e2⟩ := nln_of hm e
  exact MW.more (Nat.le_refl _) (Nat.le_refl _) (Nat.add_le_add_left e2 ms) (mw_newa hdg hty hkd hw e1 (by omega) kk)
theorem ml_anew {kd idx N most : Nat} {n : Int32} (hdg : decode M.2.1 pc = .ok (.anewarray idx, 3)) (h1 : ¬ kd < 13) (h2 : kd < 17) (hw : Cond.classLink M.1.cls idx (clT (cik kd)).1 ∈ wG) (hm : most ≤ 65536) (e : nln n most = some N)
    (kk : MW E M d mc ms (pc + 3) lo (vq (some h.1.length) :: st) (nw h kd N) Q) : MW E M d (mc + 1) (ms + most) pc lo (vi n :: st) h Q := by
  obtain ⟨e1, e2⟩ := nln_of hm e
  exact MW.more (Nat.le_refl _) (Nat.le_refl _) (Nat.add_le_add_left e2 ms) (mw_anew hdg h1 h2 hw e1 (by omega) kk)
theorem ml_idiv {x y v : Int32} (hdg : decode M.2.1 pc = .ok (.idiv, 1)) (e : dvI x y = some v) (kk : MW E M d mc ms (pc + 1) lo (vi v :: st) h Q) : MW E M d mc ms pc lo (vi y :: vi x :: st) h Q := by
  unfold dvI at e
  split at e
  · cases e
  · rename_i hne
    cases e
    exact mw_idiv hdg hne kk
theorem ml_ldiv {x y v : Int64} (hdg : decode M.2.1 pc = .ok (.ldiv, 1)) (e : dvJ x y = some v) (kk : MW E M d mc ms (pc + 1) lo (vl v :: st) h Q) : MW E M d mc ms pc lo (vl y :: vl x :: st) h Q := by
  unfold dvJ at e
  split at e
  · cases e
  · rename_i hne
    cases e
    exact mw_ldiv hdg hne kk
theorem zok_of {v : Int32} {u : Unit} (e : zok v = some u) : narrow .boolean (.int v) = .int v := by
  unfold zok at e
  split at e
  · rename_i hc
    rcases hc with rfl | rfl <;> rfl
  · cases e
theorem ml_copy {idx : Nat} {x x0 : Option Nat} {i0 i1 n : Int32} {h' : Hp} (hdg : decode M.2.1 pc = .ok (.invokestatic idx, 3)) (hl : Cond.methodLink M.1.cls idx arraycopyName ∈ wG) (hnt : Cond.native arraycopyName ∈ wG) (hst : Cond.static arraycopyName ∈ wG) (hini : Cond.initialized "java/lang/System" ∈ wG) (hcat : (st.map vcat).sum ≤ 8) (e : cpI h x0 i0 x i1 n = some h')
    (kk : MW E M (d + 1) mc ms (pc + 3) lo st h' Q) : MW E M (d + 1) mc ms pc lo (vi n :: vi i1 :: vq x :: vi i0 :: vq x0 :: st) h Q := by
  obtain ⟨z0, e1, e2⟩ := ob e
  obtain ⟨z, e3, ⟨a1, a0, a2, a3, a4, a5, a6, a7, a8⟩, e5⟩ := og e2
  subst e5
  obtain ⟨j0, b0, rfl⟩ := nI_of (x := i0) (Int32.not_lt.mpr a4)
  obtain ⟨j1, b1, rfl⟩ := nI_of (x := i1) (Int32.not_lt.mpr a5)
  obtain ⟨j2, b2, rfl⟩ := nI_of (x := n) (Int32.not_lt.mpr a6)
  rw [nI_clamp b0, nI_clamp b2] at a7
  rw [nI_clamp b1, nI_clamp b2] at a8
  rw [nI_clamp b0, nI_clamp b1, nI_clamp b2] at kk
  exact mw_copy hdg hl hnt hst hini (arn_of e3).1 a1 (arn_of e3).2 (arn_of e1).1 a0 (arn_of e1).2 rfl rfl rfl a7 a8 a2 a3 hcat kk
/-- what a call answers, said exactly -/
def isR (r : Option Vv) (h1 : Hp) : Option Vv → Hp → Prop := fun r' h' => r' = r ∧ h' = h1
theorem ml_callV {n idx ci b : Nat} {x : Option Nat} {r : Option Vv} {h1 : Hp} (As : List Vv) (hdg : decode M.2.1 pc = .ok (.invokevirtual idx, 3)) (hN : Mk N n) (hl : Cond.methodLink M.1.cls idx N.1 ∈ wG) (hin : Cond.instanceMethod N.1 ∈ wG) (hse : Cond.selects (clT ci).1 N.1 N.1 ∈ wG) (hci : ci < 9) (e : rc h x ci = some b) (hn : As.length = n) (hen : (enl (vq (some b) :: As)).length ≤ N.2.2.1) (hcat : (st.map vcat).sum ≤ 8)
    (hM : MC E N d mc' ms' (vq (some b) :: As) h (isR r h1)) (kk : MW E M (d + 1) mc ms (pc + 3) lo (r.toList ++ st) h1 Q) : MW E M (d + 1) (mc + mc') (ms + ms') pc lo (As.reverse ++ vq x :: st) h Q :=
  mw_callV As hdg hN hl hin hse hci (rc_of e).1 (rc_of e).2 hn hen hcat hM (fun r' h' q => by rw [q.1, q.2]; exact kk)
theorem ml_callS {n idx : Nat} {r : Option Vv} {h1 : Hp} (As : List Vv) (hdg : decode M.2.1 pc = .ok (.invokestatic idx, 3)) (hN : Mk N n) (hl : Cond.methodLink M.1.cls idx N.1 ∈ wG) (hst : Cond.static N.1 ∈ wG) (hn : As.length = n) (hen : (enl As).length ≤ N.2.2.1) (hcat : (st.map vcat).sum ≤ 8)
    (hM : MC E N d mc' ms' As h (isR r h1)) (kk : MW E M (d + 1) mc ms (pc + 3) lo (r.toList ++ st) h1 Q) : MW E M (d + 1) (mc + mc') (ms + ms') pc lo (As.reverse ++ st) h Q :=
  mw_callS As hdg hN hl hst hn hen hcat hM (fun r' h' q => by rw [q.1, q.2]; exact kk)
theorem ml_callSN {n idx : Nat} {host : String} {r : Option Vv} {h1 : Hp} (As : List Vv) (hdg : decode M.2.1 pc = .ok (.invokestatic idx, 3)) (hN : Mk N n) (hl : Cond.methodLinkNest M.1.cls idx N.1 host ∈ wN) (hst : Cond.static N.1 ∈ wG) (hn : As.length = n) (hen : (enl As).length ≤ N.2.2.1) (hcat : (st.map vcat).sum ≤ 8)
    (hM : MC E N d mc' ms' As h (isR r h1)) (kk : MW E M (d + 1) mc ms (pc + 3) lo (r.toList ++ st) h1 Q) : MW E M (d + 1) (mc + mc') (ms + ms') pc lo (As.reverse ++ st) h Q :=
  mw_callSN As hdg hN hl hst hn hen hcat hM (fun r' h' q => by rw [q.1, q.2]; exact kk)
theorem ml_callI {n idx ci b : Nat} {x : Option Nat} {h1 : Hp} (As : List Vv) (hdg : decode M.2.1 pc = .ok (.invokespecial idx, 3)) (hN : Mk N n) (hr : N.2.2.2 = none) (hl : Cond.methodLink M.1.cls idx N.1 ∈ wG) (hin : Cond.instanceMethod N.1 ∈ wG) (hnm : N.1.name = "<init>") (e : rc h x ci = some b) (hn : As.length = n) (hen : (enl (vq (some b) :: As)).length ≤ N.2.2.1) (hcat : (st.map vcat).sum ≤ 8)
    (hM : MC E N d mc' ms' (vq (some b) :: As) h (isR none h1)) (kk : MW E M (d + 1) mc ms (pc + 3) lo st h1 Q) : MW E M (d + 1) (mc + mc') (ms + ms') pc lo (As.reverse ++ vq x :: st) h Q :=
  mw_callI As hdg hN hr hl hin hnm (rc_of e).1 hn hen hcat hM (fun r' h' q => by rw [q.1, q.2]; exact kk)
theorem ml_callIN {n idx ci b : Nat} {host : String} {x : Option Nat} {h1 : Hp} (As : List Vv) (hdg : decode M.2.1 pc = .ok (.invokespecial idx, 3)) (hN : Mk N n) (hr : N.2.2.2 = none) (hl : Cond.methodLinkNest M.1.cls idx N.1 host ∈ wN) (hin : Cond.instanceMethod N.1 ∈ wG) (hnm : N.1.name = "<init>") (e : rc h x ci = some b) (hn : As.length = n) (hen : (enl (vq (some b) :: As)).length ≤ N.2.2.1) (hcat : (st.map vcat).sum ≤ 8)
    (hM : MC E N d mc' ms' (vq (some b) :: As) h (isR none h1)) (kk : MW E M (d + 1) mc ms (pc + 3) lo st h1 Q) : MW E M (d + 1) (mc + mc') (ms + ms') pc lo (As.reverse ++ vq x :: st) h Q :=
  mw_callIN As hdg hN hr hl hin hnm (rc_of e).1 hn hen hcat hM (fun r' h' q => by rw [q.1, q.2]; exact kk)
theorem ml_objInit {idx ci b : Nat} {x : Option Nat} (hdg : decode M.2.1 pc = .ok (.invokespecial idx, 3)) (hl : Cond.methodLink M.1.cls idx Lib.objectInit ∈ wG) (hin : Cond.instanceMethod Lib.objectInit ∈ wG) (hcd : Cond.code Lib.objectInit ⟨#[0xb1]⟩ 1 none ∈ wG) (e : rc h x ci = some b) (hcat : (st.map vcat).sum ≤ 8)
    (kk : MW E M (d + 1) mc ms (pc + 3) lo st h Q) : MW E M (d + 1) mc ms pc lo (vq x :: st) h Q := mw_objInit hdg hl hin hcd (rc_of e).1 hcat kk
/-- fewer locals -/
def subL : List (Option Vv) → List (Option Vv) → Prop
  | [], _ => True
  | none :: l', _ :: l => subL l' l
  | some v :: l', w :: l => w = some v ∧ subL l' l
  | _ :: _, [] => False
theorem subL_at : ∀ (l' l : List (Option Vv)), subL l' l → ∀ (i : Nat) (v : Vv), l'[i]? = some (some v) → l[i]? = some (some v)
  | [], _, _, i, v, hv => by simp at hv
  | none :: l', w :: l, hs, i, v, hv => by
    cases i with
    | zero => simp at hv
    | succ i =>
      rw [List.getElem?_cons_succ] at hv ⊢
      exact subL_at l' l hs i v hv
  | some u :: l', w :: l, hs, i, v, hv => by
    cases i with
    | zero =>
      rw [List.getElem?_cons_zero] at hv ⊢
      rw [hs.1]
      exact hv
    | succ i =>
      rw [List.getElem?_cons_succ] at hv ⊢
      exact subL_at l' l hs.2 i v hv
  | none :: _, [], hs, _, _, _ => False.elim hs
  | some _ :: _, [], hs, _, _, _ => False.elim hs
theorem MW.sub {lo' : List (Option Vv)} (hs : subL lo' lo) (k : MW E M d mc ms pc lo' st h Q) : MW E M d mc ms pc lo st h Q := by
  intro p e R s m args below meth c H locs cells slots Qf ls C hR h1 h2 hS hV hL hE
  exact k p e R s m args below meth c H locs cells slots Qf ls C hR h1 h2 hS hV ⟨hL.1, hL.2.1, fun i v hv => hL.2.2 i v (subL_at lo' lo hs i v hv)⟩ hE
end MwG
