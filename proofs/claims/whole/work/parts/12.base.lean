/-! What the written functions and their proofs lean on. -/
def fu : Nat := 1000000000000
theorem isR_rfl {r : Option Vv} {h : Hp} : isR r h r h := ⟨rfl, rfl⟩
theorem subL_nil {l : List (Option Vv)} : subL [] l := trivial
theorem subL_n {l' l : List (Option Vv)} {w : Option Vv} (h : subL l' l) : subL (none :: l') (w :: l) := h
theorem subL_s {l' l : List (Option Vv)} {v : Vv} (h : subL l' l) : subL (some v :: l') (some v :: l) := ⟨rfl, h⟩
def mxI (x y : Int32) : Int32 := if x < y then y else x
def mnI (x y : Int32) : Int32 := if y < x then y else x
/-- where a sign stands in a row of bytes -/
def ixf (c : Int32) : List Int32 → Int32 → Int32
  | [], _ => -1
  | b :: l, i => if b = c then i else ixf c l (i + 1)
def c1 {α1 β : Type} (f : α1 → Hp → Option β) : α1 × Hp → Option β := fun p => f p.1 p.2
def b1 {α1 β : Type} (o : Option (α1 × Hp)) (f : α1 → Hp → Option β) : Option β := o.bind fun p => f p.1 p.2
theorem ob1 {α1 β : Type} {o : Option (α1 × Hp)} {f : α1 → Hp → Option β} {z : β} (h : b1 o f = some z) : ∃ a1 h1, o = some (a1, h1) ∧ f a1 h1 = some z := by
  obtain ⟨p, h1, h2⟩ := ob h
  exact ⟨p.1, p.2, h1, h2⟩
def c2 {α1 α2 β : Type} (f : α1 → α2 → Hp → Option β) : α1 × α2 × Hp → Option β := fun p => f p.1 p.2.1 p.2.2
def b2 {α1 α2 β : Type} (o : Option (α1 × α2 × Hp)) (f : α1 → α2 → Hp → Option β) : Option β := o.bind fun p => f p.1 p.2.1 p.2.2
theorem ob2 {α1 α2 β : Type} {o : Option (α1 × α2 × Hp)} {f : α1 → α2 → Hp → Option β} {z : β} (h : b2 o f = some z) : ∃ a1 a2 h1, o = some (a1, a2, h1) ∧ f a1 a2 h1 = some z := by
  obtain ⟨p, h1, h2⟩ := ob h
  exact ⟨p.1, p.2.1, p.2.2, h1, h2⟩
def c3 {α1 α2 α3 β : Type} (f : α1 → α2 → α3 → Hp → Option β) : α1 × α2 × α3 × Hp → Option β := fun p => f p.1 p.2.1 p.2.2.1 p.2.2.2
def b3 {α1 α2 α3 β : Type} (o : Option (α1 × α2 × α3 × Hp)) (f : α1 → α2 → α3 → Hp → Option β) : Option β := o.bind fun p => f p.1 p.2.1 p.2.2.1 p.2.2.2
theorem ob3 {α1 α2 α3 β : Type} {o : Option (α1 × α2 × α3 × Hp)} {f : α1 → α2 → α3 → Hp → Option β} {z : β} (h : b3 o f = some z) : ∃ a1 a2 a3 h1, o = some (a1, a2, a3, h1) ∧ f a1 a2 a3 h1 = some z := by
  obtain ⟨p, h1, h2⟩ := ob h
  exact ⟨p.1, p.2.1, p.2.2.1, p.2.2.2, h1, h2⟩
def c4 {α1 α2 α3 α4 β : Type} (f : α1 → α2 → α3 → α4 → Hp → Option β) : α1 × α2 × α3 × α4 × Hp → Option β := fun p => f p.1 p.2.1 p.2.2.1 p.2.2.2.1 p.2.2.2.2
def b4 {α1 α2 α3 α4 β : Type} (o : Option (α1 × α2 × α3 × α4 × Hp)) (f : α1 → α2 → α3 → α4 → Hp → Option β) : Option β := o.bind fun p => f p.1 p.2.1 p.2.2.1 p.2.2.2.1 p.2.2.2.2
theorem ob4 {α1 α2 α3 α4 β : Type} {o : Option (α1 × α2 × α3 × α4 × Hp)} {f : α1 → α2 → α3 → α4 → Hp → Option β} {z : β} (h : b4 o f = some z) : ∃ a1 a2 a3 a4 h1, o = some (a1, a2, a3, a4, h1) ∧ f a1 a2 a3 a4 h1 = some z := by
  obtain ⟨p, h1, h2⟩ := ob h
  exact ⟨p.1, p.2.1, p.2.2.1, p.2.2.2.1, p.2.2.2.2, h1, h2⟩
def c5 {α1 α2 α3 α4 α5 β : Type} (f : α1 → α2 → α3 → α4 → α5 → Hp → Option β) : α1 × α2 × α3 × α4 × α5 × Hp → Option β := fun p => f p.1 p.2.1 p.2.2.1 p.2.2.2.1 p.2.2.2.2.1 p.2.2.2.2.2
def b5 {α1 α2 α3 α4 α5 β : Type} (o : Option (α1 × α2 × α3 × α4 × α5 × Hp)) (f : α1 → α2 → α3 → α4 → α5 → Hp → Option β) : Option β := o.bind fun p => f p.1 p.2.1 p.2.2.1 p.2.2.2.1 p.2.2.2.2.1 p.2.2.2.2.2
theorem ob5 {α1 α2 α3 α4 α5 β : Type} {o : Option (α1 × α2 × α3 × α4 × α5 × Hp)} {f : α1 → α2 → α3 → α4 → α5 → Hp → Option β} {z : β} (h : b5 o f = some z) : ∃ a1 a2 a3 a4 a5 h1, o = some (a1, a2, a3, a4, a5, h1) ∧ f a1 a2 a3 a4 a5 h1 = some z := by
  obtain ⟨p, h1, h2⟩ := ob h
  exact ⟨p.1, p.2.1, p.2.2.1, p.2.2.2.1, p.2.2.2.2.1, p.2.2.2.2.2, h1, h2⟩
def c6 {α1 α2 α3 α4 α5 α6 β : Type} (f : α1 → α2 → α3 → α4 → α5 → α6 → Hp → Option β) : α1 × α2 × α3 × α4 × α5 × α6 × Hp → Option β := fun p => f p.1 p.2.1 p.2.2.1 p.2.2.2.1 p.2.2.2.2.1 p.2.2.2.2.2.1 p.2.2.2.2.2.2
def b6 {α1 α2 α3 α4 α5 α6 β : Type} (o : Option (α1 × α2 × α3 × α4 × α5 × α6 × Hp)) (f : α1 → α2 → α3 → α4 → α5 → α6 → Hp → Option β) : Option β := o.bind fun p => f p.1 p.2.1 p.2.2.1 p.2.2.2.1 p.2.2.2.2.1 p.2.2.2.2.2.1 p.2.2.2.2.2.2
theorem ob6 {α1 α2 α3 α4 α5 α6 β : Type} {o : Option (α1 × α2 × α3 × α4 × α5 × α6 × Hp)} {f : α1 → α2 → α3 → α4 → α5 → α6 → Hp → Option β} {z : β} (h : b6 o f = some z) : ∃ a1 a2 a3 a4 a5 a6 h1, o = some (a1, a2, a3, a4, a5, a6, h1) ∧ f a1 a2 a3 a4 a5 a6 h1 = some z := by
  obtain ⟨p, h1, h2⟩ := ob h
  exact ⟨p.1, p.2.1, p.2.2.1, p.2.2.2.1, p.2.2.2.2.1, p.2.2.2.2.2.1, p.2.2.2.2.2.2, h1, h2⟩
def c7 {α1 α2 α3 α4 α5 α6 α7 β : Type} (f : α1 → α2 → α3 → α4 → α5 → α6 → α7 → Hp → Option β) : α1 × α2 × α3 × α4 × α5 × α6 × α7 × Hp → Option β := fun p => f p.1 p.2.1 p.2.2.1 p.2.2.2.1 p.2.2.2.2.1 p.2.2.2.2.2.1 p.2.2.2.2.2.2.1 p.2.2.2.2.2.2.2
def b7 {α1 α2 α3 α4 α5 α6 α7 β : Type} (o : Option (α1 × α2 × α3 × α4 × α5 × α6 × α7 × Hp)) (f : α1 → α2 → α3 → α4 → α5 → α6 → α7 → Hp → Option β) : Option β := o.bind fun p => f p.1 p.2.1 p.2.2.1 p.2.2.2.1 p.2.2.2.2.1 p.2.2.2.2.2.1 p.2.2.2.2.2.2.1 p.2.2.2.2.2.2.2
theorem ob7 {α1 α2 α3 α4 α5 α6 α7 β : Type} {o : Option (α1 × α2 × α3 × α4 × α5 × α6 × α7 × Hp)} {f : α1 → α2 → α3 → α4 → α5 → α6 → α7 → Hp → Option β} {z : β} (h : b7 o f = some z) : ∃ a1 a2 a3 a4 a5 a6 a7 h1, o = some (a1, a2, a3, a4, a5, a6, a7, h1) ∧ f a1 a2 a3 a4 a5 a6 a7 h1 = some z := by
  obtain ⟨p, h1, h2⟩ := ob h
  exact ⟨p.1, p.2.1, p.2.2.1, p.2.2.2.1, p.2.2.2.2.1, p.2.2.2.2.2.1, p.2.2.2.2.2.2.1, p.2.2.2.2.2.2.2, h1, h2⟩
def c8 {α1 α2 α3 α4 α5 α6 α7 α8 β : Type} (f : α1 → α2 → α3 → α4 → α5 → α6 → α7 → α8 → Hp → Option β) : α1 × α2 × α3 × α4 × α5 × α6 × α7 × α8 × Hp → Option β := fun p => f p.1 p.2.1 p.2.2.1 p.2.2.2.1 p.2.2.2.2.1 p.2.2.2.2.2.1 p.2.2.2.2.2.2.1 p.2.2.2.2.2.2.2.1 p.2.2.2.2.2.2.2.2
def b8 {α1 α2 α3 α4 α5 α6 α7 α8 β : Type} (o : Option (α1 × α2 × α3 × α4 × α5 × α6 × α7 × α8 × Hp)) (f : α1 → α2 → α3 → α4 → α5 → α6 → α7 → α8 → Hp → Option β) : Option β := o.bind fun p => f p.1 p.2.1 p.2.2.1 p.2.2.2.1 p.2.2.2.2.1 p.2.2.2.2.2.1 p.2.2.2.2.2.2.1 p.2.2.2.2.2.2.2.1 p.2.2.2.2.2.2.2.2
theorem ob8 {α1 α2 α3 α4 α5 α6 α7 α8 β : Type} {o : Option (α1 × α2 × α3 × α4 × α5 × α6 × α7 × α8 × Hp)} {f : α1 → α2 → α3 → α4 → α5 → α6 → α7 → α8 → Hp → Option β} {z : β} (h : b8 o f = some z) : ∃ a1 a2 a3 a4 a5 a6 a7 a8 h1, o = some (a1, a2, a3, a4, a5, a6, a7, a8, h1) ∧ f a1 a2 a3 a4 a5 a6 a7 a8 h1 = some z := by
  obtain ⟨p, h1, h2⟩ := ob h
  exact ⟨p.1, p.2.1, p.2.2.1, p.2.2.2.1, p.2.2.2.2.1, p.2.2.2.2.2.1, p.2.2.2.2.2.2.1, p.2.2.2.2.2.2.2.1, p.2.2.2.2.2.2.2.2, h1, h2⟩
theorem y0 {α : Type} {a b : α} (h : some a = some b) : b = a := (Option.some.inj h).symm
theorem y1 {α1 : Type} {a1 b1 : α1} {x y : Hp} (h : some (a1, x) = some (b1, y)) : b1 = a1 ∧ y = x := by
  have q := Option.some.inj h
  simp only [Prod.mk.injEq] at q
  obtain ⟨q0, q1⟩ := q
  exact ⟨q0.symm, q1.symm⟩
theorem y2 {α1 α2 : Type} {a1 b1 : α1} {a2 b2 : α2} {x y : Hp} (h : some (a1, a2, x) = some (b1, b2, y)) : b1 = a1 ∧ b2 = a2 ∧ y = x := by
  have q := Option.some.inj h
  simp only [Prod.mk.injEq] at q
  obtain ⟨q0, q1, q2⟩ := q
  exact ⟨q0.symm, q1.symm, q2.symm⟩
theorem y3 {α1 α2 α3 : Type} {a1 b1 : α1} {a2 b2 : α2} {a3 b3 : α3} {x y : Hp} (h : some (a1, a2, a3, x) = some (b1, b2, b3, y)) : b1 = a1 ∧ b2 = a2 ∧ b3 = a3 ∧ y = x := by
  have q := Option.some.inj h
  simp only [Prod.mk.injEq] at q
  obtain ⟨q0, q1, q2, q3⟩ := q
  exact ⟨q0.symm, q1.symm, q2.symm, q3.symm⟩
theorem y4 {α1 α2 α3 α4 : Type} {a1 b1 : α1} {a2 b2 : α2} {a3 b3 : α3} {a4 b4 : α4} {x y : Hp} (h : some (a1, a2, a3, a4, x) = some (b1, b2, b3, b4, y)) : b1 = a1 ∧ b2 = a2 ∧ b3 = a3 ∧ b4 = a4 ∧ y = x := by
  have q := Option.some.inj h
  simp only [Prod.mk.injEq] at q
  obtain ⟨q0, q1, q2, q3, q4⟩ := q
  exact ⟨q0.symm, q1.symm, q2.symm, q3.symm, q4.symm⟩
theorem y5 {α1 α2 α3 α4 α5 : Type} {a1 b1 : α1} {a2 b2 : α2} {a3 b3 : α3} {a4 b4 : α4} {a5 b5 : α5} {x y : Hp} (h : some (a1, a2, a3, a4, a5, x) = some (b1, b2, b3, b4, b5, y)) : b1 = a1 ∧ b2 = a2 ∧ b3 = a3 ∧ b4 = a4 ∧ b5 = a5 ∧ y = x := by
  have q := Option.some.inj h
  simp only [Prod.mk.injEq] at q
  obtain ⟨q0, q1, q2, q3, q4, q5⟩ := q
  exact ⟨q0.symm, q1.symm, q2.symm, q3.symm, q4.symm, q5.symm⟩
theorem y6 {α1 α2 α3 α4 α5 α6 : Type} {a1 b1 : α1} {a2 b2 : α2} {a3 b3 : α3} {a4 b4 : α4} {a5 b5 : α5} {a6 b6 : α6} {x y : Hp} (h : some (a1, a2, a3, a4, a5, a6, x) = some (b1, b2, b3, b4, b5, b6, y)) : b1 = a1 ∧ b2 = a2 ∧ b3 = a3 ∧ b4 = a4 ∧ b5 = a5 ∧ b6 = a6 ∧ y = x := by
  have q := Option.some.inj h
  simp only [Prod.mk.injEq] at q
  obtain ⟨q0, q1, q2, q3, q4, q5, q6⟩ := q
  exact ⟨q0.symm, q1.symm, q2.symm, q3.symm, q4.symm, q5.symm, q6.symm⟩
theorem y7 {α1 α2 α3 α4 α5 α6 α7 : Type} {a1 b1 : α1} {a2 b2 : α2} {a3 b3 : α3} {a4 b4 : α4} {a5 b5 : α5} {a6 b6 : α6} {a7 b7 : α7} {x y : Hp} (h : some (a1, a2, a3, a4, a5, a6, a7, x) = some (b1, b2, b3, b4, b5, b6, b7, y)) : b1 = a1 ∧ b2 = a2 ∧ b3 = a3 ∧ b4 = a4 ∧ b5 = a5 ∧ b6 = a6 ∧ b7 = a7 ∧ y = x := by
  have q := Option.some.inj h
  simp only [Prod.mk.injEq] at q
  obtain ⟨q0, q1, q2, q3, q4, q5, q6, q7⟩ := q
  exact ⟨q0.symm, q1.symm, q2.symm, q3.symm, q4.symm, q5.symm, q6.symm, q7.symm⟩
theorem y8 {α1 α2 α3 α4 α5 α6 α7 α8 : Type} {a1 b1 : α1} {a2 b2 : α2} {a3 b3 : α3} {a4 b4 : α4} {a5 b5 : α5} {a6 b6 : α6} {a7 b7 : α7} {a8 b8 : α8} {x y : Hp} (h : some (a1, a2, a3, a4, a5, a6, a7, a8, x) = some (b1, b2, b3, b4, b5, b6, b7, b8, y)) : b1 = a1 ∧ b2 = a2 ∧ b3 = a3 ∧ b4 = a4 ∧ b5 = a5 ∧ b6 = a6 ∧ b7 = a7 ∧ b8 = a8 ∧ y = x := by
  have q := Option.some.inj h
  simp only [Prod.mk.injEq] at q
  obtain ⟨q0, q1, q2, q3, q4, q5, q6, q7, q8⟩ := q
  exact ⟨q0.symm, q1.symm, q2.symm, q3.symm, q4.symm, q5.symm, q6.symm, q7.symm, q8.symm⟩
section MwH
variable {E : En} {M N : Mi} {d mc ms mc' ms' pc : Nat} {lo : List (Option Vv)} {st : List Vv} {h : Hp} {Q : Option Vv → Hp → Prop}
theorem ml_tableIn {dflt a b : Int} {offs : Array Int} {len : Nat} {x v : Int32} {off : Int} {tgt : Nat} (hdg : decode M.2.1 pc = .ok (.tableswitch dflt a b offs, len)) (hx : x = v) (h1 : ¬ v.toInt < a) (h2 : ¬ b < v.toInt) (ho : offs[(v.toInt - a).toNat]? = some off) (ht : (pc : Int) + off = (tgt : Int)) (k : MW E M d mc ms tgt lo st h Q) : MW E M d mc ms pc lo (vi x :: st) h Q := by
  subst hx
  exact mw_tableIn hdg h1 h2 ho ht k
theorem ml_lookIn {dflt : Int} {ps : Array (Int × Int)} {len : Nat} {x v : Int32} {off : Int} {tgt : Nat} (hdg : decode M.2.1 pc = .ok (.lookupswitch dflt ps, len)) (hp : (ps.toList.zip (ps.toList.drop 1)).all (fun (a, next) => a.1 < next.1) = true) (hx : x = v) (ho : Op.lookupswitch.offset ps.toList dflt v.toInt = off) (ht : (pc : Int) + off = (tgt : Int)) (k : MW E M d mc ms tgt lo st h Q) : MW E M d mc ms pc lo (vi x :: st) h Q := by
  subst hx
  exact mw_lookup hdg hp ho ht k
/-- none of the keys -/
def nok (x : Int32) : List (Int × Int) → Prop
  | [] => True
  | p :: l => ¬ x = Int32.ofInt p.1 ∧ nok x l
theorem nok_off {x : Int32} {dflt : Int} : ∀ l : List (Int × Int), nok x l → l.all (fun p => decide ((Int32.ofInt p.1).toInt = p.1)) = true → Op.lookupswitch.offset l dflt x.toInt = dflt
  | [], _, _ => rfl
  | p :: l, hn, ha => by
    simp only [List.all_cons, Bool.and_eq_true, decide_eq_true_eq] at ha
    have ih := nok_off (x := x) (dflt := dflt) l hn.2 ha.2
    have hne : ¬ p.1 = x.toInt := fun q => hn.1 (by rw [q]; exact (Int32.ofInt_toInt x).symm)
    obtain ⟨a, o⟩ := p
    rw [Op.lookupswitch.offset_cons, if_neg hne]
    exact ih
theorem ml_lookOut {dflt : Int} {ps : Array (Int × Int)} {len : Nat} {x : Int32} {tgt : Nat} (hdg : decode M.2.1 pc = .ok (.lookupswitch dflt ps, len)) (hp : (ps.toList.zip (ps.toList.drop 1)).all (fun (a, next) => a.1 < next.1) = true ∧ ps.toList.all (fun p => decide ((Int32.ofInt p.1).toInt = p.1)) = true) (hx : nok x ps.toList) (ht : (pc : Int) + dflt = (tgt : Int)) (k : MW E M d mc ms tgt lo st h Q) : MW E M d mc ms pc lo (vi x :: st) h Q := mw_lookup hdg hp.1 (nok_off _ hx hp.2) ht k
theorem ml_max {idx : Nat} {x y : Int32} (hdg : decode M.2.1 pc = .ok (.invokestatic idx, 3)) (hl : Cond.methodLink M.1.cls idx Lib.Math.max.name ∈ wG) (hcat : (st.map vcat).sum ≤ 8) (kk : MW E M (d + 1) mc ms (pc + 3) lo (vi (mxI x y) :: st) h Q) : MW E M (d + 1) mc ms pc lo (vi y :: vi x :: st) h Q := by
  intro p e R s m args below meth c H locs cells slots Qf ls C hR k1 k2 hS hV hL hE
  have hts := C.2.2.2.2.2.1
  have h1 := hR.1
  have h2 := hR.2
  exact va_mmax C.1 C.2.1 (by rw [C.2.2.2.1]; exact hL.1.symm) C.2.2.2.2.1 (hts _ hl) (hts _ max_st) (hts _ math_in) (hts _ max_cd) (by omega) (by rw [vcat_sum]; omega) (by omega) (by omega) hdg (kk p e R s m args below meth c H locs cells slots Qf ls C hR k1 k2 hS hV hL hE)
theorem ml_min {idx : Nat} {x y : Int32} (hdg : decode M.2.1 pc = .ok (.invokestatic idx, 3)) (hl : Cond.methodLink M.1.cls idx Lib.Math.min.name ∈ wG) (hcat : (st.map vcat).sum ≤ 8) (kk : MW E M (d + 1) mc ms (pc + 3) lo (vi (mnI x y) :: st) h Q) : MW E M (d + 1) mc ms pc lo (vi y :: vi x :: st) h Q := by
  intro p e R s m args below meth c H locs cells slots Qf ls C hR k1 k2 hS hV hL hE
  have hts := C.2.2.2.2.2.1
  have h1 := hR.1
  have h2 := hR.2
  exact va_mmin C.1 C.2.1 (by rw [C.2.2.2.1]; exact hL.1.symm) C.2.2.2.2.1 (hts _ hl) (hts _ min_st) (hts _ math_in) (hts _ min_cd) (by omega) (by rw [vcat_sum]; omega) (by omega) (by omega) hdg (kk p e R s m args below meth c H locs cells slots Qf ls C hR k1 k2 hS hV hL hE)
end MwH
