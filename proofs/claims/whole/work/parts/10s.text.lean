/-! Texts: two constants, known by their bytes. -/
def sVl (x : Option Nat) : Option (Option Nat) := if x = some 3 then some (some 5) else if x = some 4 then some (some 6) else none
def sCd (x : Option Nat) : Option Int32 := if x = some 3 ∨ x = some 4 then some 0 else none
def sAl (x : Option Nat) : Option Int32 := if x = some 5 then some 192 else if x = some 6 then some 10 else none
def sBy (x : Option Nat) : List Int32 := if x = some 5 then by0 else if x = some 6 then by1 else []
def sRd (x : Option Nat) (i : Int32) : Option Int32 := if 0 ≤ i ∧ i.toNatClampNeg < (sBy x).length then some ((sBy x).getD i.toNatClampNeg 0) else none
def rcS (x : Option Nat) : Option Nat := x.bind fun a => if a = 3 ∨ a = 4 then some a else none
def nwk (ty : FieldType) (v : Int32) : Option Unit := if narrow ty (.int v) = .int v then some () else none
theorem nwk_of {ty : FieldType} {v : Int32} {u : Unit} (e : nwk ty v = some u) : narrow ty (.int v) = .int v := by
  unfold nwk at e
  split at e
  · assumption
  · cases e
section MwT
variable {E : En} {M N : Mi} {d mc ms mc' ms' pc : Nat} {lo : List (Option Vv)} {st : List Vv} {h : Hp} {Q : Option Vv → Hp → Prop}
theorem ad_lt {a : Nat} (ha : a < 8) : ad E a = eo E a := if_pos ha
theorem ml_sVl {idx : Nat} {x v : Option Nat} (hdg : decode M.2.1 pc = .ok (.getfield idx, 3)) (hl : Cond.fieldLink M.1.cls idx "java/lang/String" "value" "[B" ∈ wG) (e : sVl x = some v) (kk : MW E M d mc ms (pc + 3) lo (vq v :: st) h Q) : MW E M d mc ms pc lo (vq x :: st) h Q := by
  intro p e1 R s m args below meth c H locs cells slots Qf ls C hR k1 k2 hS hV hL hE
  have kk' := kk p e1 R s m args below meth c H locs cells slots Qf ls C hR k1 k2 hS hV hL hE
  have hz := C.2.2.2.2.2.2.2.2.1.2.2.1.2.2.2.2.1
  unfold sVl at e
  split at e
  · rename_i hx
    subst hx
    cases e
    exact vk_getf C.1 C.2.1 (hz.1 0 (by decide)).2.2.1 hV C.2.2.2.2.1 (C.2.2.2.2.2.1 _ hl) (fun _ h9 => h9) hdg kk'
  · split at e
    · rename_i hx
      subst hx
      cases e
      exact vk_getf C.1 C.2.1 (hz.1 1 (by decide)).2.2.1 hV C.2.2.2.2.1 (C.2.2.2.2.2.1 _ hl) (fun _ h9 => h9) hdg kk'
    · cases e
theorem ml_sCd {idx : Nat} {x : Option Nat} {v : Int32} (hdg : decode M.2.1 pc = .ok (.getfield idx, 3)) (hl : Cond.fieldLink M.1.cls idx "java/lang/String" "coder" "B" ∈ wG) (e : sCd x = some v) (kk : MW E M d mc ms (pc + 3) lo (vi v :: st) h Q) : MW E M d mc ms pc lo (vq x :: st) h Q := by
  intro p e1 R s m args below meth c H locs cells slots Qf ls C hR k1 k2 hS hV hL hE
  have kk' := kk p e1 R s m args below meth c H locs cells slots Qf ls C hR k1 k2 hS hV hL hE
  have hz := C.2.2.2.2.2.2.2.2.1.2.2.1.2.2.2.2.1
  unfold sCd at e
  split at e
  · rename_i hx
    cases e
    rcases hx with rfl | rfl
    · exact vk_getf C.1 C.2.1 (hz.1 0 (by decide)).2.1 hV C.2.2.2.2.1 (C.2.2.2.2.2.1 _ hl) (fun _ h9 => h9) hdg kk'
    · exact vk_getf C.1 C.2.1 (hz.1 1 (by decide)).2.1 hV C.2.2.2.2.1 (C.2.2.2.2.2.1 _ hl) (fun _ h9 => h9) hdg kk'
  · cases e
theorem mw_getsC {idx : Nat} (hdg : decode M.2.1 pc = .ok (.getstatic idx, 3)) (hl : Cond.fieldLink M.1.cls idx "java/lang/String" "COMPACT_STRINGS" "Z" ∈ wG) (kk : MW E M d mc ms (pc + 3) lo (vi 1 :: st) h Q) : MW E M d mc ms pc lo st h Q := by
  intro p e R s m args below meth c H locs cells slots Qf ls C hR k1 k2 hS hV hL hE
  exact va_gets C.1 C.2.1 C.2.2.2.2.2.2.2.2.1.2.2.1.2.2.2.2.2.1 hV C.2.2.2.2.1 (C.2.2.2.2.2.1 _ hl) (fun _ h9 => h9) hdg (kk p e R s m args below meth c H locs cells slots Qf ls C hR k1 k2 hS hV hL hE)
theorem mw_getsF {idx : Nat} (hdg : decode M.2.1 pc = .ok (.getstatic idx, 3)) (hl : Cond.fieldLink M.1.cls idx "jdk/internal/util/Preconditions" "SIOOBE_FORMATTER" "Ljava/util/function/BiFunction;" ∈ wG) (kk : MW E M d mc ms (pc + 3) lo (vq (ez E) :: st) h Q) : MW E M d mc ms pc lo st h Q := by
  intro p e R s m args below meth c H locs cells slots Qf ls C hR k1 k2 hS hV hL hE
  exact va_gets C.1 C.2.1 C.2.2.2.2.2.2.2.2.1.2.2.1.2.2.2.2.2.2 hV C.2.2.2.2.1 (C.2.2.2.2.2.1 _ hl) (fun _ h9 => h9) hdg (kk p e R s m args below meth c H locs cells slots Qf ls C hR k1 k2 hS hV hL hE)
theorem ml_sAl {x : Option Nat} {v : Int32} (hdg : decode M.2.1 pc = .ok (.arraylength, 1)) (e : sAl x = some v) (kk : MW E M d mc ms (pc + 1) lo (vi v :: st) h Q) : MW E M d mc ms pc lo (vq x :: st) h Q := by
  intro p e1 R s m args below meth c H locs cells slots Qf ls C hR k1 k2 hS hV hL hE
  have kk' := kk p e1 R s m args below meth c H locs cells slots Qf ls C hR k1 k2 hS hV hL hE
  have hz := C.2.2.2.2.2.2.2.2.1.2.2.1.2.2.2.2.1
  unfold sAl at e
  split at e
  · rename_i hx
    subst hx
    cases e
    obtain ⟨cell, g1, g2, g3, g4, g5, g6, g7⟩ := (hz.1 0 (by decide)).2.2.2
    have hcell : H[ad E 5]? = some cell := (hV.2.1 _ (Array.getElem?_eq_some_iff.mp g1).1 g7).trans g1
    exact W.alen (n := 192) C.1 C.2.1 hcell g2 g5 rfl rfl hdg kk'
  · split at e
    · rename_i hx
      subst hx
      cases e
      obtain ⟨cell, g1, g2, g3, g4, g5, g6, g7⟩ := (hz.1 1 (by decide)).2.2.2
      have hcell : H[ad E 6]? = some cell := (hV.2.1 _ (Array.getElem?_eq_some_iff.mp g1).1 g7).trans g1
      exact W.alen (n := 10) C.1 C.2.1 hcell g2 g5 rfl rfl hdg kk'
    · cases e
theorem ml_sRd {x : Option Nat} {i v : Int32} (hdg : decode M.2.1 pc = .ok (.baload, 1)) (e : sRd x i = some v) (kk : MW E M d mc ms (pc + 1) lo (vi v :: st) h Q) : MW E M d mc ms pc lo (vi i :: vq x :: st) h Q := by
  intro p e1 R s m args below meth c H locs cells slots Qf ls C hR k1 k2 hS hV hL hE
  have kk' := kk p e1 R s m args below meth c H locs cells slots Qf ls C hR k1 k2 hS hV hL hE
  have hz := C.2.2.2.2.2.2.2.2.1.2.2.1.2.2.2.2.1
  unfold sRd at e
  split at e
  · rename_i hin
    cases e
    by_cases hx : x = some 5
    · subst hx
      have hin' : 0 ≤ i ∧ i.toNatClampNeg < 192 := hin
      obtain ⟨cell, g1, g2, g3, g4, g5, g6, g7⟩ := (hz.1 0 (by decide)).2.2.2
      have g4' : 192 ≤ cell.slots.size := g4
      have hcell : H[ad E 5]? = some cell := (hV.2.1 _ (Array.getElem?_eq_some_iff.mp g1).1 g7).trans g1
      exact W.bald C.1 C.2.1 hcell g2 g3 (fun q => by
        rcases q with q | q
        · exact absurd hin'.1 (Int32.not_le.mpr q)
        · have := hin'.2
          omega) (g6 _ hin'.2) rfl rfl hdg kk'
    · by_cases hx2 : x = some 6
      · subst hx2
        have hin' : 0 ≤ i ∧ i.toNatClampNeg < 10 := hin
        obtain ⟨cell, g1, g2, g3, g4, g5, g6, g7⟩ := (hz.1 1 (by decide)).2.2.2
        have g4' : 10 ≤ cell.slots.size := g4
        have hcell : H[ad E 6]? = some cell := (hV.2.1 _ (Array.getElem?_eq_some_iff.mp g1).1 g7).trans g1
        exact W.bald C.1 C.2.1 hcell g2 g3 (fun q => by
          rcases q with q | q
          · exact absurd hin'.1 (Int32.not_le.mpr q)
          · have := hin'.2
            omega) (g6 _ hin'.2) rfl rfl hdg kk'
      · unfold sBy at hin
        rw [if_neg hx, if_neg hx2] at hin
        exact absurd hin.2 (Nat.not_lt_zero _)
  · cases e
/-- a call of a method of a text -/
theorem ml_callVS {n idx b : Nat} {x : Option Nat} {r : Option Vv} {h1 : Hp} (As : List Vv) (hdg : decode M.2.1 pc = .ok (.invokevirtual idx, 3)) (hN : Mk N n) (hl : Cond.methodLink M.1.cls idx N.1 ∈ wG) (hin : Cond.instanceMethod N.1 ∈ wG) (hse : Cond.selects "java/lang/String" N.1 N.1 ∈ wG) (e : rcS x = some b) (hn : As.length = n) (hen : (enl (vq (some b) :: As)).length ≤ N.2.2.1) (hcat : (st.map vcat).sum ≤ 8)
    (hM : MC E N d mc' ms' (vq (some b) :: As) h (isR r h1)) (kk : MW E M (d + 1) mc ms (pc + 3) lo (r.toList ++ st) h1 Q) : MW E M (d + 1) (mc + mc') (ms + ms') pc lo (As.reverse ++ vq x :: st) h Q := by
  obtain ⟨a, e1, e2, e3⟩ := og e
  subst e3
  subst e1
  refine MW.call (Qz := isR r h1) ?_ (fun r' h' q => by rw [q.1, q.2]; exact kk)
  intro p e R s m args below meth c H locs cells slots ls C hR k1 k2 hS hV hL
  have hz := C.2.2.2.2.2.2.2.2.1.2.2.1.2.2.2.2.1
  refine ⟨_, va_runV (As := As.map (rv E)) (b := ad E a) (C := "java/lang/String") ⟨C.1, C.2.1, C.2.2.2.1, C.2.2.2.2.1, C.2.2.2.2.2.1⟩ (hM.met hN.1 hen) ⟨hN.call C hR hl, C.2.2.2.2.2.1 _ hin, C.2.2.2.2.2.1 _ hse⟩ ⟨cPc_blind, ?_, fun U hU hW => ⟨rfl, by rw [hU]; exact hS, C.2.2.2.2.2.2.2.2.1.go hV hU hW⟩⟩ rfl (by rw [List.length_map]; exact hn) hL.1 ?_ (lv_room (by rw [vcat_sum]; exact hcat)) hdg ⟨k1, k2⟩⟩
  · rcases e2 with rfl | rfl
    · exact vk_recv (i := 0) hz (by decide) hV
    · exact vk_recv (i := 1) hz (by decide) hV
  · simp [rv, va_rf]
end MwT
