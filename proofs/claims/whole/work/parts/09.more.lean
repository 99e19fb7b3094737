section MwF
variable {E : En} {M N : Mi} {d mc ms mc' ms' pc : Nat} {lo : List (Option Vv)} {st : List Vv} {h : Hp} {Q Qz : Option Vv → Hp → Prop}
theorem Mk.callN {n : Nat} (hN : Mk N n) {p : Program} {R : Room} {s : State} {m : MethodId} {args : Array Value} {meth : Method} {c : Code} {idx : Nat} {host : String} (C : Cx E M p s m args meth c) (hR : Rm R (d + 1)) (hl : Cond.methodLinkNest M.1.cls idx N.1 host ∈ wN) :
    va_CN R s args M.1.cls idx N.1 host N.2.1 N.2.2.1 N.2.2.2 (wS N) (cRm d mc ms) mc ms n := by
  have hts := C.2.2.2.2.2.1
  refine va_cnB n hts (wS_good hN.2.2.2.2.1) rfl rfl rfl (C.2.2.2.2.2.2.2.2.1.2.1 _ hl) (hts _ hN.2.2.2.2.2) ⟨hN.2.1.1, hN.2.1.2, hN.2.2.1⟩ ⟨hR.1, ?_⟩
  have h1 := hN.2.2.2.1
  have h2 := hR.2
  show 8 + (N.2.2.1 + 11) + d * 64 ≤ R.locals
  omega
/-- a nest mate's static method -/
theorem mw_callSN {n idx : Nat} {host : String} (As : List Vv) (hdg : decode M.2.1 pc = .ok (.invokestatic idx, 3)) (hN : Mk N n) (hl : Cond.methodLinkNest M.1.cls idx N.1 host ∈ wN) (hst : Cond.static N.1 ∈ wG) (hn : As.length = n) (hen : (enl As).length ≤ N.2.2.1) (hcat : (st.map vcat).sum ≤ 8)
    (hM : MC E N d mc' ms' As h Qz) (kk : ∀ r h', Qz r h' → MW E M (d + 1) mc ms (pc + 3) lo (r.toList ++ st) h' Q) : MW E M (d + 1) (mc + mc') (ms + ms') pc lo (As.reverse ++ st) h Q := by
  refine MW.call (Qz := Qz) ?_ kk
  intro p e R s m args below meth c H locs cells slots ls C hR k1 k2 hS hV hL
  refine ⟨_, va_runSN (As := As.map (rv E)) ⟨C.1, C.2.1, C.2.2.2.1, C.2.2.2.2.1, C.2.2.2.2.2.1⟩ (hM.met hN.1 hen) ⟨hN.callN C hR hl, C.2.2.2.2.2.1 _ hst, trivial⟩ ⟨cPc_blind, fun U hU hW => ⟨rfl, by rw [hU]; exact hS, C.2.2.2.2.2.2.2.2.1.go hV hU hW⟩⟩ rfl (by rw [List.length_map]; exact hn) hL.1 ?_ (lv_room (by rw [vcat_sum]; exact hcat)) hdg ⟨k1, k2⟩⟩
  simp
/-- a nest mate's constructor -/
theorem mw_callIN {n idx b : Nat} {host : String} {x : Option Nat} (As : List Vv) (hdg : decode M.2.1 pc = .ok (.invokespecial idx, 3)) (hN : Mk N n) (hr : N.2.2.2 = none) (hl : Cond.methodLinkNest M.1.cls idx N.1 host ∈ wN) (hin : Cond.instanceMethod N.1 ∈ wG) (hnm : N.1.name = "<init>") (hx : x = some b) (hn : As.length = n) (hen : (enl (vq (some b) :: As)).length ≤ N.2.2.1) (hcat : (st.map vcat).sum ≤ 8)
    (hM : MC E N d mc' ms' (vq (some b) :: As) h Qz) (kk : ∀ r h', Qz r h' → MW E M (d + 1) mc ms (pc + 3) lo (r.toList ++ st) h' Q) : MW E M (d + 1) (mc + mc') (ms + ms') pc lo (As.reverse ++ vq x :: st) h Q := by
  subst hx
  refine MW.call (Qz := Qz) ?_ kk
  intro p e R s m args below meth c H locs cells slots ls C hR k1 k2 hS hV hL
  have hcb := hN.callN (mc := mc') (ms := ms') C hR hl
  rw [hr] at hcb
  refine ⟨_, va_runIN (As := As.map (rv E)) (b := ad E b) ⟨C.1, C.2.1, C.2.2.2.1, C.2.2.2.2.1, C.2.2.2.2.2.1⟩ (hM.met hN.1 hen) ⟨hcb, hnm, C.2.2.2.2.2.1 _ hin⟩ ⟨cPc_blind, fun U hU hW => ⟨rfl, by rw [hU]; exact hS, C.2.2.2.2.2.2.2.2.1.go hV hU hW⟩⟩ rfl (by rw [List.length_map]; exact hn) hL.1 ?_ (lv_room (by rw [vcat_sum]; exact hcat)) hdg ⟨k1, k2⟩⟩
  simp [rv, va_rf]
/-- Object's constructor -/
theorem mw_objInit {idx b : Nat} {x : Option Nat} (hdg : decode M.2.1 pc = .ok (.invokespecial idx, 3)) (hl : Cond.methodLink M.1.cls idx Lib.objectInit ∈ wG) (hin : Cond.instanceMethod Lib.objectInit ∈ wG) (hcd : Cond.code Lib.objectInit ⟨#[0xb1]⟩ 1 none ∈ wG) (hx : x = some b) (hcat : (st.map vcat).sum ≤ 8)
    (kk : MW E M (d + 1) mc ms (pc + 3) lo st h Q) : MW E M (d + 1) mc ms pc lo (vq x :: st) h Q := by
  subst hx
  intro p e R s m args below meth c H locs cells slots Qf ls C hR k1 k2 hS hV hL hE
  have hts := C.2.2.2.2.2.1
  have h2 := hR.2
  have h1 := hR.1
  have hroom : 2 * (F0 m pc ls ([] : List Value)).monitorRoom + ((st.map (rv E)).map fun v => v.category).sum ≤ 8 := lv_room (by rw [vcat_sum]; exact hcat)
  refine W.objInit C.1 C.2.1 C.2.2.2.2.1 (hts _ hl) (hts _ hin) (hts _ hcd) rfl (by rw [C.2.2.2.1]; exact hL.1) rfl hdg (by omega) ?_ (kk p e R s m args below meth c H locs cells slots Qf ls C hR k1 k2 hS hV hL hE)
  have : 2 * (F0 m pc ls ([] : List Value)).monitorRoom + ((st.map (rv E)).map fun v => v.category).sum + 12 ≤ R.locals := by omega
  exact this
/-- the two static rows -/
theorem mw_gets0 {idx : Nat} (hdg : decode M.2.1 pc = .ok (.getstatic idx, 3)) (hl : Cond.fieldLink M.1.cls idx RX2 "LEAST" "[I" ∈ wG) (kk : MW E M d mc ms (pc + 3) lo (vq (some 0) :: st) h Q) : MW E M d mc ms pc lo st h Q := by
  intro p e R s m args below meth c H locs cells slots Qf ls C hR k1 k2 hS hV hL hE
  exact va_gets C.1 C.2.1 C.2.2.2.2.2.2.2.2.1.2.2.1.1 hV C.2.2.2.2.1 (C.2.2.2.2.2.1 _ hl) (fun _ h9 => h9) hdg (kk p e R s m args below meth c H locs cells slots Qf ls C hR k1 k2 hS hV hL hE)
theorem mw_gets1 {idx : Nat} (hdg : decode M.2.1 pc = .ok (.getstatic idx, 3)) (hl : Cond.fieldLink M.1.cls idx RX2 "MOST" "[I" ∈ wG) (kk : MW E M d mc ms (pc + 3) lo (vq (some 1) :: st) h Q) : MW E M d mc ms pc lo st h Q := by
  intro p e R s m args below meth c H locs cells slots Qf ls C hR k1 k2 hS hV hL hE
  exact va_gets C.1 C.2.1 C.2.2.2.2.2.2.2.2.1.2.2.1.2.1 hV C.2.2.2.2.1 (C.2.2.2.2.2.1 _ hl) (fun _ h9 => h9) hdg (kk p e R s m args below meth c H locs cells slots Qf ls C hR k1 k2 hS hV hL hE)
/-- the two texts -/
theorem mw_ldcS0 (hcl : M.1.cls = RX2) (hdg : decode M.2.1 pc = .ok (.ldc 107, 2)) (kk : MW E M d mc ms (pc + 2) lo (vq (some 3) :: st) h Q) : MW E M d mc ms pc lo st h Q := by
  intro p e R s m args below meth c H locs cells slots Qf ls C hR k1 k2 hS hV hL hE
  exact va_ldcS C.1 C.2.1 (by rw [← hcl]; exact C.2.2.2.2.1) C.2.2.2.2.2.2.2.2.1.2.2.1.2.2.1 hdg (kk p e R s m args below meth c H locs cells slots Qf ls C hR k1 k2 hS hV hL hE)
theorem mw_ldcS1 (hcl : M.1.cls = RX2) (hdg : decode M.2.1 pc = .ok (.ldc 96, 2)) (kk : MW E M d mc ms (pc + 2) lo (vq (some 4) :: st) h Q) : MW E M d mc ms pc lo st h Q := by
  intro p e R s m args below meth c H locs cells slots Qf ls C hR k1 k2 hS hV hL hE
  exact va_ldcS C.1 C.2.1 (by rw [← hcl]; exact C.2.2.2.2.1) C.2.2.2.2.2.2.2.2.1.2.2.1.2.2.2.1 hdg (kk p e R s m args below meth c H locs cells slots Qf ls C hR k1 k2 hS hV hL hE)
/-- a stretch of ints is copied -/
theorem ce_sr {a b : Nat} {g : Nat → Int32} (hb : b ≠ a) (x : Nat × Nat) : ce E (sr h a g) x b = ce E h x b := ce_congr (fun j => if_neg hb) (fun _ => rfl) (fun _ => rfl)
theorem hi_sr (a : Nat) (g : Nat → Int32) : hi (sr h a g) a = g := funext fun j => if_pos rfl
theorem mw_copy {idx a a0 n n0 i0 i1 k : Nat} {x x0 : Option Nat} {v0 v1 v2 : Int32} (hdg : decode M.2.1 pc = .ok (.invokestatic idx, 3)) (hl : Cond.methodLink M.1.cls idx arraycopyName ∈ wG) (hnt : Cond.native arraycopyName ∈ wG) (hst : Cond.static arraycopyName ∈ wG) (hini : Cond.initialized "java/lang/System" ∈ wG)
    (hx : x = some a) (ha : 8 ≤ a) (hkd : hk h a = some (10, n)) (hx0 : x0 = some a0) (ha0 : 8 ≤ a0) (hkd0 : hk h a0 = some (10, n0)) (hv0 : v0 = nI i0) (hv1 : v1 = nI i1) (hv2 : v2 = nI k) (h4 : i0 + k ≤ n0) (h5 : i1 + k ≤ n) (hn0 : n0 ≤ 65536) (hn1 : n ≤ 65536) (hcat : (st.map vcat).sum ≤ 8)
    (kk : MW E M (d + 1) mc ms (pc + 3) lo st (sr h a (va_cpy (hi h a0) (hi h a) i0 i1 k)) Q) : MW E M (d + 1) mc ms pc lo (vi v2 :: vi v1 :: vq x :: vi v0 :: vq x0 :: st) h Q := by
  subst hx
  subst hx0
  intro p e R s m args below meth c H locs cells slots Qf ls C hR k1 k2 hS hV hL hE
  have hts := C.2.2.2.2.2.1
  have c0 : v0.toNatClampNeg = i0 := by rw [hv0]; exact nI_clamp (by omega)
  have c1 : v1.toNatClampNeg = i1 := by rw [hv1]; exact nI_clamp (by omega)
  have c2 : v2.toNatClampNeg = k := by rw [hv2]; exact nI_clamp (by omega)
  have t0 : v0.toInt = (i0 : Int) := by rw [hv0]; exact nI_toInt (by omega)
  have t1 : v1.toInt = (i1 : Int) := by rw [hv1]; exact nI_toInt (by omega)
  have t2 : v2.toInt = (k : Int) := by rw [hv2]; exact nI_toInt (by omega)
  have p0 : ¬ v0 < 0 := by rw [hv0]; exact nI_pos (by omega)
  have p1 : ¬ v1 < 0 := by rw [hv1]; exact nI_pos (by omega)
  have p2 : ¬ v2 < 0 := by rw [hv2]; exact nI_pos (by omega)
  have hA := (C.2.2.2.2.2.2.2.2.1.arr (kd := 10) (by decide) (by decide)).1
  have hc0 : H[ad E a0]? = some (arrV (ec E 10) n0 (fun j => .int (hi h a0 j))) := hS.arr ha0 hkd0 (by decide) (by decide)
  have hc1 : H[ad E a]? = some (arrV (ec E 10) n (fun j => .int (hi h a j))) := hS.arr ha hkd (by decide) (by decide)
  obtain ⟨-, kA, hkA, cmA, hkkA⟩ := hA n0 (fun j => .int (hi h a0 j))
  have hkA' : s.vm.classes[ec E 10]? = some kA := hkA
  have hroom : 2 * (F0 m pc ls ([] : List Value)).monitorRoom + ((st.map (rv E)).map fun v => v.category).sum ≤ 8 := lv_room (by rw [vcat_sum]; exact hcat)
  have hR2 := hR.2
  have hR1 := hR.1
  intro T hT X
  obtain ⟨vm', X', step⟩ := X.arraycopy C.1 C.2.2.2.2.1 (hts _ hl) (hts _ hnt) (hts _ hst) (hts _ hini) (src := ad E a0) (dst := ad E a) (srcPos := v0) (destPos := v1) (n := v2) (by rw [hT]; exact hc0) (by rw [hT]; exact hc1)
    (fun _ q => by cases q) (fun _ q => by cases q) (fun q => by cases q) (fun q => by cases q) hkA' hkA' hkkA hkkA rfl p0 p1 p2 (by rw [t0, t2, arrV_size]; omega) (by rw [t1, t2, arrV_size]; omega)
    (fun vm₁ _ i hi' => by
      have e : (arrV (ec E 10) n0 (fun j => Value.int (hi h a0 j))).slots.getD (v0.toNatClampNeg + i) .null = .int (hi h a0 (v0.toNatClampNeg + i)) := by
        rw [Array.getD_eq_getD_getElem?, arrV_read _ _ (by omega)]
        rfl
      rw [e]
      exact ⟨rfl, trivial⟩)
    (g := F0 m pc ls (.int v2 :: .int v1 :: .ref (ad E a) :: .int v0 :: .ref (ad E a0) :: st.map (rv E))) rfl (by rw [C.2.2.2.1]; exact hL.1) (rest := st.map (rv E)) rfl (by rw [C.2.1]; exact hdg) (by omega) (by
      have e7 : nativeFrameWords "java/lang/System" "arraycopy" 5 = 7 := by decide +kernel
      have : 2 * (F0 m pc ls ([] : List Value)).monitorRoom + ((st.map (rv E)).map fun v => v.category).sum + (7 + 11) ≤ R.locals := by omega
      rw [e7]
      exact this)
  have e1 : copied (arrV (ec E 10) n0 (fun j => Value.int (hi h a0 j))) (arrV (ec E 10) n (fun j => Value.int (hi h a j))) v0 v1 v2 = arrV (ec E 10) n (fun j => .int (va_cpy (hi h a0) (hi h a) i0 i1 k j)) := by
    have := va_copied (n1 := n) (dp := v1.toNatClampNeg) (fun z => Value.int z) (ec E 10) (ec E 10) (hi h a0) (hi h a) (sp := v0.toNatClampNeg) (n := v2.toNatClampNeg) (n0 := n0) (by omega)
    rw [c0, c1, c2] at this
    rw [← this]
    unfold copied
    rw [c0, c1, c2]
  rw [e1] at X' step
  generalize hT1 : (T.setVm vm').setCell (ad E a) (arrV (ec E 10) n (fun j => Value.int (va_cpy (hi h a0) (hi h a) i0 i1 k j))) = T1 at X' step
  have hl1 : ad E a < H.size := (Array.getElem?_eq_some_iff.mp hc1).1
  have hh : T1.heap = H.setIfInBounds (ad E a) (arrV (ec E 10) n (fun j => Value.int (va_cpy (hi h a0) (hi h a) i0 i1 k j))) := by rw [← hT1, ← hT]; rfl
  have oq : ∀ q : Nat, q ≠ ad E a → T1.heap[q]? = H[q]? := fun q hq => by rw [hh]; simp [Array.getElem?_setIfInBounds, Ne.symm hq]
  have oz : T1.heap.size = H.size := by rw [hh]; simp
  have on : T1.heap[ad E a]? = some (arrV (ec E 10) n (fun j => Value.int (va_cpy (hi h a0) (hi h a) i0 i1 k j))) := by rw [hh]; simp [Array.getElem?_setIfInBounds, hl1]
  have hS' : Sm E (sr h a (va_cpy (hi h a0) (hi h a) i0 i1 k)) T1.heap := by
    refine hS.upd rfl ha (fun b hb k => if_neg hb) (fun b hb x => ce_sr hb x) oz oq (fun x0 hx0 => ?_)
    have hx1 : x0 = (10, n) := Option.some.inj (hx0.symm.trans hkd)
    subst hx1
    rw [ce_arr (x := (10, n)) (by simp)]
    show T1.heap[ad E a]? = some (vp_cell (ec E 10) (n, cnt E _ 10 a))
    rw [on, cnt_i (by decide) (by decide), vp_cell_i, hi_sr]
  have hV' : va_S (AA E) s.heap T1.heap (locs ++ ((arrV (ec E 10) n0 (fun j => Value.int (hi h a0 j))).stretch v0.toNatClampNeg v2.toNatClampNeg).zipIdx.map fun q => ⟨ad E a, v1.toNatClampNeg + q.2⟩) := by
    refine ⟨by rw [oz]; exact hV.1, fun q g1 g2 => ?_, fun q hq => ?_⟩
    · rw [oq q (fun e => g2 (by rw [e]; exact Sm.AA ha))]
      exact hV.2.1 q g1 g2
    · rcases List.mem_append.mp hq with q1 | q1
      · exact hV.2.2 q q1
      · obtain ⟨z, -, hz⟩ := List.mem_map.mp q1
        rw [← hz]
        exact Sm.AA ha
  obtain ⟨t, a1, b1⟩ := kk p e R s m args below meth c T1.heap _ cells slots Qf ls C hR k1 k2 hS' hV' hL hE T1 rfl X'
  exact ⟨t, step t a1, b1⟩
end MwF
