section MwE
variable {E : En} {M N : Mi} {d mc ms mc' ms' pc : Nat} {lo : List (Option Vv)} {st : List Vv} {h : Hp} {Q Qz : Option Vv → Hp → Prop}
/-- the locals at a method's entry -/
def enl : List Vv → List (Option Vv)
  | [] => []
  | .inr (.inl x) :: vs => some (vl x) :: none :: enl vs
  | v :: vs => some v :: enl vs
def ent (nL : Nat) (as : List Vv) : List (Option Vv) := enl as ++ List.replicate (nL - (enl as).length) none
/-- a method's contract, at its entry -/
def MC (E : En) (N : Mi) (d mc ms : Nat) (as : List Vv) (h : Hp) (Q : Option Vv → Hp → Prop) : Prop := MW E N d mc ms 0 (ent N.2.2.1 as) [] h Q
def cPc (E : En) (as : List Vv) (h : Hp) : Array Value → State → Prop := fun v U => v = (as.map (rv E)).toArray ∧ Sm E h U.heap ∧ Gd E U U.heap
def cQc (E : En) (Q : Option Vv → Hp → Prop) : Array Value → State → Outcome → State → Prop := fun _ s0 oc t => (∃ (r : Option Vv) (h' : Hp), oc = .returned (r.map (rv E)) ∧ Q r h' ∧ Sm E h' t.heap) ∧ va_F (AA E) s0 t
def wS (N : Mi) : List Cond := .code N.1 N.2.1 N.2.2.1 N.2.2.2 :: wG
def cRm (d mc ms : Nat) : Room := { frames := d, cells := mc, slots := ms, locals := d * 64 }
theorem enl_args : ∀ (as : List Vv) (i0 i : Nat) (v : Vv), (enl as)[i]? = some (some v) → (i0 + i, rv E v) ∈ lv_args i0 (as.map (rv E))
  | [], i0, i, v, hv => by simp [enl] at hv
  | .inr (.inl x) :: vs, i0, i, v, hv => by
    show (i0 + i, rv E v) ∈ (i0, Value.long x) :: lv_args (i0 + 2) (vs.map (rv E))
    rcases i with _ | _ | i
    · simp [enl] at hv
      subst hv
      exact List.mem_cons_self
    · simp [enl] at hv
    · simp [enl] at hv
      have := enl_args vs (i0 + 2) i v hv
      rw [show i0 + (i + 1 + 1) = i0 + 2 + i by omega]
      exact List.mem_cons_of_mem _ this
  | .inl x :: vs, i0, i, v, hv => by
    show (i0 + i, rv E v) ∈ (i0, Value.int x) :: lv_args (i0 + 1) (vs.map (rv E))
    rcases i with _ | i
    · simp [enl] at hv
      subst hv
      exact List.mem_cons_self
    · simp [enl] at hv
      have := enl_args vs (i0 + 1) i v hv
      rw [show i0 + (i + 1) = i0 + 1 + i by omega]
      exact List.mem_cons_of_mem _ this
  | .inr (.inr x) :: vs, i0, i, v, hv => by
    have e : lv_args i0 ((.inr (.inr x) :: vs : List Vv).map (rv E)) = (i0, rv E (vq x)) :: lv_args (i0 + 1) (vs.map (rv E)) := by
      rw [List.map_cons]
      show (i0, rv E (vq x)) :: lv_args (if (rv E (vq x)).category = 2 then i0 + 2 else i0 + 1) _ = _
      rw [if_neg (by rw [rv_c1q]; decide)]
    rw [e]
    rcases i with _ | i
    · simp [enl] at hv
      subst hv
      exact List.mem_cons_self
    · simp [enl] at hv
      have := enl_args vs (i0 + 1) i v hv
      rw [show i0 + (i + 1) = i0 + 1 + i by omega]
      exact List.mem_cons_of_mem _ this
theorem lg_sl_cons (a : Value) (l : List Value) : lg_sl (a :: l) = (if a.category = 2 then [.val a, .second] else [.val a]) ++ lg_sl l := by
  unfold lg_sl
  rw [List.flatMap_cons]
theorem enl_len : ∀ as : List Vv, (lg_sl (as.map (rv E))).length = (enl as).length
  | [] => rfl
  | .inr (.inl x) :: vs => by
    rw [List.map_cons, lg_sl_cons, List.length_append, enl_len vs]
    show 2 + (enl vs).length = (enl vs).length + 1 + 1
    omega
  | .inl x :: vs => by
    rw [List.map_cons, lg_sl_cons, List.length_append, enl_len vs]
    show 1 + (enl vs).length = (enl vs).length + 1
    omega
  | .inr (.inr x) :: vs => by
    rw [List.map_cons, lg_sl_cons, List.length_append, enl_len vs, if_neg (by rw [show rv E (.inr (.inr x)) = rv E (vq x) from rfl, rv_c1q]; decide)]
    show 1 + (enl vs).length = (enl vs).length + 1
    omega
theorem Lo.entry {nL : Nat} {as : List Vv} (hn : (enl as).length ≤ nL) : Lo E ((lg_sl (as.map (rv E)) ++ List.replicate (nL - (lg_sl (as.map (rv E))).length) Slot.unset).toArray) nL (ent nL as) := by
  have hl := lv_entry (as.map (rv E)) (n := nL) (by rw [enl_len]; exact hn)
  refine ⟨hl.1, hl.2.1, fun i v hv => ?_⟩
  have hv2 : (enl as)[i]? = some (some v) := by
    unfold ent at hv
    by_cases hi : i < (enl as).length
    · rw [List.getElem?_append_left hi] at hv
      exact hv
    · rw [List.getElem?_append_right (by omega), List.getElem?_replicate] at hv
      split at hv <;> cases hv
  have := hl.2.2 (0 + i, rv E v) (enl_args as 0 i v hv2)
  simpa using this
theorem Sm.ge {H : Heap} (hS : Sm E h H) : eb E ≤ H.size := by rw [hS.2.1]; omega
theorem wS_good (hc : Cond.code N.1 N.2.1 N.2.2.1 N.2.2.2 ∈ wG) : GoodIn wG (wS N) := by
  intro w hw
  have hm : w ∈ wG := by
    rcases List.mem_cons.mp hw with rfl | q
    · exact hc
    · exact q
  exact ⟨hm, good_of_word (List.mem_filter.mp hm).2⟩
/-- the contract over the machine itself -/
theorem MC.met {as : List Vv} (hy : plainName N.1.cls = true) (hn : (enl as).length ≤ N.2.2.1) (k : MC E N d mc ms as h Q) : Met E.1 N.1 (wS N) (cRm d mc ms) (cPc E as h) (cQc E Q) mc ms (AA E) := by
  refine Met.ofW (cc := N.2.1) (maxL := N.2.2.1) (ret := N.2.2.2) hy rfl ?_
  intro p e s m args below meth c s₁ B hml hv
  obtain ⟨rfl, hS, hG⟩ := hv
  have hts0 := atoms_spec (ws := wS N) B.pre
  have hts : ∀ w ∈ wG, w.before (as.map (rv E)).toArray s = true := fun w hw => hts0 w (List.mem_cons_of_mem _ hw)
  have C : Cx E N p s m (as.map (rv E)).toArray meth c := ⟨B.exec, B.bytes, B.returns, hml, findClass_of_methodNamed B.named, hts, B.notSynchronized, fun q => (name_of_methodNamed B.named B.method).1.trans q, hG, hS.ge⟩
  have hlocks : meth.locks = false := B.notSynchronized
  rw [lg_entry_eq]
  have hV : va_S (AA E) s.heap s.heap [] := va_S.rf
  refine k p e (headSpec (wS N) (cRm d mc ms)).room s m _ below meth c s.heap [] 0 0 _ _ C ⟨Nat.le_refl _, Nat.le_refl _⟩ (by show 0 + mc ≤ mc; omega) (by show 0 + ms ≤ ms; omega) hS hV (Lo.entry hn) ?_
  intro r h' H' locs' cells' slots' pc' ls' st' hq hS' hV' hc1 hc2 hrt
  refine W.widen (k := mc) (n := ms) (by omega) (by omega) ?_
  rcases hrt with ⟨v, rfl, hdg, rfl, ty, hr, hnar⟩ | ⟨v, rfl, hdg, rfl, hr⟩ | ⟨x, rfl, hdg, rfl, rt, hr, hrt⟩ | ⟨rfl, hdg, rfl, hr⟩
  · exact W.zret C.1 C.2.1 (C.2.2.1.trans hr) hnar (fun t ht hW => ⟨⟨some (vi v), h', rfl, hq, by rw [ht]; exact hS'⟩, hV'.F ht⟩) hV'.2.2 hdg hlocks
  · exact W.lret C.1 C.2.1 (C.2.2.1.trans hr) (fun t ht hW => ⟨⟨some (vl v), h', rfl, hq, by rw [ht]; exact hS'⟩, hV'.F ht⟩) hV'.2.2 hdg hlocks
  · refine W.aret C.1 C.2.1 (C.2.2.1.trans hr) hrt ?_ (fun t ht hW => ⟨⟨some (vq x), h', rfl, hq, by rw [ht]; exact hS'⟩, hV'.F ht⟩) hV'.2.2 hdg hlocks
    cases x with
    | none => exact Or.inl rfl
    | some x => exact Or.inr ⟨_, rfl⟩
  · exact W.vret C.1 C.2.1 (C.2.2.1.trans hr) (fun t ht hW => ⟨⟨none, h', rfl, hq, by rw [ht]; exact hS'⟩, hV'.F ht⟩) hV'.2.2 hdg hlocks
theorem Gd.calling {U : State} (g : JFrame) (mk : MethodId) (a : Array Value) (hG : Gd E U U.heap) : Gd E (U.calling g mk a) (U.calling g mk a).heap := by
  obtain ⟨g1, g2, ⟨z1, z2, z3, z4, z5, z6, z7⟩, g4, g5⟩ := hG
  have al : U.vm.Alike (U.calling g mk a).vm := Vm.Alike.refl U.vm
  refine ⟨va_K.moved al g1, fun w hw => ?_, ⟨z1.moved al, z2.moved al, z3.same rfl, z4.same rfl, vk_S.moved al z5, z6.moved al, z7.moved al⟩, fun C hC => va_AO.moved al (g4 C hC), fun i hi => va_T.moved al (g5 i hi)⟩
  have := g2 w hw
  have hn := (List.mem_filter.mp hw).2
  cases w <;> first | exact va_Nw.same rfl rfl this | (simp [isNest] at hn)
theorem cPc_blind {as : List Vv} : FrameBlind (cPc E as h) := fun a U g mk q => ⟨q.1, q.2.1, Gd.calling g mk a q.2.2⟩
theorem Gd.go {s U : State} {H : Heap} {locs : List Loc} (hG : Gd E s s.heap) (hV : va_S (AA E) s.heap H locs) (hU : U.heap = H) (hW : s.WarmedH U.vm) : Gd E U U.heap := by
  obtain ⟨g1, g2, ⟨z1, z2, z3, z4, z5, z6, z7⟩, g4, g5⟩ := hG
  have al : s.vm.Alike U.vm := hW.alike
  have kp : ∀ a : Nat, a < s.heap.size → ¬ AA E a → U.heap[a]? = s.heap[a]? := fun a h1 h2 => by rw [hU]; exact hV.2.1 a h1 h2
  refine ⟨va_K.moved al g1, fun w hw => ?_, ⟨(z1.moved al).kept kp, (z2.moved al).kept kp, z3.warm hW, z4.warm hW, (vk_S.moved al z5).kept kp, (z6.moved al).kept kp, (z7.moved al).kept kp⟩, fun C hC => va_AO.moved al (g4 C hC), fun i hi => (va_T.moved al (g5 i hi)).kept kp⟩
  have := g2 w hw
  have hn := (List.mem_filter.mp hw).2
  cases w <;> first | exact va_Nw.warmM hW this | (simp [isNest] at hn)
/-- what is known of a method that is called -/
def Mk (N : Mi) (n : Nat) : Prop := plainName N.1.cls = true ∧ (N.1.cls ≠ "java/lang/invoke/MethodHandle" ∧ N.1.cls ≠ "java/lang/invoke/VarHandle") ∧ (parseMethodDescriptor N.1.desc).map (fun d => d.parameters.length) = some n ∧ N.2.2.1 ≤ 45 ∧ Cond.code N.1 N.2.1 N.2.2.1 N.2.2.2 ∈ wG ∧ Cond.initialized N.1.cls ∈ wG
def vcat : Vv → Nat
  | .inr (.inl _) => 2
  | _ => 1
theorem vcat_sum : ∀ st : List Vv, ((st.map (rv E)).map fun v => v.category).sum = (st.map vcat).sum
  | [] => rfl
  | .inr (.inl x) :: vs => by
    have := vcat_sum vs
    simp only [List.map_cons, List.sum_cons, this]
    rfl
  | .inl x :: vs => by
    have := vcat_sum vs
    simp only [List.map_cons, List.sum_cons, this]
    rfl
  | .inr (.inr x) :: vs => by
    have := vcat_sum vs
    simp only [List.map_cons, List.sum_cons, this]
    rw [show rv E (.inr (.inr x)) = rv E (vq x) from rfl, rv_c1q]
    rfl
/-- behind a call -/
theorem MW.call {st0 : List Vv}
    (hrun : ∀ (p : Program) (e : Env) (R : Room) (s : State) (m : MethodId) (args : Array Value) (below : List Frame) (meth : Method) (c : Code) (H : Heap) (locs : List Loc) (cells slots : Nat) (ls : Array Slot), Cx E M p s m args meth c → Rm R (d + 1) → cells + mc' ≤ R.cells → slots + ms' ≤ R.slots → Sm E h H → va_S (AA E) s.heap H locs → Lo E ls M.2.2.1 lo →
      ∃ a, va_Run p E.1 e R s m args below meth c H locs cells slots mc' ms' (F0 m pc ls (st0.map (rv E))) (st.map (rv E)) (cQc E Qz a) (AA E))
    (kk : ∀ r h', Qz r h' → MW E M (d + 1) mc ms (pc + 3) lo (r.toList ++ st) h' Q) : MW E M (d + 1) (mc + mc') (ms + ms') pc lo st0 h Q := by
  intro p e R s m args below meth c H locs cells slots Qf ls C hR k1 k2 hS hV hL hE T hT X
  obtain ⟨a, hr⟩ := hrun p e R s m args below meth c H locs cells slots ls C hR (by omega) (by omega) hS hV hL
  obtain ⟨v, st₀, t, T', L, h0, X', hfr, e1, e2, ⟨⟨r, h', hv, hqz, hS'⟩, hz, hkp⟩, hst⟩ := hr T hT X
  have hv' : v = r.map (rv E) := by injection hv
  subst hv'
  rw [h0] at hz hkp
  have hV' : va_S (AA E) s.heap T'.heap (locs ++ L) := by
    refine ⟨Nat.le_trans hV.1 (by rw [e1]; exact hz), fun q a1 a2 => ?_, fun q hq => ?_⟩
    · rw [e1, hkp q (Nat.lt_of_lt_of_le a1 hV.1) a2]
      exact hV.2.1 q a1 a2
    · rcases List.mem_append.mp hq with q1 | q1
      · exact hV.2.2 q q1
      · exact hfr q q1
  have hk := kk r h' hqz p e R s m args below meth c T'.heap (locs ++ L) (cells + mc') (slots + ms') Qf ls C hR (by omega) (by omega) (by rw [e1]; exact hS') hV' hL (fun r h' H' locs' cells' slots' pc' ls' st' q a b c1 c2 => hE r h' H' locs' cells' slots' pc' ls' st' q a b (by omega) (by omega))
  obtain ⟨t2, a1, b1⟩ := hk T' rfl X'
  refine ⟨t2, hst t2 ?_, b1⟩
  have hmap : (r.toList ++ st).map (rv E) = (r.map (rv E)).toList ++ st.map (rv E) := by cases r <;> rfl
  rw [hmap] at a1
  exact a1
theorem Mk.call {n : Nat} (hN : Mk N n) {p : Program} {R : Room} {s : State} {m : MethodId} {args : Array Value} {meth : Method} {c : Code} {idx : Nat} (C : Cx E M p s m args meth c) (hR : Rm R (d + 1)) (hl : Cond.methodLink M.1.cls idx N.1 ∈ wG) :
    CallB R s args M.1.cls idx N.1 N.2.1 N.2.2.1 N.2.2.2 (wS N) (cRm d mc ms) mc ms n := by
  have hts := C.2.2.2.2.2.1
  refine callB_of n hts (wS_good hN.2.2.2.2.1) rfl rfl rfl (hts _ hN.2.2.2.2.2) (hts _ hl) ⟨hN.2.1.1, hN.2.1.2, hN.2.2.1⟩ ⟨hR.1, ?_⟩
  have h1 := hN.2.2.2.1
  have h2 := hR.2
  show 8 + (N.2.2.1 + 11) + d * 64 ≤ R.locals
  omega
/-- a call of a method of an object -/
theorem mw_callV {n idx ci n2 b : Nat} {x : Option Nat} (As : List Vv) (hdg : decode M.2.1 pc = .ok (.invokevirtual idx, 3)) (hN : Mk N n) (hl : Cond.methodLink M.1.cls idx N.1 ∈ wG) (hin : Cond.instanceMethod N.1 ∈ wG) (hse : Cond.selects (clT ci).1 N.1 N.1 ∈ wG) (hci : ci < 9) (hx : x = some b) (hkb : hk h b = some (ci, n2)) (hn : As.length = n) (hen : (enl (vq (some b) :: As)).length ≤ N.2.2.1) (hcat : (st.map vcat).sum ≤ 8)
    (hM : MC E N d mc' ms' (vq (some b) :: As) h Qz) (kk : ∀ r h', Qz r h' → MW E M (d + 1) mc ms (pc + 3) lo (r.toList ++ st) h' Q) : MW E M (d + 1) (mc + mc') (ms + ms') pc lo (As.reverse ++ vq x :: st) h Q := by
  subst hx
  refine MW.call (Qz := Qz) ?_ kk
  intro p e R s m args below meth c H locs cells slots ls C hR k1 k2 hS hV hL
  refine ⟨_, va_runV (As := As.map (rv E)) (b := ad E b) (C := (clT ci).1) ⟨C.1, C.2.1, C.2.2.2.1, C.2.2.2.2.1, C.2.2.2.2.2.1⟩ (hM.met hN.1 hen) ⟨hN.call C hR hl, C.2.2.2.2.2.1 _ hin, C.2.2.2.2.2.1 _ hse⟩ ⟨cPc_blind, ?_, fun U hU hW => ⟨rfl, by rw [hU]; exact hS, C.2.2.2.2.2.2.2.2.1.go hV hU hW⟩⟩ rfl (by rw [List.length_map]; exact hn) hL.1 ?_ (lv_room (by rw [vcat_sum]; exact hcat)) hdg ⟨k1, k2⟩⟩
  · have hat := hS.2.2.2 b _ (hS.new hkb (by show ci ≠ 10; omega) (by show ci < 17; omega)) hkb (by show ci < 17; omega)
    rw [ce_obj (x := (ci, n2)) hci] at hat
    obtain ⟨r', hr', cellV, g1, g2, g3, -⟩ := hat
    exact ⟨cellV, g1, by rw [g3]; rfl, by rw [g2]; exact (C.2.2.2.2.2.2.2.2.1.1.1 ci _ (clT_at hci)).2.1⟩
  · simp [rv, va_rf]
/-- a call of a static method -/
theorem mw_callS {n idx : Nat} (As : List Vv) (hdg : decode M.2.1 pc = .ok (.invokestatic idx, 3)) (hN : Mk N n) (hl : Cond.methodLink M.1.cls idx N.1 ∈ wG) (hst : Cond.static N.1 ∈ wG) (hn : As.length = n) (hen : (enl As).length ≤ N.2.2.1) (hcat : (st.map vcat).sum ≤ 8)
    (hM : MC E N d mc' ms' As h Qz) (kk : ∀ r h', Qz r h' → MW E M (d + 1) mc ms (pc + 3) lo (r.toList ++ st) h' Q) : MW E M (d + 1) (mc + mc') (ms + ms') pc lo (As.reverse ++ st) h Q := by
  refine MW.call (Qz := Qz) ?_ kk
  intro p e R s m args below meth c H locs cells slots ls C hR k1 k2 hS hV hL
  refine ⟨_, va_runS (As := As.map (rv E)) ⟨C.1, C.2.1, C.2.2.2.1, C.2.2.2.2.1, C.2.2.2.2.2.1⟩ (hM.met hN.1 hen) ⟨hN.call C hR hl, C.2.2.2.2.2.1 _ hst⟩ ⟨cPc_blind, fun U hU hW => ⟨rfl, by rw [hU]; exact hS, C.2.2.2.2.2.2.2.2.1.go hV hU hW⟩⟩ rfl (by rw [List.length_map]; exact hn) hL.1 ?_ (lv_room (by rw [vcat_sum]; exact hcat)) hdg ⟨k1, k2⟩⟩
  simp
/-- a call of a constructor -/
theorem mw_callI {n idx b : Nat} {x : Option Nat} (As : List Vv) (hdg : decode M.2.1 pc = .ok (.invokespecial idx, 3)) (hN : Mk N n) (hr : N.2.2.2 = none) (hl : Cond.methodLink M.1.cls idx N.1 ∈ wG) (hin : Cond.instanceMethod N.1 ∈ wG) (hnm : N.1.name = "<init>") (hx : x = some b) (hn : As.length = n) (hen : (enl (vq (some b) :: As)).length ≤ N.2.2.1) (hcat : (st.map vcat).sum ≤ 8)
    (hM : MC E N d mc' ms' (vq (some b) :: As) h Qz) (kk : ∀ r h', Qz r h' → MW E M (d + 1) mc ms (pc + 3) lo (r.toList ++ st) h' Q) : MW E M (d + 1) (mc + mc') (ms + ms') pc lo (As.reverse ++ vq x :: st) h Q := by
  subst hx
  refine MW.call (Qz := Qz) ?_ kk
  intro p e R s m args below meth c H locs cells slots ls C hR k1 k2 hS hV hL
  have hcb := hN.call (mc := mc') (ms := ms') C hR hl
  rw [hr] at hcb
  refine ⟨_, va_runI (As := As.map (rv E)) (b := ad E b) ⟨C.1, C.2.1, C.2.2.2.1, C.2.2.2.2.1, C.2.2.2.2.2.1⟩ (hM.met hN.1 hen) ⟨hcb, hnm, C.2.2.2.2.2.1 _ hin⟩ ⟨cPc_blind, fun U hU hW => ⟨rfl, by rw [hU]; exact hS, C.2.2.2.2.2.2.2.2.1.go hV hU hW⟩⟩ rfl (by rw [List.length_map]; exact hn) hL.1 ?_ (lv_room (by rw [vcat_sum]; exact hcat)) hdg ⟨k1, k2⟩⟩
  simp [rv, va_rf]
end MwE
