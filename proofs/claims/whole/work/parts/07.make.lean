section MwD
variable {E : En} {M : Mi} {d mc ms pc : Nat} {lo : List (Option Vv)} {st : List Vv} {h : Hp} {Q : Option Vv → Hp → Prop}
/-- a store into an array, whatever it holds -/
theorem MW.ast {h' : Hp} {a kd n : Nat} {st0 : List Vv} (hkd : hk h a = some (kd, n)) (h1 : ¬ kd < 9) (ha : 8 ≤ a) (hh : h'.1 = h.1) (hrw : ∀ b, b ≠ a → ∀ k, hi h' b k = hi h b k) (ho : ∀ b, b ≠ a → ∀ x, ce E h' x b = ce E h x b)
    (hs : ∀ (p : Program) (e : Env) (R : Room) (s : State) (m : MethodId) (args : Array Value) (below : List Frame) (meth : Method) (c : Code) (H : Heap) (locs : List Loc) (cells slots : Nat) (Qf : State → Prop) (ls : Array Slot), Cx E M p s m args meth c → Sm E h H →
      (∀ (H' : Heap) (k0 : Nat), H'[ad E a]? = some (vp_cell (ec E kd) (n, cnt E h' kd a)) → H'.size = H.size → (∀ q, q ≠ ad E a → H'[q]? = H[q]?) → W p E.1 e R s m args below meth c H' (locs ++ [⟨ad E a, k0⟩]) cells slots Qf (F0 m (pc + 1) ls (st.map (rv E)))) →
      W p E.1 e R s m args below meth c H locs cells slots Qf (F0 m pc ls (st0.map (rv E))))
    (kk : MW E M d mc ms (pc + 1) lo st h' Q) : MW E M d mc ms pc lo st0 h Q := by
  intro p e R s m args below meth c H locs cells slots Qf ls C hR k1 k2 hS hV hL hE
  refine hs p e R s m args below meth c H locs cells slots Qf ls C hS (fun H' k0 e1 e2 e3 => ?_)
  refine kk p e R s m args below meth c H' _ cells slots Qf ls C hR k1 k2 (hS.upd hh ha hrw ho e2 e3 ?_) (hV.put e2 e3 (Sm.AA ha)) hL hE
  intro x0 hx0
  have hx1 : x0 = (kd, n) := Option.some.inj (hx0.symm.trans hkd)
  subst hx1
  rw [ce_arr (x := (kd, n)) h1]
  exact e1
theorem up_i (a k : Nat) (v : Int32) : hi (si h a k v) a = upd (hi h a) k v := by
  funext j
  rw [hi_si]
  unfold upd
  by_cases hj : j = k <;> simp [hj]
theorem up_l (a k : Nat) (v : Int64) : hj (sj h a k v) a = vp_updL (hj h a) k v := by
  funext j
  rw [hj_sj]
  unfold vp_updL
  by_cases hj : j = k <;> simp [hj]
theorem mw_iast {n a : Nat} {x : Option Nat} {i v : Int32} (hdg : decode M.2.1 pc = .ok (.iastore, 1)) (hx : x = some a) (ha : 8 ≤ a) (hkd : hk h a = some (10, n)) (hin : vp_in i n) (kk : MW E M d mc ms (pc + 1) lo st (si h a i.toNatClampNeg v) Q) : MW E M d mc ms pc lo (vi v :: vi i :: vq x :: st) h Q := by
  subst hx
  refine MW.ast (h' := si h a i.toNatClampNeg v) hkd (by decide) ha rfl (fun b hb k => by rw [hi_si, if_neg (fun q => hb q.1)]) (fun b hb x => ce_si hb x) ?_ kk
  intro p e R s m args below meth c H locs cells slots Qf ls C hS kk
  have hc := hS.arr ha hkd (by decide) (by decide)
  refine W.iast C.1 C.2.1 hc ((C.2.2.2.2.2.2.2.2.1.arr (kd := 10) (by decide) (by decide)).1 n (fun j => .int (hi h a j))) (fun q => by cases q) (by show ¬ (i < 0 ∨ (arrV _ _ _).slots.size ≤ _); rw [arrV_size]; exact hin) rfl rfl hdg fun H1 e z oq => ?_
  refine kk H1 _ ?_ z oq
  rw [e, cnt_i (by decide) (by decide), cnt_i (by decide) (by decide), up_i, vp_cell_i, vp_cell_i, arrV_store]
  congr 2
  funext q
  by_cases hq : q = i.toNatClampNeg
  · subst hq
    simp [updV, upd]
  · simp [updV, upd, hq]
theorem mw_bast {n a : Nat} {x : Option Nat} {i v : Int32} (hdg : decode M.2.1 pc = .ok (.bastore, 1)) (hx : x = some a) (hkd : hk h a = some (9, n)) (hin : vp_in i n) (kk : MW E M d mc ms (pc + 1) lo st (si h a i.toNatClampNeg v.toInt8.toInt32) Q) : MW E M d mc ms pc lo (vi v :: vi i :: vq x :: st) h Q := by
  subst hx
  by_cases ha : 8 ≤ a
  · refine MW.ast (h' := si h a i.toNatClampNeg v.toInt8.toInt32) hkd (by decide) ha rfl (fun b hb k => by rw [hi_si, if_neg (fun q => hb q.1)]) (fun b hb x => ce_si hb x) ?_ kk
    intro p e R s m args below meth c H locs cells slots Qf ls C hS kk
    have hc := hS.arr ha hkd (by decide) (by decide)
    refine W.bast C.1 C.2.1 hc ((C.2.2.2.2.2.2.2.2.1.arr (kd := 9) (by decide) (by decide)).1 n (fun j => .int (hi h a j))) (fun q => by cases q) (by show ¬ (i < 0 ∨ (arrV _ _ _).slots.size ≤ _); rw [arrV_size]; exact hin) rfl rfl hdg fun H1 e z oq => ?_
    refine kk H1 _ ?_ z oq
    rw [e, cnt_i (by decide) (by decide), cnt_i (by decide) (by decide), up_i, vp_cell_i, vp_cell_i, arrV_store]
    congr 2
    funext q
    by_cases hq : q = i.toNatClampNeg
    · subst hq
      simp [updV, upd, narrow]
    · simp [updV, upd, hq]
  · intro p e R s m args below meth c H locs cells slots Qf ls C hR k1 k2 hS hV hL hE
    exact absurd (hS.new hkd (by simp) (by simp)) ha
theorem mw_zast {n a : Nat} {x : Option Nat} {i v : Int32} (hdg : decode M.2.1 pc = .ok (.bastore, 1)) (hx : x = some a) (hkd : hk h a = some (12, n)) (hv : v = 0 ∨ v = 1) (hin : vp_in i n) (kk : MW E M d mc ms (pc + 1) lo st (si h a i.toNatClampNeg v) Q) : MW E M d mc ms pc lo (vi v :: vi i :: vq x :: st) h Q := by
  subst hx
  by_cases ha : 8 ≤ a
  · refine MW.ast (h' := si h a i.toNatClampNeg v) hkd (by decide) ha rfl (fun b hb k => by rw [hi_si, if_neg (fun q => hb q.1)]) (fun b hb x => ce_si hb x) ?_ kk
    intro p e R s m args below meth c H locs cells slots Qf ls C hS kk
    have hc := hS.arr ha hkd (by decide) (by decide)
    refine W.zast C.1 C.2.1 hc ((C.2.2.2.2.2.2.2.2.1.arr (kd := 12) (by decide) (by decide)).1 n (fun j => .int (hi h a j))) (fun q => by cases q) (by show ¬ (i < 0 ∨ (arrV _ _ _).slots.size ≤ _); rw [arrV_size]; exact hin) rfl rfl hdg fun H1 e z oq => ?_
    refine kk H1 _ ?_ z oq
    have hnv : narrow .boolean (.int v) = .int v := by rcases hv with rfl | rfl <;> rfl
    rw [hnv] at e
    rw [e, cnt_i (by decide) (by decide), cnt_i (by decide) (by decide), up_i, vp_cell_i, vp_cell_i, arrV_store]
    congr 2
    funext q
    by_cases hq : q = i.toNatClampNeg
    · subst hq
      simp [updV, upd]
    · simp [updV, upd, hq]
  · intro p e R s m args below meth c H locs cells slots Qf ls C hR k1 k2 hS hV hL hE
    exact absurd (hS.new hkd (by simp) (by simp)) ha
theorem mw_last {n a : Nat} {x : Option Nat} {i : Int32} {v : Int64} (hdg : decode M.2.1 pc = .ok (.lastore, 1)) (hx : x = some a) (hkd : hk h a = some (11, n)) (hin : vp_in i n) (kk : MW E M d mc ms (pc + 1) lo st (sj h a i.toNatClampNeg v) Q) : MW E M d mc ms pc lo (vl v :: vi i :: vq x :: st) h Q := by
  subst hx
  by_cases ha : 8 ≤ a
  · refine MW.ast (h' := sj h a i.toNatClampNeg v) hkd (by decide) ha rfl (fun b hb k => rfl) (fun b hb x => ce_sj hb x) ?_ kk
    intro p e R s m args below meth c H locs cells slots Qf ls C hS kk
    have hc := hS.arr ha hkd (by decide) (by decide)
    refine W.last C.1 C.2.1 hc ((C.2.2.2.2.2.2.2.2.1.arr (kd := 11) (by decide) (by decide)).1 n (fun j => .long (hj h a j))) (fun q => by cases q) (by show ¬ (i < 0 ∨ (arrV _ _ _).slots.size ≤ _); rw [arrV_size]; exact hin) rfl rfl hdg fun H1 e z oq => ?_
    refine kk H1 _ ?_ z oq
    rw [e, cnt_l, cnt_l, up_l, vp_cell_l, vp_cell_l, arrV_store]
    congr 2
    funext q
    by_cases hq : q = i.toNatClampNeg
    · subst hq
      simp [updV, vp_updL]
    · simp [updV, vp_updL, hq]
  · intro p e R s m args below meth c H locs cells slots Qf ls C hR k1 k2 hS hV hL hE
    exact absurd (hS.new hkd (by simp) (by simp)) ha
/-- which class's objects an array of references holds -/
def cik (kd : Nat) : Nat := match kd with
  | 13 => 0
  | 14 => 1
  | 15 => 3
  | _ => 6
theorem mw_aast {kd n n2 a b : Nat} {x y : Option Nat} {i : Int32} (hdg : decode M.2.1 pc = .ok (.aastore, 1)) (hx : x = some a) (hkd : hk h a = some (kd, n)) (h1 : ¬ kd < 13) (h2 : kd < 17) (hin : vp_in i n) (hy : y = some b) (hkb : hk h b = some (cik kd, n2)) (kk : MW E M d mc ms (pc + 1) lo st (sq h a i.toNatClampNeg y) Q) : MW E M d mc ms pc lo (vq y :: vi i :: vq x :: st) h Q := by
  subst hx
  subst hy
  have hci : cik kd < 9 := by
    rcases (show kd = 13 ∨ kd = 14 ∨ kd = 15 ∨ kd = 16 by omega) with rfl | rfl | rfl | rfl <;> decide
  have hcn : tyk kd = .object (clT (cik kd)).1 := by
    rcases (show kd = 13 ∨ kd = 14 ∨ kd = 15 ∨ kd = 16 by omega) with rfl | rfl | rfl | rfl <;> rfl
  by_cases ha : 8 ≤ a
  · refine MW.ast (h' := sq h a i.toNatClampNeg (some b)) hkd (by omega) ha rfl (fun b hb k => rfl) (fun b hb x => ce_sq hb x) ?_ kk
    intro p e R s m args below meth c H locs cells slots Qf ls C hS kk
    have hlt : i.toNatClampNeg < n := Nat.not_le.mp fun q => hin (Or.inr q)
    have h0 : ¬ i < 0 := fun q => hin (Or.inl q)
    have hc := hS.arr ha hkd (by omega) h2
    rw [cnt_q h1] at hc
    have hatb := hS.2.2.2 b _ (hS.new hkb (by show cik kd ≠ 10; omega) (by show cik kd < 17; omega)) hkb (by show cik kd < 17; omega)
    rw [ce_obj (x := (cik kd, n2)) hci] at hatb
    obtain ⟨r', hr', cellV, g1, g2, g3, -⟩ := hatb
    have hK := C.2.2.2.2.2.2.2.2.1
    have hcls := (hK.1.1 (cik kd) _ (clT_at hci)).2
    have hra := (hK.arr (kd := kd) (by omega) h2).2
    rw [hcn] at hra
    obtain ⟨kA, comp, k1, k2, k3, -⟩ := hra
    have hcomp : comp = (eD E).1 (cik kd) := Option.some.inj (k3.symm.trans hcls.1)
    subst hcomp
    obtain ⟨kC, hkC, -⟩ := hcls.2
    refine W.aast C.1 C.2.1 hc (fun q h => by cases h) (fun h => by cases h) k1 k2 rfl hkC ⟨h0, by show _ < (arrV _ _ _).slots.size; rw [arrV_size]; exact hlt⟩ g1 (fun q h => by rw [g3] at h; cases h) (by rw [g2]; exact hkC) (by rw [g2]; exact va_assign hcls) rfl rfl hdg fun H1 e z oq => ?_
    refine kk H1 _ ?_ z oq
    rw [e, cnt_q h1, vp_cell_q, vp_cell_q, arrV_store]
    congr 2
    funext q
    rw [hq_sq]
    by_cases hq : q = i.toNatClampNeg
    · subst hq
      simp [updV, va_rf]
    · simp [updV, hq]
  · intro p e R s m args below meth c H locs cells slots Qf ls C hR k1 k2 hS hV hL hE
    exact absurd (hS.new hkd (by show kd ≠ 10; omega) (by show kd < 17; omega)) ha
/-- a new cell -/
theorem Sm.made {kd n : Nat} {H H1 : Heap} (hS : Sm E h H) (hz : H1.size = H.size + 1) (ho : ∀ q, q < H.size → H1[q]? = H[q]?) (hnew : kd < 17 → va_at (eD E) vwCl (ad E h.1.length, ce E (nw h kd n) (kd, n) h.1.length) H1) : Sm E (nw h kd n) H1 := by
  have hlen : (nw h kd n).1.length = h.1.length + 1 := by simp [nw]
  have h5 := hS.1
  have hat : ∀ b x, hk (nw h kd n) b = some x → (b < h.1.length ∧ hk h b = some x) ∨ (b = h.1.length ∧ x = (kd, n)) := by
    intro b x hx
    unfold hk nw at hx
    by_cases hb : b < h.1.length
    · rw [List.getElem?_append_left hb] at hx
      exact Or.inl ⟨hb, hx⟩
    · rw [List.getElem?_append_right (by omega)] at hx
      have h0 : b - h.1.length < 1 := (List.getElem?_eq_some_iff.mp hx).1
      have hb0 : b = h.1.length := by omega
      subst hb0
      rw [Nat.sub_self] at hx
      cases hx
      exact Or.inr ⟨rfl, rfl⟩
  refine ⟨by omega, by rw [hz, hlen, hS.2.1]; omega, fun i h5i x hx => ?_, fun b x hb5 hx hx2 => ?_⟩
  · rcases hat i x hx with ⟨-, q⟩ | ⟨q, -⟩
    · rcases hS.2.2.1 i h5i x q with ⟨e1, e2, e3⟩ | e1
      · exact Or.inl ⟨e1, e2, fun k => (if_neg (by omega)).trans (e3 k)⟩
      · exact Or.inr e1
    · omega
  · rcases hat b x hx with ⟨hb, q⟩ | ⟨rfl, rfl⟩
    · have hc : ce E (nw h kd n) x b = ce E h x b := ce_congr (fun k => if_neg (by omega)) (fun k => if_neg (by omega)) (fun k => if_neg (by omega))
      rw [hc]
      have := hS.2.2.2 b x hb5 q hx2
      exact this.kept (ho _ this.lt)
    · exact hnew hx2
theorem Sm.next {H : Heap} (hS : Sm E h H) : H.size = ad E h.1.length := by
  have := hS.1
  unfold ad
  rw [if_neg (by omega), hS.2.1]
theorem AA.grow {H0 H H1 : Heap} {locs : List Loc} (hV : va_S (AA E) H0 H locs) (hz : H1.size = H.size + 1) (ho : ∀ q, q < H.size → H1[q]? = H[q]?) : va_S (AA E) H0 H1 locs :=
  ⟨by have := hV.1; omega, fun q a b => (ho q (by have := hV.1; omega)).trans (hV.2.1 q a b), hV.2.2⟩
theorem nw_i (kd n k : Nat) : hi (nw h kd n) h.1.length k = 0 := if_pos rfl
theorem nw_l (kd n k : Nat) : hj (nw h kd n) h.1.length k = 0 := if_pos rfl
theorem nw_q (kd n k : Nat) : hq (nw h kd n) h.1.length k = none := if_pos rfl
theorem mw_newa {kd N : Nat} {at' : ArrayType} {n : Int32} (hdg : decode M.2.1 pc = .ok (.newarray at', 2)) (hty : newarray.typeOf at' = tyk kd) (hkd : kd = 9 ∨ kd = 10 ∨ kd = 11 ∨ kd = 12) (hw : Cond.arrayClass (newarray.typeOf at') ∈ wG) (hn : n = nI N) (hN : N ≤ 65536)
    (kk : MW E M d mc ms (pc + 2) lo (vq (some h.1.length) :: st) (nw h kd N) Q) : MW E M d (mc + 1) (ms + N) pc lo (vi n :: st) h Q := by
  intro p e R s m args below meth c H locs cells slots Qf ls C hR k1 k2 hS hV hL hE
  have h9 : ¬ kd < 9 := by omega
  have h17 : kd < 17 := by omega
  have hn0 : ¬ n < 0 := by rw [hn]; exact nI_pos (by omega)
  have hnN : n.toNatClampNeg = N := by rw [hn]; exact nI_clamp (by omega)
  have hbytes : N * componentBytes (newarray.typeOf at') ≤ 536870912 := by
    have : componentBytes (newarray.typeOf at') ≤ 8 := by cases at' <;> decide
    exact Nat.le_trans (Nat.mul_le_mul hN this) (by decide)
  refine va_newaK C.1 C.2.1 (C.2.2.2.2.2.1 _ hw) rfl hdg rfl hn0 hnN hbytes (by omega) (by omega) hS.next fun H1 cA e1 z1 o1 hAr hNm => ?_
  have hz : H1.size = H.size + 1 := by rw [z1, ← hS.next]
  have ho : ∀ q, q < H.size → H1[q]? = H[q]? := fun q hq => o1 q (by rw [← hS.next]; exact hq)
  have hcA : cA = ec E kd := by
    have hra := (C.2.2.2.2.2.2.2.2.1.arr (kd := kd) h9 h17).2
    rw [hty] at hNm
    rcases hkd with rfl | rfl | rfl | rfl
    all_goals exact Option.some.inj (hNm.symm.trans hra)
  have hS' : Sm E (nw h kd N) H1 := by
    refine hS.made hz ho (fun _ => ?_)
    rw [ce_arr (x := (kd, N)) h9]
    show H1[ad E h.1.length]? = some (vp_cell (ec E kd) (N, cnt E (nw h kd N) kd h.1.length))
    rw [e1, hty, hcA]
    rcases hkd with rfl | rfl | rfl | rfl
    · rw [cnt_i (by decide) (by decide), vp_cell_i]; simp only [nw_i]; rfl
    · rw [cnt_i (by decide) (by decide), vp_cell_i]; simp only [nw_i]; rfl
    · rw [cnt_l, vp_cell_l]; simp only [nw_l]; rfl
    · rw [cnt_i (by decide) (by decide), vp_cell_i]; simp only [nw_i]; rfl
  exact kk p e R s m args below meth c H1 locs (cells + 1) (slots + N) Qf ls C hR (by omega) (by omega) hS' (AA.grow hV hz ho) hL (fun r h' H' locs' cells' slots' pc' ls' st' q a b c1 c2 => hE r h' H' locs' cells' slots' pc' ls' st' q a b (by omega) (by omega))
theorem mw_anew {kd idx N : Nat} {n : Int32} (hdg : decode M.2.1 pc = .ok (.anewarray idx, 3)) (h1 : ¬ kd < 13) (h2 : kd < 17) (hw : Cond.classLink M.1.cls idx (clT (cik kd)).1 ∈ wG) (hn : n = nI N) (hN : N ≤ 65536)
    (kk : MW E M d mc ms (pc + 3) lo (vq (some h.1.length) :: st) (nw h kd N) Q) : MW E M d (mc + 1) (ms + N) pc lo (vi n :: st) h Q := by
  intro p e R s m args below meth c H locs cells slots Qf ls C hR k1 k2 hS hV hL hE
  have hn0 : ¬ n < 0 := by rw [hn]; exact nI_pos (by omega)
  have hnN : n.toNatClampNeg = N := by rw [hn]; exact nI_clamp (by omega)
  have hcn : tyk kd = .object (clT (cik kd)).1 := by
    rcases (show kd = 13 ∨ kd = 14 ∨ kd = 15 ∨ kd = 16 by omega) with rfl | rfl | rfl | rfl <;> rfl
  have hao : va_AO (clT (cik kd)).1 s := C.2.2.2.2.2.2.2.2.1.2.2.2.1 _ (by
    rcases (show kd = 13 ∨ kd = 14 ∨ kd = 15 ∨ kd = 16 by omega) with rfl | rfl | rfl | rfl <;> simp [cik, clT, vwCl])
  subst hnN
  refine W.anew C.1 C.2.1 C.2.2.2.2.1 (C.2.2.2.2.2.1 _ hw) (va_AO.use hao) rfl hdg rfl hn0 (by omega) (by omega) (by omega) fun cA kA comp f1 f2 f3 f4 => ?_
  generalize hH1 : H.push ({ cls := cA, slots := Array.replicate n.toNatClampNeg .null, vm := .none } : Cell) = H1
  have hz : H1.size = H.size + 1 := by rw [← hH1, Array.size_push]
  have e1 : H1[H.size]? = some (arrV cA n.toNatClampNeg (fun _ => .null)) := by rw [← hH1, Array.getElem?_push_size, ← arrV_new]
  have ho : ∀ q, q < H.size → H1[q]? = H[q]? := fun q hq => by rw [← hH1, Array.getElem?_push, if_neg (Nat.ne_of_lt hq)]
  have hcA : cA = ec E kd := by
    have hra := (C.2.2.2.2.2.2.2.2.1.arr (kd := kd) (by omega) h2).2
    rw [hcn] at hra
    obtain ⟨_, _, -, -, -, g4⟩ := hra
    exact Option.some.inj (f1.symm.trans g4)
  have hS' : Sm E (nw h kd n.toNatClampNeg) H1 := by
    refine hS.made hz ho (fun _ => ?_)
    rw [ce_arr (x := (kd, n.toNatClampNeg)) (by show ¬ kd < 9; omega)]
    show H1[ad E h.1.length]? = some (vp_cell (ec E kd) (n.toNatClampNeg, cnt E (nw h kd n.toNatClampNeg) kd h.1.length))
    rw [← hS.next, e1, hcA, cnt_q h1, vp_cell_q]
    simp only [nw_q]
    rfl
  have hret := kk p e R s m args below meth c H1 locs (cells + 1) (slots + n.toNatClampNeg) Qf ls C hR (by omega) (by omega) hS' (AA.grow hV hz ho) hL (fun r h' H' locs' cells' slots' pc' ls' st' q a b c1 c2 => hE r h' H' locs' cells' slots' pc' ls' st' q a b (by omega) (by omega))
  rw [hS.next]
  exact hret
theorem dflt_fva {ci k : Nat} (hc : ci < 9) (hkN : k < (clT ci).2.2) : defaultValue (tyc ci k) = fva E (nw h ci 0) ci h.1.length k := by
  have key : ∀ ci, ci < 9 → ∀ k, k < (clT ci).2.2 → defaultValue (tyc ci k) = (match fkd ci k with | 0 => .int 0 | 1 => .long 0 | _ => .null) := by decide +kernel
  rw [key ci hc k hkN]
  unfold fva
  rw [nw_i, nw_l, nw_q]
  rfl
theorem mw_new {idx ci : Nat} (hdg : decode M.2.1 pc = .ok (.new idx, 3)) (hc : ci < 9) (hw : Cond.classLink M.1.cls idx (clT ci).1 ∈ wG) (hw2 : Cond.instantiable (clT ci).1 (clT ci).2.2 ∈ wG) (hw3 : Cond.initialized (clT ci).1 ∈ wG)
    (kk : MW E M d mc ms (pc + 3) lo (vq (some h.1.length) :: st) (nw h ci 0) Q) : MW E M d (mc + 1) (ms + (clT ci).2.2) pc lo st h Q := by
  intro p e R s m args below meth c H locs cells slots Qf ls C hR k1 k2 hS hV hL hE
  have hts := C.2.2.2.2.2.1
  have hKn := C.2.2.2.2.2.2.2.2.1.1.1 ci _ (clT_at hc)
  refine W.newcK C.1 C.2.1 C.2.2.2.2.1 (hts _ hw) (hts _ hw2) (hts _ hw3) rfl hdg (by omega) (by omega) hKn.2.1 hS.next fun H1 kC hkC e1 z1 o1 => ?_
  have hz : H1.size = H.size + 1 := by rw [z1, ← hS.next]
  have ho : ∀ q, q < H.size → H1[q]? = H[q]? := fun q hq => o1 q (by rw [← hS.next]; exact hq)
  have hS' : Sm E (nw h ci 0) H1 := by
    refine hS.made hz ho (fun _ => ?_)
    rw [ce_obj (x := (ci, 0)) hc]
    refine ⟨_, clT_at hc, (u_born (tyc ci) hts (clT_ws hc) hKn hkC e1 (clT_ty hc)).to (fun j hj => ?_)⟩
    rw [dflt_fva (E := E) (h := h) hc hj]
    unfold vp_V
    rw [List.getD_eq_getElem?_getD, fl_get (by rw [nfl_eq hc]; exact hj)]
    rfl
  exact kk p e R s m args below meth c H1 locs (cells + 1) (slots + (clT ci).2.2) Qf ls C hR (by omega) (by omega) hS' (AA.grow hV hz ho) hL (fun r h' H' locs' cells' slots' pc' ls' st' q a b c1 c2 => hE r h' H' locs' cells' slots' pc' ls' st' q a b (by omega) (by omega))
end MwD
