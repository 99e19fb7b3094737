section MwC
variable {E : En} {M : Mi} {d mc ms pc : Nat} {lo : List (Option Vv)} {st : List Vv} {h : Hp} {Q : Option Vv → Hp → Prop}
theorem narrow_ref (n : String) (x : Option Nat) : narrow (.object n) (va_rf x) = va_rf x := by cases x <;> rfl
theorem narrow_arr (t : FieldType) (x : Option Nat) : narrow (.array t) (va_rf x) = va_rf x := by cases x <;> rfl
theorem fits_ref (n : String) (x : Option Nat) : fits (.object n) (va_rf x) = true := by cases x <;> rfl
theorem fits_arr (t : FieldType) (x : Option Nat) : fits (.array t) (va_rf x) = true := by cases x <;> rfl
/-- putfield -/
theorem mw_putf {idx ci n k a : Nat} {x : Option Nat} {v : Vv} {h' : Hp} (hdg : decode M.2.1 pc = .ok (.putfield idx, 3)) (hf : Fl M.1.cls idx ci k)
    (hfin : ((clT ci).2.1 k).2.2.2 = false ∨ (((clT ci).2.1 k).2.2.2 = true ∧ M.1.name = "<init>" ∧ ((clT ci).2.1 k).1 = M.1.cls)) (hx : x = some a) (hkd : hk h a = some (ci, n))
    (hn : narrow (tyc ci k) (rv E v) = rv E v) (hfit : fits (tyc ci k) (rv E v) = true) (hh : h'.1 = h.1) (hrw : ∀ b, b ≠ a → ∀ k, hi h' b k = hi h b k) (ho : ∀ b, b ≠ a → ∀ x, ce E h' x b = ce E h x b) (hw : ∀ j, fva E h' ci a j = if j = k then rv E v else fva E h ci a j)
    (kk : MW E M d mc ms (pc + 3) lo st h' Q) : MW E M d mc ms pc lo (v :: vq x :: st) h Q := by
  intro p e R s m args below meth c H locs cells slots Qf ls C hR h1 h2 hS hV hL hE
  subst hx
  have hci := hf.1
  have ha : 8 ≤ a := hS.new hkd (by show ci ≠ 10; omega) (by show ci < 17; omega)
  have hat := hS.2.2.2 a _ ha hkd (by show ci < 17; omega)
  rw [ce_obj hf.1] at hat
  have hc := clT_at hf.1
  have hts := C.2.2.2.2.2.1
  have hin := clT_ws hf.1
  have hK := C.2.2.2.2.2.2.2.2.1.1
  have hown := C.2.2.2.2.1
  have hkN := hf.2.1
  have hap := va_apart (own := M.1.cls) hts hin (tyc ci) (clT_ty hf.1) (clT_nm hf.1) hK hc
  obtain ⟨r, g1, cell, q1, q2, q3, q4⟩ := hat
  have hr : r = ((clT ci).1, (clT ci).2.1, (clT ci).2.2) := Option.some.inj (g1.symm.trans hc)
  subst hr
  obtain ⟨hSl, hfc, kC, hkC, hkind⟩ := hK.1 ci _ hc
  obtain ⟨cf, kf, fi, f, hif, hsl⟩ := hSl k hkN
  have hlay := hts _ (hin _ (u_in_lay hkN))
  have hd := clT_ty hf.1 k hkN
  have hst := (u_facts hfc hkC (u_lays hts hin hkN) hif).1
  have fin : ∀ (H' : Heap), H'[ad E a]? = some (cell.setSlot f.slot (rv E v)) → H'.size = H.size → (∀ q, q ≠ ad E a → H'[q]? = H[q]?) → W p E.1 e R s m args below meth c H' (locs ++ [⟨ad E a, f.slot⟩]) cells slots Qf (F0 m (pc + 3) ls (st.map (rv E))) := by
    intro H' e1 e2 e3
    refine kk p e R s m args below meth c H' _ cells slots Qf ls C hR h1 h2 (hS.upd hh ha hrw ho e2 e3 ?_) (hV.put e2 e3 (Sm.AA ha)) hL hE
    intro x0 hx0
    have hx1 : x0 = (ci, n) := Option.some.inj (hx0.symm.trans hkd)
    subst hx1
    rw [ce_obj hf.1]
    refine ⟨_, hc, t_OB.to (V := updV (vp_V ((List.range (nfl ci)).map (fun k => fva E h ci a k))) k (rv E v)) ⟨_, e1, q2, q3, ?_⟩ ?_⟩
    · rw [hsl]
      exact t_set q4 hap hkN (rv E v)
    · intro j hj
      have hj' : j < nfl ci := by rw [nfl_eq hf.1]; exact hj
      have v1 : vp_V ((List.range (nfl ci)).map (fun k => fva E h ci a k)) j = fva E h ci a j := by
        unfold vp_V
        rw [List.getD_eq_getElem?_getD, fl_get hj']
        rfl
      have v2 : vp_V ((List.range (nfl ci)).map (fun k => fva E h' ci a k)) j = fva E h' ci a j := by
        unfold vp_V
        rw [List.getD_eq_getElem?_getD, fl_get hj']
        rfl
      rw [v2, hw j]
      unfold updV
      by_cases hjk : j = k
      · simp [hjk]
      · simp only [hjk, if_false]
        exact v1
  rcases hfin with hfin | ⟨hfin, hini, hdecl⟩
  · unfold u_lay at hlay
    rw [if_neg (by rw [hfin]; decide)] at hlay
    have h6 := u_store hfc hkC hkind hlay hif hd hn hfit
    exact W.putK C.1 C.2.1 (f := f) ⟨hown, hts _ hf.2.2, ⟨_, _, _, hif⟩, hst⟩ (by rw [q2]; exact h6) q1 q3 (by rw [hsl]; exact k2_hasslot (q4 k hkN)) rfl rfl hdg fin
  · unfold u_lay at hlay
    rw [if_pos hfin] at hlay
    have hcf : m.cls = cf := by
      obtain ⟨_, _, c', _, _, _, -, -, hf', -, -, -, hown2, -⟩ := Cond.laysFinal_spec hlay
      have e1 : c' = cf := by have := hif.symm.trans hf'; simp at this; exact this.1.symm
      rw [hdecl] at hown2
      rw [← e1]; exact Option.some.inj (hown.symm.trans hown2)
    have h6 := u_fits hfc hkC hkind (Or.inr hlay) hif hd hn hfit
    exact W.putFinK C.1 C.2.1 hown (hts _ hf.2.2) hif hst hcf (C.2.2.2.2.2.2.2.1 hini) (by rw [q2]; exact h6) q1 q3 (by rw [hsl]; exact k2_hasslot (q4 k hkN)) rfl rfl hdg fin
theorem ce_si {a k b : Nat} {v : Int32} (hb : b ≠ a) (x : Nat × Nat) : ce E (si h a k v) x b = ce E h x b := ce_congr (fun j => by rw [hi_si, if_neg (fun q => hb q.1)]) (fun _ => rfl) (fun _ => rfl)
theorem ce_sj {a k b : Nat} {v : Int64} (hb : b ≠ a) (x : Nat × Nat) : ce E (sj h a k v) x b = ce E h x b := ce_congr (fun _ => rfl) (fun j => by rw [hj_sj, if_neg (fun q => hb q.1)]) (fun _ => rfl)
theorem ce_sq {a k b : Nat} {v : Option Nat} (hb : b ≠ a) (x : Nat × Nat) : ce E (sq h a k v) x b = ce E h x b := ce_congr (fun _ => rfl) (fun _ => rfl) (fun j => by rw [hq_sq, if_neg (fun q => hb q.1)])
/-- may this field be written here -/
def Pf (M : Mi) (ci k : Nat) : Prop := ((clT ci).2.1 k).2.2.2 = false ∨ (((clT ci).2.1 k).2.2.2 = true ∧ M.1.name = "<init>" ∧ ((clT ci).2.1 k).1 = M.1.cls)
theorem mw_putI {idx ci n k a : Nat} {x : Option Nat} {v : Int32} (hdg : decode M.2.1 pc = .ok (.putfield idx, 3)) (hf : Fl M.1.cls idx ci k) (hfin : Pf M ci k) (ht : fkd ci k = 0) (hty : tyc ci k = .int) (hx : x = some a) (hkd : hk h a = some (ci, n))
    (kk : MW E M d mc ms (pc + 3) lo st (si h a k v) Q) : MW E M d mc ms pc lo (vi v :: vq x :: st) h Q := by
  refine mw_putf (h' := si h a k v) hdg hf hfin hx hkd (by rw [hty]; rfl) (by rw [hty]; rfl) rfl (fun b hb k => by rw [hi_si, if_neg (fun q => hb q.1)]) (fun b hb x => ce_si hb x) (fun j => ?_) kk
  by_cases hj : j = k
  · subst hj
    unfold fva
    rw [ht, hi_si]
    simp [rv]
  · unfold fva
    rw [hi_si, if_neg (fun q => hj q.2), if_neg hj]
    rfl
theorem mw_putZ {idx ci n k a : Nat} {x : Option Nat} {v : Int32} (hdg : decode M.2.1 pc = .ok (.putfield idx, 3)) (hf : Fl M.1.cls idx ci k) (hfin : Pf M ci k) (ht : fkd ci k = 0) (hty : tyc ci k = .boolean) (hx : x = some a) (hkd : hk h a = some (ci, n)) (hv : v = 0 ∨ v = 1)
    (kk : MW E M d mc ms (pc + 3) lo st (si h a k v) Q) : MW E M d mc ms pc lo (vi v :: vq x :: st) h Q := by
  refine mw_putf (h' := si h a k v) hdg hf hfin hx hkd (by rw [hty]; rcases hv with rfl | rfl <;> rfl) (by rw [hty]; rcases hv with rfl | rfl <;> rfl) rfl (fun b hb k => by rw [hi_si, if_neg (fun q => hb q.1)]) (fun b hb x => ce_si hb x) (fun j => ?_) kk
  by_cases hj : j = k
  · subst hj
    unfold fva
    rw [ht, hi_si]
    simp [rv]
  · unfold fva
    rw [hi_si, if_neg (fun q => hj q.2), if_neg hj]
    rfl
theorem mw_putJ {idx ci n k a : Nat} {x : Option Nat} {v : Int64} (hdg : decode M.2.1 pc = .ok (.putfield idx, 3)) (hf : Fl M.1.cls idx ci k) (hfin : Pf M ci k) (ht : fkd ci k = 1) (hty : tyc ci k = .long) (hx : x = some a) (hkd : hk h a = some (ci, n))
    (kk : MW E M d mc ms (pc + 3) lo st (sj h a k v) Q) : MW E M d mc ms pc lo (vl v :: vq x :: st) h Q := by
  refine mw_putf (h' := sj h a k v) hdg hf hfin hx hkd (by rw [hty]; rfl) (by rw [hty]; rfl) rfl (fun b hb k => rfl) (fun b hb x => ce_sj hb x) (fun j => ?_) kk
  by_cases hj : j = k
  · subst hj
    unfold fva
    rw [ht, hj_sj]
    simp [rv]
  · unfold fva
    rw [hj_sj, if_neg (fun q => hj q.2), if_neg hj]
    rfl
theorem mw_putQ {idx ci n k a : Nat} {x v : Option Nat} (hdg : decode M.2.1 pc = .ok (.putfield idx, 3)) (hf : Fl M.1.cls idx ci k) (hfin : Pf M ci k) (ht : fkd ci k = 2) (hty : (∃ t, tyc ci k = .object t) ∨ ∃ t, tyc ci k = .array t) (hx : x = some a) (hkd : hk h a = some (ci, n))
    (kk : MW E M d mc ms (pc + 3) lo st (sq h a k v) Q) : MW E M d mc ms pc lo (vq v :: vq x :: st) h Q := by
  refine mw_putf (h' := sq h a k v) hdg hf hfin hx hkd (by rcases hty with ⟨t, e⟩ | ⟨t, e⟩ <;> rw [e] <;> first | exact narrow_ref _ _ | exact narrow_arr _ _) (by rcases hty with ⟨t, e⟩ | ⟨t, e⟩ <;> rw [e] <;> first | exact fits_ref _ _ | exact fits_arr _ _) rfl (fun b hb k => rfl) (fun b hb x => ce_sq hb x) (fun j => ?_) kk
  by_cases hj : j = k
  · subst hj
    unfold fva
    rw [ht, hq_sq]
    simp [rv]
  · unfold fva
    rw [hq_sq, if_neg (fun q => hj q.2), if_neg hj]
    rfl
/-- an array's cell -/
theorem Sm.arr {H : Heap} (hS : Sm E h H) {a kd n : Nat} (h5 : 8 ≤ a) (hkd : hk h a = some (kd, n)) (h1 : ¬ kd < 9) (h2 : kd < 17) : H[ad E a]? = some (vp_cell (ec E kd) (n, cnt E h kd a)) := by
  have hat := hS.2.2.2 a _ h5 hkd h2
  rw [ce_arr (x := (kd, n)) h1] at hat
  exact hat
theorem Gd.arr {U : State} {H : Heap} (hG : Gd E U H) {kd : Nat} (h1 : ¬ kd < 9) (h2 : kd < 17) : ArrOfT U (ec E kd) (tyk kd) ∧ va_RA U (ec E kd) (tyk kd) := by
  have ht : (tys E)[kd - 9]? = some (ec E kd, tyk kd) := by
    unfold tys
    rw [List.getElem?_map, List.getElem?_range (by omega)]
    simp only [Option.map_some]
    rw [show kd - 9 + 9 = kd by omega]
  exact hG.1.2 _ _ ht
/-- an old row -/
theorem Sm.old {H : Heap} (hS : Sm E h H) {a n : Nat} (h5 : ¬ 8 ≤ a) (hkd : hk h a = some (10, n)) : a < 3 ∧ n = el E a ∧ ∀ k, hi h a k = ex E a k := by
  rcases hS.2.2.1 a (by omega) _ hkd with ⟨e1, e2, e3⟩ | e1
  · exact ⟨e2, congrArg Prod.snd e1, e3⟩
  · exact absurd e1 (by simp)
theorem ad_old {a : Nat} (h5 : ¬ 8 ≤ a) : ad E a = eo E a := if_pos (by omega)
theorem mw_alen {kd n a : Nat} {x : Option Nat} (hdg : decode M.2.1 pc = .ok (.arraylength, 1)) (hx : x = some a) (hkd : hk h a = some (kd, n)) (h1 : ¬ kd < 9) (h2 : kd < 17) (kk : MW E M d mc ms (pc + 1) lo (vi (nI n) :: st) h Q) : MW E M d mc ms pc lo (vq x :: st) h Q := by
  intro p e R s m args below meth c H locs cells slots Qf ls C hR k1 k2 hS hV hL hE
  subst hx
  have kk' := kk p e R s m args below meth c H locs cells slots Qf ls C hR k1 k2 hS hV hL hE
  by_cases h5 : 8 ≤ a
  · have hA := (C.2.2.2.2.2.2.2.2.1.arr h1 h2).1
    have hc := hS.arr h5 hkd h1 h2
    have hcell : ∃ z : Nat → Value, vp_cell (ec E kd) (n, cnt E h kd a) = arrV (ec E kd) n z := by
      unfold cnt
      split
      · exact ⟨fun j => .long (hj h a j), rfl⟩
      · split
        · exact ⟨fun j => .int (hi h a j), rfl⟩
        · exact ⟨fun j => va_rf ((hq h a j).map (ad E)), rfl⟩
    obtain ⟨z, hz⟩ := hcell
    rw [hz] at hc
    exact W.alen (n := nI n) C.1 C.2.1 hc (hA n z) (by rw [arrV_size]; rfl) rfl rfl hdg kk'
  · have hk10 : kd = 10 := by
      rcases hS.2.2.1 a (by omega) _ hkd with ⟨e1, -⟩ | e1
      · exact congrArg Prod.fst e1
      · have : 17 ≤ kd := e1
        omega
    subst hk10
    obtain ⟨o1, o2, o3⟩ := hS.old h5 hkd
    obtain ⟨scr, g1, g2, g3, g4, g5, g6, g7⟩ := (C.2.2.2.2.2.2.2.2.1.2.2.2.2 a o1)
    have hcell : H[ad E a]? = some scr := by
      rw [ad_old h5, hV.2.1 _ (Array.getElem?_eq_some_iff.mp g1).1 g7]
      exact g1
    exact W.alen (n := nI n) C.1 C.2.1 hcell g2 (by rw [g5, o2]; rfl) rfl rfl hdg kk'
theorem cnt_i {kd a : Nat} (h1 : kd < 13) (h2 : kd ≠ 11) : cnt E h kd a = .inl (hi h a) := by unfold cnt; rw [if_neg h2, if_pos h1]
theorem cnt_l {a : Nat} : cnt E h 11 a = .inr (.inl (hj h a)) := rfl
theorem cnt_q {kd a : Nat} (h1 : ¬ kd < 13) : cnt E h kd a = .inr (.inr (.inr (.inr (fun k => (hq h a k).map (ad E))))) := by unfold cnt; rw [if_neg (by omega), if_neg h1]
theorem mw_iald {n a : Nat} {x : Option Nat} {i : Int32} (hdg : decode M.2.1 pc = .ok (.iaload, 1)) (hx : x = some a) (hkd : hk h a = some (10, n)) (hin : vp_in i n) (kk : MW E M d mc ms (pc + 1) lo (vi (hi h a i.toNatClampNeg) :: st) h Q) : MW E M d mc ms pc lo (vi i :: vq x :: st) h Q := by
  intro p e R s m args below meth c H locs cells slots Qf ls C hR k1 k2 hS hV hL hE
  subst hx
  have hlt : i.toNatClampNeg < n := Nat.not_le.mp fun q => hin (Or.inr q)
  have kk' := kk p e R s m args below meth c H locs cells slots Qf ls C hR k1 k2 hS hV hL hE
  by_cases h5 : 8 ≤ a
  · have hc := hS.arr h5 hkd (by decide) (by decide)
    exact W.iald (v := .int (hi h a i.toNatClampNeg)) C.1 C.2.1 hc ((C.2.2.2.2.2.2.2.2.1.arr (kd := 10) (by decide) (by decide)).1 n (fun j => .int (hi h a j))) (fun q => by cases q) (by show ¬ (i < 0 ∨ (arrV _ _ _).slots.size ≤ _); rw [arrV_size]; exact hin) (by show (arrV _ _ _).slots[_]? = _; rw [arrV_read _ _ hlt]) rfl rfl hdg kk'
  · obtain ⟨o1, o2, o3⟩ := hS.old h5 hkd
    obtain ⟨scr, g1, g2, g3, g4, g5, g6, g7⟩ := (C.2.2.2.2.2.2.2.2.1.2.2.2.2 a o1)
    have hcell : H[ad E a]? = some scr := by
      rw [ad_old h5, hV.2.1 _ (Array.getElem?_eq_some_iff.mp g1).1 g7]
      exact g1
    exact W.iald (v := .int (hi h a i.toNatClampNeg)) C.1 C.2.1 hcell g2 g3 (fun q => hin (q.imp id (fun q2 => by omega))) (by rw [g6 _ (by omega), o3]) rfl rfl hdg kk'
theorem mw_bald {n a : Nat} {x : Option Nat} {i : Int32} (hdg : decode M.2.1 pc = .ok (.baload, 1)) (hx : x = some a) (hkd : hk h a = some (9, n)) (hin : vp_in i n) (kk : MW E M d mc ms (pc + 1) lo (vi (hi h a i.toNatClampNeg) :: st) h Q) : MW E M d mc ms pc lo (vi i :: vq x :: st) h Q := by
  intro p e R s m args below meth c H locs cells slots Qf ls C hR k1 k2 hS hV hL hE
  subst hx
  have hlt : i.toNatClampNeg < n := Nat.not_le.mp fun q => hin (Or.inr q)
  have hc := hS.arr (hS.new hkd (by simp) (by simp)) hkd (by decide) (by decide)
  exact W.bald (v := .int (hi h a i.toNatClampNeg)) C.1 C.2.1 hc ((C.2.2.2.2.2.2.2.2.1.arr (kd := 9) (by decide) (by decide)).1 n (fun j => .int (hi h a j))) (fun q => by cases q) (by show ¬ (i < 0 ∨ (arrV _ _ _).slots.size ≤ _); rw [arrV_size]; exact hin) (by show (arrV _ _ _).slots[_]? = _; rw [arrV_read _ _ hlt]) rfl rfl hdg (kk p e R s m args below meth c H locs cells slots Qf ls C hR k1 k2 hS hV hL hE)
theorem mw_zald {n a : Nat} {x : Option Nat} {i : Int32} (hdg : decode M.2.1 pc = .ok (.baload, 1)) (hx : x = some a) (hkd : hk h a = some (12, n)) (hin : vp_in i n) (kk : MW E M d mc ms (pc + 1) lo (vi (hi h a i.toNatClampNeg) :: st) h Q) : MW E M d mc ms pc lo (vi i :: vq x :: st) h Q := by
  intro p e R s m args below meth c H locs cells slots Qf ls C hR k1 k2 hS hV hL hE
  subst hx
  have hlt : i.toNatClampNeg < n := Nat.not_le.mp fun q => hin (Or.inr q)
  have hc := hS.arr (hS.new hkd (by simp) (by simp)) hkd (by decide) (by decide)
  exact W.zald (v := .int (hi h a i.toNatClampNeg)) C.1 C.2.1 hc ((C.2.2.2.2.2.2.2.2.1.arr (kd := 12) (by decide) (by decide)).1 n (fun j => .int (hi h a j))) (fun q => by cases q) (by show ¬ (i < 0 ∨ (arrV _ _ _).slots.size ≤ _); rw [arrV_size]; exact hin) (by show (arrV _ _ _).slots[_]? = _; rw [arrV_read _ _ hlt]) rfl rfl hdg (kk p e R s m args below meth c H locs cells slots Qf ls C hR k1 k2 hS hV hL hE)
theorem mw_lald {n a : Nat} {x : Option Nat} {i : Int32} (hdg : decode M.2.1 pc = .ok (.laload, 1)) (hx : x = some a) (hkd : hk h a = some (11, n)) (hin : vp_in i n) (kk : MW E M d mc ms (pc + 1) lo (vl (hj h a i.toNatClampNeg) :: st) h Q) : MW E M d mc ms pc lo (vi i :: vq x :: st) h Q := by
  intro p e R s m args below meth c H locs cells slots Qf ls C hR k1 k2 hS hV hL hE
  subst hx
  have hlt : i.toNatClampNeg < n := Nat.not_le.mp fun q => hin (Or.inr q)
  have hc := hS.arr (hS.new hkd (by simp) (by simp)) hkd (by decide) (by decide)
  exact W.lald (v := .long (hj h a i.toNatClampNeg)) C.1 C.2.1 hc ((C.2.2.2.2.2.2.2.2.1.arr (kd := 11) (by decide) (by decide)).1 n (fun j => .long (hj h a j))) (fun q => by cases q) (by show ¬ (i < 0 ∨ (arrV _ _ _).slots.size ≤ _); rw [arrV_size]; exact hin) (by show (arrV _ _ _).slots[_]? = _; rw [arrV_read _ _ hlt]) rfl rfl hdg (kk p e R s m args below meth c H locs cells slots Qf ls C hR k1 k2 hS hV hL hE)
theorem tyk_obj {kd : Nat} (h1 : ¬ kd < 13) (h2 : kd < 17) : ∃ C, tyk kd = .object C := by
  rcases (show kd = 13 ∨ kd = 14 ∨ kd = 15 ∨ kd = 16 by omega) with rfl | rfl | rfl | rfl
  all_goals exact ⟨_, rfl⟩
theorem mw_aald {kd n a : Nat} {x : Option Nat} {i : Int32} (hdg : decode M.2.1 pc = .ok (.aaload, 1)) (hx : x = some a) (hkd : hk h a = some (kd, n)) (h1 : ¬ kd < 13) (h2 : kd < 17) (hin : vp_in i n) (kk : MW E M d mc ms (pc + 1) lo (vq (hq h a i.toNatClampNeg) :: st) h Q) : MW E M d mc ms pc lo (vi i :: vq x :: st) h Q := by
  intro p e R s m args below meth c H locs cells slots Qf ls C hR k1 k2 hS hV hL hE
  subst hx
  have hlt : i.toNatClampNeg < n := Nat.not_le.mp fun q => hin (Or.inr q)
  have hc := hS.arr (hS.new hkd (by show kd ≠ 10; omega) (by show kd < 17; omega)) hkd (by omega) h2
  rw [cnt_q h1] at hc
  obtain ⟨Cn, hCn⟩ := tyk_obj h1 h2
  exact W.aald (v := va_rf ((hq h a i.toNatClampNeg).map (ad E))) (ty := tyk kd) C.1 C.2.1 hc ((C.2.2.2.2.2.2.2.2.1.arr (kd := kd) (by omega) h2).1 n (fun j => va_rf ((hq h a j).map (ad E)))) (by rw [hCn]; rfl) (fun q => by cases q) (by show ¬ (i < 0 ∨ (arrV _ _ _).slots.size ≤ _); rw [arrV_size]; exact hin) (by show (arrV _ _ _).slots[_]? = _; rw [arrV_read _ _ hlt]) rfl rfl hdg (kk p e R s m args below meth c H locs cells slots Qf ls C hR k1 k2 hS hV hL hE)
end MwC
