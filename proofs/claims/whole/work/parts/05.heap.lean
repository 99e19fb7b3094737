section MwB
variable {E : En} {M : Mi} {d mc ms pc : Nat} {lo : List (Option Vv)} {st : List Vv} {h : Hp} {Q : Option Vv → Hp → Prop}
/-- a class of ours by its number -/
def clT (ci : Nat) : vw_C := vwCl.getD ci (RX0, TX0, 6)
theorem clT_at {ci : Nat} (hc : ci < 9) : vwCl[ci]? = some ((clT ci).1, (clT ci).2.1, (clT ci).2.2) := by
  rcases ci with _ | _ | _ | _ | _ | _ | _ | _ | _ | ci
  all_goals first | rfl | omega
def tyc (ci : Nat) : Nat → FieldType := match ci with
  | 0 => tyX0
  | 1 => tyX1
  | 2 => tyX2
  | 3 => tyX3
  | 4 => tyX4
  | 5 => tyX6
  | 6 => tyX7
  | 7 => tyX8
  | _ => tyX9
theorem clT_ty {ci : Nat} (hc : ci < 9) : ∀ k, k < (clT ci).2.2 → parseFieldDescriptor ((clT ci).2.1 k).2.2.1 = some (tyc ci k) := by
  rcases ci with _ | _ | _ | _ | _ | _ | _ | _ | _ | ci
  · exact tyX0_ok
  · exact tyX1_ok
  · exact tyX2_ok
  · exact tyX3_ok
  · exact tyX4_ok
  · exact tyX6_ok
  · exact tyX7_ok
  · exact tyX8_ok
  · exact tyX9_ok
  · omega
theorem clT_nm {ci : Nat} (hc : ci < 9) : ∀ a, a < (clT ci).2.2 → ∀ b, b < (clT ci).2.2 → a ≠ b → ((clT ci).2.1 a).2.1 ≠ ((clT ci).2.1 b).2.1 := by
  rcases ci with _ | _ | _ | _ | _ | _ | _ | _ | _ | ci
  · exact nmX0
  · exact nmX1
  · exact nmX2
  · exact nmX3
  · exact nmX4
  · exact nmX6
  · exact nmX7
  · exact nmX8
  · exact nmX9
  · omega
theorem nfl_eq {ci : Nat} (hc : ci < 9) : nfl ci = (clT ci).2.2 := by
  rcases ci with _ | _ | _ | _ | _ | _ | _ | _ | _ | ci
  all_goals first | rfl | omega
theorem wG_of {w : Cond} (h1 : w ∈ lw_tbl) (h2 : goodWord w = true) : w ∈ wG := List.mem_filter.mpr ⟨h1, h2⟩
set_option maxRecDepth 100000 in
theorem clT_ws0 : ∀ w ∈ u_ws RX0 TX0 6, w ∈ lw_tbl := by decide +kernel
set_option maxRecDepth 100000 in
theorem clT_ws1 : ∀ w ∈ u_ws RX1 TX1 12, w ∈ lw_tbl := by decide +kernel
set_option maxRecDepth 100000 in
theorem clT_ws2 : ∀ w ∈ u_ws RX2 TX2 14, w ∈ lw_tbl := by decide +kernel
set_option maxRecDepth 100000 in
theorem clT_ws3 : ∀ w ∈ u_ws RX3 TX3 3, w ∈ lw_tbl := by decide +kernel
set_option maxRecDepth 100000 in
theorem clT_ws4 : ∀ w ∈ u_ws RX4 TX4 17, w ∈ lw_tbl := by decide +kernel
set_option maxRecDepth 100000 in
theorem clT_ws5 : ∀ w ∈ u_ws RX6 TX6 12, w ∈ lw_tbl := by decide +kernel
set_option maxRecDepth 100000 in
theorem clT_ws6 : ∀ w ∈ u_ws RX7 TX7 12, w ∈ lw_tbl := by decide +kernel
set_option maxRecDepth 100000 in
theorem clT_ws7 : ∀ w ∈ u_ws RX8 TX8 13, w ∈ lw_tbl := by decide +kernel
set_option maxRecDepth 100000 in
theorem clT_ws8 : ∀ w ∈ u_ws RX9 TX9 71, w ∈ lw_tbl := by decide +kernel
theorem lay_good (C : String) (T : u_T) (N : Nat) {w : Cond} (hw : w ∈ u_ws C T N) : goodWord w = true := by
  obtain ⟨k, -, rfl⟩ := List.mem_map.mp hw
  unfold u_lay
  split <;> rfl
theorem clT_ws {ci : Nat} (hc : ci < 9) : ∀ w ∈ u_ws (clT ci).1 (clT ci).2.1 (clT ci).2.2, w ∈ wG := by
  intro w hw
  refine wG_of ?_ (lay_good _ _ _ hw)
  rcases ci with _ | _ | _ | _ | _ | _ | _ | _ | _ | ci
  · exact clT_ws0 w hw
  · exact clT_ws1 w hw
  · exact clT_ws2 w hw
  · exact clT_ws3 w hw
  · exact clT_ws4 w hw
  · exact clT_ws5 w hw
  · exact clT_ws6 w hw
  · exact clT_ws7 w hw
  · exact clT_ws8 w hw
  · omega
/-- the pool's entry of a class names a field -/
def Fl (own : String) (idx ci k : Nat) : Prop := ci < 9 ∧ k < (clT ci).2.2 ∧ Cond.fieldLink own idx ((clT ci).2.1 k).1 ((clT ci).2.1 k).2.1 ((clT ci).2.1 k).2.2.1 ∈ wG
/-- pictures -/
theorem hi_si (a k b j : Nat) (v : Int32) : hi (si h a k v) b j = if b = a ∧ j = k then v else hi h b j := rfl
theorem hj_sj (a k b j : Nat) (v : Int64) : hj (sj h a k v) b j = if b = a ∧ j = k then v else hj h b j := rfl
theorem hq_sq (a k b j : Nat) (v : Option Nat) : hq (sq h a k v) b j = if b = a ∧ j = k then v else hq h b j := rfl
theorem ce_congr {h' : Hp} {x : Nat × Nat} {b : Nat} (h1 : ∀ k, hi h' b k = hi h b k) (h2 : ∀ k, hj h' b k = hj h b k) (h3 : ∀ k, hq h' b k = hq h b k) : ce E h' x b = ce E h x b := by
  unfold ce
  have e1 : (fun k => fva E h' x.1 b k) = (fun k => fva E h x.1 b k) := by
    funext k
    unfold fva
    rw [h1, h2, h3]
  have f1 : hi h' b = hi h b := funext h1
  have f2 : hj h' b = hj h b := funext h2
  have f3 : hq h' b = hq h b := funext h3
  have e2 : cnt E h' x.1 b = cnt E h x.1 b := by
    unfold cnt
    rw [f1, f2, f3]
  rw [e1, e2]
theorem Sm.apart {a b : Nat} (ha : 8 ≤ a) (hb : 8 ≤ b) (hne : b ≠ a) : ad E b ≠ ad E a := by
  unfold ad
  rw [if_neg (by omega : ¬ a < 8), if_neg (by omega : ¬ b < 8)]
  omega
theorem Sm.AA {a : Nat} (ha : 8 ≤ a) : AA E (ad E a) := by
  unfold _root_.Jvm.Pilot.@@N@@.AA ad
  rw [if_neg (by omega : ¬ a < 8)]
  omega
/-- one cell is written -/
theorem Sm.upd {h' : Hp} {H H1 : Heap} (hS : Sm E h H) {a : Nat} (hk' : h'.1 = h.1) (ha : 8 ≤ a) (hrw : ∀ b, b ≠ a → ∀ k, hi h' b k = hi h b k) (hsame : ∀ b, b ≠ a → ∀ x, ce E h' x b = ce E h x b) (hsz : H1.size = H.size) (hoth : ∀ q, q ≠ ad E a → H1[q]? = H[q]?)
    (hnew : ∀ x, hk h a = some x → va_at (eD E) vwCl (ad E a, ce E h' x a) H1) : Sm E h' H1 := by
  refine ⟨by rw [hk']; exact hS.1, by rw [hsz, hk']; exact hS.2.1, fun i h5 x hx => ?_, fun b x hb5 hx hx2 => ?_⟩
  · rcases hS.2.2.1 i h5 x (by unfold hk at hx ⊢; rw [← hk']; exact hx) with ⟨e1, e2, e3⟩ | e1
    · exact Or.inl ⟨e1, e2, fun k => (hrw i (by omega) k).trans (e3 k)⟩
    · exact Or.inr e1
  · have hx' : hk h b = some x := by unfold hk at hx ⊢; rw [← hk']; exact hx
    by_cases hb : b = a
    · subst hb
      exact hnew x hx'
    · rw [hsame b hb x]
      exact (hS.2.2.2 b x hb5 hx' hx2).kept (hoth _ (Sm.apart ha hb5 hb))
theorem ce_obj {x : Nat × Nat} (hx : x.1 < 9) (a : Nat) : ce E h x a = .inr (x.1, (List.range (nfl x.1)).map (fun k => fva E h x.1 a k)) := if_pos hx
theorem ce_arr {x : Nat × Nat} (hx : ¬ x.1 < 9) (a : Nat) : ce E h x a = .inl (ec E x.1, x.2, cnt E h x.1 a) := if_neg hx
theorem fl_get {ci a k : Nat} (hk : k < nfl ci) : ((List.range (nfl ci)).map (fun k => fva E h ci a k))[k]? = some (fva E h ci a k) := by
  rw [List.getElem?_map, List.getElem?_range hk]
  rfl
theorem Sm.new {H : Heap} (hS : Sm E h H) {a : Nat} {x : Nat × Nat} (hx : hk h a = some x) (h1 : x.1 ≠ 10) (h2 : x.1 < 17) : 8 ≤ a := by
  refine Nat.not_lt.mp fun q => ?_
  rcases hS.2.2.1 a q x hx with ⟨e, -⟩ | e
  · exact h1 (by rw [e])
  · omega
/-- getfield -/
theorem mw_getf {idx ci n k a : Nat} {x : Option Nat} {v : Vv} (hdg : decode M.2.1 pc = .ok (.getfield idx, 3)) (hf : Fl M.1.cls idx ci k) (hx : x = some a) (hkd : hk h a = some (ci, n)) (hv : fva E h ci a k = rv E v) (kk : MW E M d mc ms (pc + 3) lo (v :: st) h Q) : MW E M d mc ms pc lo (vq x :: st) h Q := by
  intro p e R s m args below meth c H locs cells slots Qf ls C hR h1 h2 hS hV hL hE
  subst hx
  have hci := hf.1
  have hat := hS.2.2.2 a _ (hS.new hkd (by show ci ≠ 10; omega) (by show ci < 17; omega)) hkd (by show ci < 17; omega)
  rw [ce_obj hf.1] at hat
  have hP : va_P (eD E) vwCl [(ad E a, .inr (ci, (List.range (nfl ci)).map (fun k => fva E h ci a k)))] H := by
    intro i q hq
    rcases i with _ | i
    · cases hq; exact hat
    · simp at hq
  refine va_get (D := eD E) (ci := ci) (tys := tys E) (v := rv E v) (C := (clT ci).1) (T := (clT ci).2.1) (N := (clT ci).2.2) C.1 C.2.1 C.2.2.2.2.2.1 (clT_ws hf.1) C.2.2.2.2.1 C.2.2.2.2.2.2.2.2.1.1 hP 0 rfl (clT_at hf.1) k hf.2.1 (C.2.2.2.2.2.1 _ hf.2.2) (fun _ h9 => h9) ?_ hdg (kk p e R s m args below meth c H locs cells slots Qf ls C hR h1 h2 hS hV hL hE)
  rw [fl_get (by rw [nfl_eq hf.1]; exact hf.2.1), hv]
theorem mw_getI {idx ci n k a : Nat} {x : Option Nat} (hdg : decode M.2.1 pc = .ok (.getfield idx, 3)) (hf : Fl M.1.cls idx ci k) (ht : fkd ci k = 0) (hx : x = some a) (hkd : hk h a = some (ci, n)) (kk : MW E M d mc ms (pc + 3) lo (vi (hi h a k) :: st) h Q) : MW E M d mc ms pc lo (vq x :: st) h Q := mw_getf hdg hf hx hkd (by unfold fva; rw [ht]; rfl) kk
theorem mw_getJ {idx ci n k a : Nat} {x : Option Nat} (hdg : decode M.2.1 pc = .ok (.getfield idx, 3)) (hf : Fl M.1.cls idx ci k) (ht : fkd ci k = 1) (hx : x = some a) (hkd : hk h a = some (ci, n)) (kk : MW E M d mc ms (pc + 3) lo (vl (hj h a k) :: st) h Q) : MW E M d mc ms pc lo (vq x :: st) h Q := mw_getf hdg hf hx hkd (by unfold fva; rw [ht]; rfl) kk
theorem mw_getQ {idx ci n k a : Nat} {x : Option Nat} (hdg : decode M.2.1 pc = .ok (.getfield idx, 3)) (hf : Fl M.1.cls idx ci k) (ht : fkd ci k = 2) (hx : x = some a) (hkd : hk h a = some (ci, n)) (kk : MW E M d mc ms (pc + 3) lo (vq (hq h a k) :: st) h Q) : MW E M d mc ms pc lo (vq x :: st) h Q := mw_getf hdg hf hx hkd (by unfold fva; rw [ht]; rfl) kk
end MwB
