/-! What is known of one worker does not hang on what is told of others. -/
section Cg
variable {F F' : Nat → Nat → Int32} {wk k : Int32} {n : Nat}
def AGR (F F' : Nat → Nat → Int32) (wk : Int32) (n : Nat) : Prop := ∀ f, f < n → F' 1 f = F 1 f ∧ (F 1 f = wk → ∀ j, F' j f = F j f)
theorem cnts_agr (a : AGR F F' wk n) {f : Nat} (hf : f < n) (s : Int32) : cnts F' s wk k f = cnts F s wk k f := by
  obtain ⟨a1, a2⟩ := a f hf
  by_cases c : F 1 f = wk
  · have q := a2 c
    unfold cnts ctk
    rw [q 0, q 1, q 5, q 6]
  · have c' : ¬ F' 1 f = wk := by rw [a1]; exact c
    unfold cnts
    rw [decide_eq_false (fun z => c' z.2), decide_eq_false (fun z => c z.2), Bool.false_and, Bool.false_and]
theorem PDn_agr (a : AGR F F' wk n) : ∀ m, m ≤ n → PDn F' wk k m = PDn F wk k m
  | 0, _ => rfl
  | m + 1, hm => by
    funext i w
    show (if cnts F' 0 wk k m = true ∧ F' 2 m = nI w ∧ F' 3 m = nI i then F' 4 m else PDn F' wk k m i w) = (if cnts F 0 wk k m = true ∧ F 2 m = nI w ∧ F 3 m = nI i then F 4 m else PDn F wk k m i w)
    rw [PDn_agr a m (by omega), cnts_agr a (by omega)]
    by_cases c : cnts F 0 wk k m = true
    · have q := (a m (by omega)).2 (cnts_iff.mp c).2.1
      rw [q 2, q 3, q 4]
    · rw [if_neg (fun z => c z.1), if_neg (fun z => c z.1)]
theorem LSn_agr (a : AGR F F' wk n) : ∀ m, m ≤ n → LSn F' wk k m = LSn F wk k m
  | 0, _ => rfl
  | m + 1, hm => by
    funext w
    show ((cnts F' 1 wk k m && decide (F' 2 m = nI w)) || LSn F' wk k m w) = ((cnts F 1 wk k m && decide (F 2 m = nI w)) || LSn F wk k m w)
    rw [LSn_agr a m (by omega), cnts_agr a (by omega)]
    by_cases c : cnts F 1 wk k m = true
    · have q := (a m (by omega)).2 (cnts_iff.mp c).2.1
      rw [q 2]
    · rw [Bool.eq_false_iff.mpr c, Bool.false_and, Bool.false_and]
theorem BKn_agr (a : AGR F F' wk n) : ∀ m, m ≤ n → BKn F' wk k m = BKn F wk k m
  | 0, _ => rfl
  | m + 1, hm => by
    show (if cnts F' 2 wk k m = true then BKn F' wk k m ++ [m] else BKn F' wk k m) = (if cnts F 2 wk k m = true then BKn F wk k m ++ [m] else BKn F wk k m)
    rw [BKn_agr a m (by omega), cnts_agr a (by omega)]
theorem cnts_off (hne : F 1 n ≠ wk) (s : Int32) : ¬ cnts F s wk k n = true := fun z => hne (cnts_iff.mp z).2.1
theorem PDn_off (hne : F 1 n ≠ wk) : PDn F wk k (n + 1) = PDn F wk k n := by
  funext i w
  exact if_neg (fun z => cnts_off hne 0 z.1)
theorem LSn_off (hne : F 1 n ≠ wk) : LSn F wk k (n + 1) = LSn F wk k n := by
  funext w
  show ((cnts F 1 wk k n && decide (F 2 n = nI w)) || LSn F wk k n w) = LSn F wk k n w
  rw [Bool.eq_false_iff.mpr (cnts_off hne 1), Bool.false_and, Bool.false_or]
theorem BKn_off (hne : F 1 n ≠ wk) : BKn F wk k (n + 1) = BKn F wk k n := if_neg (cnts_off hne 2)
theorem BKn_in : ∀ m, ∀ f ∈ BKn F wk k m, f < m ∧ cnts F 2 wk k f = true
  | 0, f, hf => absurd hf List.not_mem_nil
  | m + 1, f, hf => by
    have e : BKn F wk k (m + 1) = if cnts F 2 wk k m = true then BKn F wk k m ++ [m] else BKn F wk k m := rfl
    rw [e] at hf
    split at hf
    · rename_i c
      rcases List.mem_append.mp hf with q | q
      · have := BKn_in m f q
        exact ⟨by omega, this.2⟩
      · rw [List.mem_singleton] at q
        subst q
        exact ⟨by omega, c⟩
    · have := BKn_in m f hf
      exact ⟨by omega, this.2⟩
theorem WAY_congr {ls : Nat → Bool} {T : Nat → Int} {bA bE bA' bE' : Nat → Nat} {bT bT' : Nat → Int} {bc : Nat} (h : ∀ b, b < bc → bA' b = bA b ∧ bE' b = bE b ∧ bT' b = bT b) : WAY ls T bA' bE' bT' bc = WAY ls T bA bE bT bc := by
  funext out S
  unfold WAY
  refine propext ⟨fun z => ⟨z.1, fun b hb ho => ?_⟩, fun z => ⟨z.1, fun b hb ho => ?_⟩⟩
  · obtain ⟨q1, q2, q3⟩ := h b hb
    have := z.2 b hb ho
    rw [q1, q2, q3] at this
    exact this
  · obtain ⟨q1, q2, q3⟩ := h b hb
    rw [q1, q2, q3]
    exact z.2 b hb ho
theorem getD_in (L : List Nat) {b : Nat} (hb : b < L.length) : L.getD b 0 ∈ L := by
  rw [List.getD_eq_getElem?_getD, List.getElem?_eq_getElem hb]
  exact List.getElem_mem hb
/-- the same of a worker: payments, lost weeks, banks -/
theorem CW_eq {g : Hp} {a n' : Nat} (eP : PDn F' wk k n' = PDn F wk k n) (eL : LSn F' wk k n' = LSn F wk k n) (eB : BKn F' wk k n' = BKn F wk k n) (eF : ∀ f ∈ BKn F wk k n, ∀ j, F' j f = F j f) (c : CW g a F wk k n) : CW g a F' wk k n' := by
  have e1 : PD F' wk k n' = PD F wk k n := by funext i w; unfold PD; rw [eP, eL]
  have e2 : totI F' wk k n' = totI F wk k n := by funext w; unfold totI; rw [e1]
  have e3 : bkc F' wk k n' = bkc F wk k n := by unfold bkc; rw [eB]
  have eW : WAY (LSn F' wk k n') (totI F' wk k n') (bkA F' wk k n') (bkE F' wk k n') (bkT F' wk k n') (bkc F' wk k n') = WAY (LSn F wk k n) (totI F wk k n) (bkA F wk k n) (bkE F wk k n) (bkT F wk k n) (bkc F wk k n) := by
    rw [eL, e2, e3]
    refine WAY_congr (fun b hb => ?_)
    have m := eF _ (getD_in (BKn F wk k n) hb)
    unfold bkA bkE bkT
    rw [eB, m 2, m 3, m 4]
    exact ⟨rfl, rfl, rfl⟩
  have e4 : CANk F' wk k n' = CANk F wk k n := by funext s; unfold CANk CAN; rw [eW]
  have e5 : QRL F' wk k n' = QRL F wk k n := by unfold QRL; rw [e4, e3]
  have e6 : OUTk F' wk k n' = OUTk F wk k n := by unfold OUTk; rw [e5, e3]
  have e7 : MXk F' wk k n' = MXk F wk k n := by funext o u v z; unfold MXk MXD; rw [eW]
  have e8 : HIG F' wk k n' = HIG F wk k n := by funext w; unfold HIG; rw [e1, e6, e7, eL]
  have e9 : LOW F' wk k n' = LOW F wk k n := by funext w; unfold LOW; rw [e1, e6, e7, eL]
  unfold CW at c ⊢
  rw [e1, eL, e5, e8, e9]
  exact c
theorem CW_agr {g : Hp} {a : Nat} (ag : AGR F F' wk n) (c : CW g a F wk k n) : CW g a F' wk k n :=
  CW_eq (PDn_agr ag n (Nat.le_refl _)) (LSn_agr ag n (Nat.le_refl _)) (BKn_agr ag n (Nat.le_refl _)) (fun f hf j => by
    obtain ⟨q1, q2⟩ := BKn_in n f hf
    exact (ag f q1).2 (cnts_iff.mp q2).2.1 j) c
theorem CW_more {g : Hp} {a : Nat} (ag : AGR F F' wk n) (hne : F' 1 n ≠ wk) (c : CW g a F wk k n) : CW g a F' wk k (n + 1) :=
  CW_eq ((PDn_off hne).trans (PDn_agr ag n (Nat.le_refl _))) ((LSn_off hne).trans (LSn_agr ag n (Nat.le_refl _))) ((BKn_off hne).trans (BKn_agr ag n (Nat.le_refl _))) (fun f hf j => by
    obtain ⟨q1, q2⟩ := BKn_in n f hf
    exact (ag f q1).2 (cnts_iff.mp q2).2.1 j) c
end Cg
