/-! What payouts and marks can be. -/
section Bo
variable {pd : Nat → Nat → Int32} {pl tm : Int32} {A : Ac} {F : Nat → Nat → Int32} {nw nf : Nat}
theorem OWV_bd (ok : AOK A) (hpd : ∀ i u, u < 104 → ∃ a, a ≤ 9999 ∧ pd i u = nI a) (R : RG F nw nf) {f : Nat} (hf : f < nf) (h3 : F 0 f = 3) (wk k : Int32) : ∃ o, o ≤ 999900 ∧ OWV pd pl tm A F wk k nf f = nI o := by
  obtain ⟨d, n, p, r1, r2, r3, r4, r5, r6, r7⟩ := (R.1 f hf).2.2.2.2.1 h3
  obtain ⟨m, m1, m2, m3⟩ := ok.2.2.2.2.1
  obtain ⟨e, ee⟩ : ∃ e, e = (F 2 f).toNatClampNeg / 7 := ⟨_, rfl⟩
  have he : e ≤ 104 := by rw [ee, r5, nI_clamp (by omega)]; omega
  obtain ⟨v, v1, v2⟩ := AVG_bd (pl := pl) (tm := tm) ok hpd he
  unfold OWV
  rw [← ee, v2, r6, r7, m3]
  split
  · exact ⟨0, by omega, rfl⟩
  · have b1' : v * n ≤ 49995 * 20 := Nat.mul_le_mul v1 r3
    obtain ⟨x, ex⟩ : ∃ x, x = v * n := ⟨_, rfl⟩
    rw [← ex] at b1'
    rw [pk_mul, ← ex, pk_div (by omega) (by omega) (by omega)]
    have b2' : x / m ≤ x := Nat.div_le_self _ _
    obtain ⟨y, ey⟩ : ∃ y, y = x / m := ⟨_, rfl⟩
    rw [← ey] at b2' ⊢
    split
    · exact ⟨0, by omega, rfl⟩
    · rename_i z
      have hpy : p ≤ y := by
        rcases Nat.lt_or_ge y p with q | q
        · exact absurd (Int32.le_of_lt (pk_sneg (by omega) q)) z
        · exact q
      exact ⟨y - p, by omega, pk_sub hpy⟩
theorem wiJ_bd {o t c d : Nat} (ho : o ≤ 999900) (ht : t ≤ 999) (hc : c ≤ 999) (hd : d ≤ c) : ∃ a, a ≤ 4000000 ∧ wiJ (nI o) (nI t) (nI c) (nI d) = lN a := by
  unfold wiJ
  have h1 : o * t ≤ 999900 * 999 := Nat.mul_le_mul ho ht
  have h2 : o * t * (c - d) ≤ 999900 * 999 * 999 := Nat.mul_le_mul h1 (by omega)
  rw [pk_sub hd, nI_l (by omega), nI_l (by omega), nI_l (by omega), lN_mul, lN_mul, show (365000 : Int64) = lN 365000 from rfl]
  obtain ⟨x, ex⟩ : ∃ x, x = o * t * (c - d) := ⟨_, rfl⟩
  rw [← ex] at h2 ⊢
  rw [pk_lDiv (by omega) (by omega) (by omega), lN_add]
  have h3 : x / 365000 ≤ 999900 * 999 * 999 / 365000 := Nat.div_le_div_right h2
  have h4 : 999900 * 999 * 999 / 365000 ≤ 3000000 := by decide
  exact ⟨_, by omega, rfl⟩
theorem sJ_bd {f : Nat → Int64} {B : Nat} : ∀ n, (∀ j, j < n → ∃ a, a ≤ B ∧ f j = lN a) → ∃ a, a ≤ n * B ∧ sJ f n = lN a
  | 0, _ => ⟨0, Nat.zero_le _, rfl⟩
  | n + 1, h => by
    obtain ⟨a, a1, a2⟩ := sJ_bd n (fun j hj => h j (by omega))
    obtain ⟨b, b1', b2'⟩ := h n (by omega)
    refine ⟨a + b, ?_, ?_⟩
    · rw [Nat.succ_mul]; omega
    · show sJ f n + f n = _
      rw [a2, b2', lN_add]
theorem orN_lt {p : Nat → Nat} : ∀ n, (∀ j, j < n → p j < 32) → orN p n < 32
  | 0, _ => by show 0 < 32; omega
  | n + 1, h => Nat.or_lt_two_pow (n := 5) (orN_lt n (fun j hj => h j (by omega))) (h n (by omega))
theorem lstC_at (r : Nat → Nat) (D : Int32) : ∀ n, lstC F r D n = 0 ∨ ¬ D < F 2 (r (lstC F r D n - 1))
  | 0 => Or.inl rfl
  | n + 1 => by
    unfold lstC
    split
    · exact lstC_at r D n
    · rename_i z
      right
      rw [Nat.add_sub_cancel]
      exact z
theorem clN_ge {L : (Nat → Nat) × Nat} (srt : ∀ i j, i ≤ j → j < L.2 → (F 2 (L.1 i)).toInt ≤ (F 2 (L.1 j)).toInt) (wk k : Int32) : ∀ m j, clN F A L wk k m j = -1 ∨ (F 2 (L.1 j)).toInt ≤ (clN F A L wk k m j).toInt
  | 0, _ => Or.inl rfl
  | m + 1, j => by
    have ih := clN_ge srt wk k m j
    unfold clN
    split
    · by_cases c : CN0 F L (F 2 m) - CNN F A L (F 2 m) ≤ j ∧ j < CN0 F L (F 2 m)
      · rw [clU_in c]
        split
        · right
          have le := (CNN_le F A L (F 2 m)).2
          rcases lstC_at (F := F) L.1 (F 2 m) L.2 with q | q
          · have : CN0 F L (F 2 m) = 0 := q
            omega
          · have q' : ¬ F 2 m < F 2 (L.1 (CN0 F L (F 2 m) - 1)) := q
            have s1 := srt j (CN0 F L (F 2 m) - 1) (by omega) (by omega)
            rw [Int32.lt_iff_toInt_lt] at q'
            omega
        · exact ih
      · rw [clU_out c]
        exact ih
    · exact ih
end Bo
section Bp
variable {h : Hp} {nw nf : Nat} {F : Nat → Nat → Int32} {A : Nat → Ac} {pls tms : Nat → Int32} {tme : Nat}
theorem PAYw_bd (X : FX h) (M : STM h nw nf F A pls tms tme) {w s : Nat} (hw : w < nw) (hs : s < 4) (k : Int32) (hb : Bool) : ¬ PAYw F (A s) (pls w) (tms w) w k hb nf < 0 := by
  have R := M.2.2.2.2.2.1
  have hnf := M.2.2.2.1
  have ok := (M.2.2.2.2.2.2.1 s hs).2
  obtain ⟨p1, p2, p3, -⟩ := LHw_props (A := A s) (pl := pls w) (tm := tms w) (w := w) (k := k) (hb := hb) R hnf
  obtain ⟨L, eL⟩ : ∃ L, L = LHw F (A s) (pls w) (tms w) w k hb nf := ⟨_, rfl⟩
  obtain ⟨t, t1, t2⟩ := ok.2.2.2.2.2.2.2.2
  have key : ∀ j, j < L.2 → ∃ a, a ≤ 4000000 ∧ (if clN F (A s) L (nI w) k nf j = -1 then 0 else wiJ (OWw F (A s) (pls w) (tms w) w k hb nf (L.1 j)) ((A s).1 6) (clN F (A s) L (nI w) k nf j) (F 2 (L.1 j))) = lN a := by
    intro j hj
    split
    · exact ⟨0, by omega, rfl⟩
    · rename_i z
      have c1 := (clN_bd (A := A s) (L := L) (wk := nI w) (k := k) R nf (Nat.le_refl _) j).resolve_left z
      have c2 := (clN_ge (A := A s) (L := L) (by rw [eL]; exact p3) (nI w) k nf j).resolve_left z
      rw [← eL] at p2
      obtain ⟨l1, d, l2, l3⟩ := p2 j hj
      obtain ⟨c, c3, c4⟩ := c1
      have l0 : cnts F 3 (nI w) k (L.1 j) = true := by
        rw [eL]
        rw [eL] at hj
        exact (LHn_at nf j hj).2.1
      obtain ⟨o, o1, o2⟩ := OWV_bd (pl := pls w) (tm := tms w) ok (fun i u hu => PDh_bd X M hw k hb i hu) R l1 (cnts_iff.mp l0).1 (nI w) k
      have o2' : OWw F (A s) (pls w) (tms w) w k hb nf (L.1 j) = nI o := o2
      rw [o2', t2, c4, l3]
      rw [c4, l3, nI_toInt (by omega), nI_toInt (by omega)] at c2
      exact wiJ_bd o1 t1 c3 (by omega)
  obtain ⟨a, a1, a2⟩ := sJ_bd L.2 key
  rw [← eL] at p1
  have a3 : a ≤ 250 * 4000000 := Nat.le_trans a1 (Nat.mul_le_mul_right _ p1)
  have e : PAYw F (A s) (pls w) (tms w) w k hb nf = lN a := by
    rw [← a2, eL]
    rfl
  rw [e, show (0 : Int64) = lN 0 from rfl, pk_lLT (by omega) (by omega)]
  omega
theorem MKw_bd (X : FX h) (M : STM h nw nf F A pls tms tme) {w s : Nat} (hw : w < nw) (hs : s < 4) (k : Int32) (hb : Bool) : MKw F (A s) (pls w) (tms w) w k hb nf < 32 := by
  have R := M.2.2.2.2.2.1
  have hnf := M.2.2.2.1
  have ok := (M.2.2.2.2.2.2.1 s hs).2
  obtain ⟨p1, p2, p3, -⟩ := LHw_props (A := A s) (pl := pls w) (tm := tms w) (w := w) (k := k) (hb := hb) R hnf
  unfold MKw PMKV
  refine orN_lt _ (fun j hj => ?_)
  split
  · omega
  · obtain ⟨l1, d, l2, l3⟩ := p2 j hj
    unfold OMN
    rw [l3, nI_clamp (by omega)]
    exact (AVR_bd (pl := pls w) (tm := tms w) ok (fun i u hu => PDh_bd X M hw k hb i hu) (by omega)).2.2
theorem payN_pos (X : FX h) (M : STM h nw nf F A pls tms tme) {s : Nat} (hs : s < 4) (k : Int32) (hb : Bool) (w : Nat) : ¬ payN F (A s) pls tms k hb nf nw w < 0 := by
  unfold payN
  split
  · rename_i hw
    exact PAYw_bd X M hw hs k hb
  · decide
theorem mkN_lt (X : FX h) (M : STM h nw nf F A pls tms tme) {s : Nat} (hs : s < 4) (k : Int32) (hb : Bool) (w : Nat) : mkN F (A s) pls tms k hb nf nw w < 32 := by
  unfold mkN
  split
  · rename_i hw
    exact MKw_bd X M hw hs k hb
  · omega
theorem payN_off (F : Nat → Nat → Int32) (A : Ac) (pls tms : Nat → Int32) (k : Int32) (hb : Bool) (nf : Nat) {nw w : Nat} (h : nw ≤ w) : payN F A pls tms k hb nf nw w = 0 := if_neg (by omega)
theorem mkN_off (F : Nat → Nat → Int32) (A : Ac) (pls tms : Nat → Int32) (k : Int32) (hb : Bool) (nf : Nat) {nw w : Nat} (h : nw ≤ w) : mkN F A pls tms k hb nf nw w = 0 := if_neg (by omega)
theorem sJ_off {f : Nat → Int64} {n : Nat} (h : ∀ w, n ≤ w → f w = 0) : ∀ m, n ≤ m → sJ f m = sJ f n := by
  intro m
  induction m with
  | zero => intro hm; rw [Nat.le_zero.mp hm]
  | succ m ih =>
    intro hm
    rcases Nat.lt_or_ge m n with q | q
    · rw [show n = m + 1 by omega]
    · show sJ f m + f m = _
      rw [h m q, Int64.add_zero]
      exact ih q
end Bp
