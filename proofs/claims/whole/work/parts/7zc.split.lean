/-! The class finds all tokens. -/
theorem tx_len1 (g : Hp) : f_J0_length_8abf5 4 g = some (10, g) := by
  have n1 : nwk .byte 0 = some () := by
    unfold nwk
    rw [if_pos (show narrow .byte (.int 0) = .int 0 from pk_nb 0)]
  unfold f_J0_length_8abf5 f_J0_coder_7d493
  rw [show sVl (some 4) = some (some 6) from rfl, bd_some, show sAl (some 6) = some 10 from rfl, bd_some, show rcS (some 4) = some 4 from rfl, bd_some, if_neg (by decide), show sCd (some 4) = some 0 from rfl, bd_some, b1_some, n1, bd_some, b1_some]
  rfl
theorem by1_tab : ∀ c, c < 256 → (isS c = true ↔ ∃ k, k < 10 ∧ by1.getD k 0 = ((((nI c).toUInt32 % 65536).toInt32).toInt8.toInt32)) := by
  have h1 : ∀ c, c < 256 → isS c = (List.range 10).any (fun k => decide (by1.getD k 0 = ((((nI c).toUInt32 % 65536).toInt32).toInt8.toInt32))) := by decide +kernel
  intro c hc
  rw [h1 c hc, List.any_eq_true]
  constructor
  · rintro ⟨k, q1, q2⟩
    exact ⟨k, List.mem_range.mp q1, of_decide_eq_true q2⟩
  · rintro ⟨k, q1, q2⟩
    exact ⟨k, List.mem_range.mpr q1, decide_eq_true q2⟩
theorem tx_idx {c : Nat} (hc : c < 256) (g : Hp) : ∃ v, f_J0_indexOf_0f7a4 4 (((nI c).toUInt32 % 65536).toInt32) g = some (v, g) ∧ (v < 0 ↔ ¬ isS c = true) := by
  obtain ⟨x, ex⟩ : ∃ x, x = ((nI c).toUInt32 % 65536).toInt32 := ⟨_, rfl⟩
  have tab := by1_tab c hc
  have xn : x = nI c := by
    rw [ex, pk_char, pk_tn (by omega), Nat.mod_eq_of_lt (by omega)]
  rw [← ex] at tab ⊢
  obtain ⟨y, ey⟩ : ∃ y, y = x.toInt8.toInt32 := ⟨_, rfl⟩
  rw [← ey] at tab
  have rd : ∀ k, k < 10 → sRd (some 6) (nI k) = some (by1.getD k 0) := fun k hk' => by
    unfold sRd
    have e : sBy (some 6) = by1 := rfl
    rw [e, if_pos ⟨nI_pos' (by omega), by rw [nI_clamp (by omega), by1_len]; exact hk'⟩, nI_clamp (by omega)]
  have key : ∃ r, f_J1_indexOfChar_4cfef_L7 fu (some 6) 10 y (nI 0) g = some r ∧ ((∃ k, k < 10 ∧ r = Sum.inl (nI k, g) ∧ by1.getD k 0 = y) ∨ (r = Sum.inr g ∧ ∀ k, k < 10 → by1.getD k 0 ≠ y)) := by
    refine forN (fun m i (_ : Unit) => f_J1_indexOfChar_4cfef_L7 m (some 6) 10 y i g) 10 (by decide) (fun i _ => ∀ k, k < i → by1.getD k 0 ≠ y) _ ?_ ?_ (i0 := 0) (s := ()) (Nat.zero_le _) (fun k hk' => absurd hk' (Nat.not_lt_zero _))
    · intro m _ I
      refine ⟨Sum.inr g, ?_, Or.inr ⟨rfl, I⟩⟩
      rw [f_J1_indexOfChar_4cfef_L7.eq_2, if_pos (show (10 : Int32) ≤ nI 10 from Int32.le_refl _)]
    · intro m i _ hi' I
      have q : ¬ (10 : Int32) ≤ nI i := by rw [show (10 : Int32) = nI 10 from rfl, nI_leI (by omega) (by omega)]; omega
      by_cases c1 : by1.getD i 0 = y
      · left
        refine ⟨Sum.inl (nI i, g), ?_, Or.inl ⟨i, hi', rfl, c1⟩⟩
        rw [f_J1_indexOfChar_4cfef_L7.eq_2, if_neg q, rd i hi', bd_some, if_pos c1]
      · right
        refine ⟨(), ?_, fun k hk' => ?_⟩
        · rw [f_J1_indexOfChar_4cfef_L7.eq_2, if_neg q, rd i hi', bd_some, if_neg c1, nI_1]
        · by_cases e : k = i
          · subst e; exact c1
          · exact I k (by omega)
  obtain ⟨r, a1, a2⟩ := key
  have a1' : f_J1_indexOfChar_4cfef_L7 fu (some 6) 10 y 0 g = some r := a1
  have ce : f_J1_canEncode_9a6ad x g = some (1, g) := by
    unfold f_J1_canEncode_9a6ad
    have q1 : ¬ x < 0 := by rw [xn]; exact nI_pos (by omega)
    have q2 : ¬ (255 : Int32) < x := by rw [xn, show (255 : Int32) = nI 255 from rfl, nI_ltI (by omega) (by omega)]; omega
    rw [if_neg q1, if_neg q2, b1_some, zok1, bd_some]
  have top : ∀ w, (Option.bind (some r) (Sum.elim (c1 fun w5 h6 => some (w5, h6)) (fun h7 => some ((-1), h7))) : Option (Int32 × Hp)) = some (w, g) → f_J0_indexOf_0f7a4 4 x g = some (w, g) := by
    intro w hw
    unfold f_J0_indexOf_0f7a4 f_J0_indexOf_7cf53
    rw [show rcS (some 4) = some 4 from rfl, bd_some, show rcS (some 4) = some 4 from rfl, bd_some, tx_lat 4 (Or.inr rfl), b1_some, if_neg (by decide), show sVl (some 4) = some (some 6) from rfl, bd_some, bd_some, tx_len1, b1_some]
    unfold f_J1_indexOf_4cfef
    rw [ce, b1_some, if_neg (by decide), show sAl (some 6) = some 10 from rfl, bd_some, show mxI (0 : Int32) 0 = 0 from rfl, show mnI (10 : Int32) 10 = 10 from rfl, if_pos (by decide)]
    unfold f_J1_indexOfChar_4cfef
    rw [← ey, a1', hw, b1_some, b1_some, b1_some, b1_some]
  rcases a2 with ⟨k, k1, k2, k3⟩ | ⟨k1, k2⟩
  · refine ⟨nI k, top _ (by rw [k2]; rfl), ⟨fun z => absurd z (nI_pos (by omega)), fun z => absurd (tab.mpr ⟨k, k1, k3⟩) z⟩⟩
  · refine ⟨-1, top _ (by rw [k1]; rfl), ⟨fun _ z => ?_, fun _ => by decide⟩⟩
    obtain ⟨k, q1, q2⟩ := tab.mp z
    exact k2 k q1 q2
section Cb
variable {h : Hp} {B : Nat → Nat} {n : Nat}
/-- a word's letters are those of the table's w-th -/
theorem w_same {w a m : Nat} (hw : w < 24) (hm : m ≤ 8) (hL : ∀ i, i < m → isL (B (a + i)) = true) : (∀ i, i < 8 → (if i < m then B (a + i) else 32) = wch w i) ↔ pkr (Lr (fun i => B (a + i)) m) = wNm w := by
  obtain ⟨t1, t2⟩ := wch_tab w hw
  constructor
  · intro e
    have em : m = wln w := by
      rcases Nat.lt_trichotomy m (wln w) with q | q | q
      · have e1 := e m (by omega)
        rw [if_neg (Nat.lt_irrefl _)] at e1
        have := (t2 m (by omega)).2.1 q
        omega
      · exact q
      · have e1 := e (wln w) (by omega)
        rw [if_pos q] at e1
        have := (t2 (wln w) (by omega)).2.2 (Nat.le_refl _)
        have := isL_iff.mp (hL _ q)
        omega
    unfold wNm
    rw [← em]
    congr 1
    exact Lr_eq m (fun i hi' => by have := e i (by omega); rw [if_pos hi'] at this; exact this)
  · intro e i hi'
    unfold wNm at e
    have e1 := pkr_inj _ _ (fun c hc => by
      obtain ⟨j, j1, j2⟩ := Lr_mem _ hc
      have := isL_iff.mp (hL _ j1)
      omega) (fun c hc => by
      obtain ⟨j, j1, j2⟩ := Lr_mem _ hc
      have := (t2 j (by omega)).2.1 j1
      omega) e
    obtain ⟨e2, e3⟩ := Lr_inj _ _ e1
    by_cases q : i < m
    · rw [if_pos q]
      exact e3 i q
    · rw [if_neg q]
      exact ((t2 i hi').2.2 (by omega)).symm
theorem c_isWord (X : FX h) (b : BY h 10 B n) (e : hi h 9 1 = nI n) {w a m : Nat} (hw : w < 24) (ha : a + m ≤ n) (hm : m ≤ 8) (ee : hi h 9 2 = nI (a + m)) (hL : ∀ i, i < m → isL (B (a + i)) = true) : f_X2_isWord 9 (nI w) (nI a) h = some (if pkr (Lr (fun i => B (a + i)) m) = wNm w then 1 else 0, h) := by
  have h9 := b.1
  obtain ⟨t1, t2⟩ := wch_tab w hw
  have key : ∃ r, f_X2_isWord_L2 fu 9 (nI w) (nI a) (nI 0) h = some r ∧ ((r = Sum.inr h ∧ ∀ i, i < 8 → (if i < m then B (a + i) else 32) = wch w i) ∨ (r = Sum.inl h ∧ ¬ ∀ i, i < 8 → (if i < m then B (a + i) else 32) = wch w i)) := by
    refine forN (fun k i (_ : Unit) => f_X2_isWord_L2 k 9 (nI w) (nI a) i h) 8 (by decide) (fun i _ => ∀ j, j < i → (if j < m then B (a + j) else 32) = wch w j) _ ?_ ?_ (i0 := 0) (s := ()) (Nat.zero_le _) (fun k hk' => absurd hk' (Nat.not_lt_zero _))
    · intro k _ I
      refine ⟨Sum.inr h, ?_, Or.inl ⟨rfl, I⟩⟩
      rw [f_X2_isWord_L2.eq_2, if_pos (show (8 : Int32) ≤ nI 8 from Int32.le_refl _)]
    · intro k i _ hi' I
      have q : ¬ (8 : Int32) ≤ nI i := by rw [show (8 : Int32) = nI 8 from rfl, nI_leI (by omega) (by omega)]; omega
      have ch : b1 ((if nI (a + m) ≤ nI a + nI i then some (32, h) else (rc h (some 9) 2).bind fun g12 => b1 (f_X2_byteAt g12 (nI a + nI i) h) fun x14 h10 => some (x14, h10) : Option (Int32 × Hp))) (fun w15 h16 => some (w15, h16)) = some (nI (if i < m then B (a + i) else 32), h) := by
        rw [nI_add]
        have q5 : nI (a + m) ≤ nI (a + i) ↔ a + m ≤ a + i := nI_leI (by omega) (by omega)
        by_cases c : i < m
        · rw [if_neg (fun z => by have := q5.mp z; omega), if_pos c, rc9 X, bd_some, c_byte X b e (by omega), b1_some, b1_some]
        · rw [if_pos (q5.mpr (by omega)), if_neg c]
          rfl
      have ch' : (if nI (a + m) ≤ nI a + nI i then some (32, h) else (rc h (some 9) 2).bind fun g12 => b1 (f_X2_byteAt g12 (nI a + nI i) h) fun x14 h10 => some (x14, h10) : Option (Int32 × Hp)) = some (nI (if i < m then B (a + i) else 32), h) := by
        rw [← ch]
        generalize (if nI (a + m) ≤ nI a + nI i then some (32, h) else (rc h (some 9) 2).bind fun g12 => b1 (f_X2_byteAt g12 (nI a + nI i) h) fun x14 h10 => some (x14, h10) : Option (Int32 × Hp)) = z
        cases z <;> rfl
      have ix : nI w * (8 : Int32) + nI i = nI (8 * w + i) := by
        rw [show (8 : Int32) = nI 8 from rfl, pk_mul, nI_add, Nat.mul_comm]
      have r0' : ¬ nI (8 * w + i) < 0 := nI_pos (by omega)
      have r1' : ¬ (192 : Int32) ≤ nI (8 * w + i) := by rw [show (192 : Int32) = nI 192 from rfl, nI_leI (by omega) (by omega)]; omega
      have hd : f_X2_isWord_L2 (k + 1) 9 (nI w) (nI a) (nI i) h = if by0.getD (8 * w + i) 0 = nI (if i < m then B (a + i) else 32) then f_X2_isWord_L2 k 9 (nI w) (nI a) (nI (i + 1)) h else some (Sum.inl h) := by
        rw [f_X2_isWord_L2.eq_2, if_neg q, gi9 X, bd_some, ee, ch', b1_some, ix, if_neg r0', show rcS (some 3) = some 3 from rfl, bd_some, tx_len, b1_some, if_neg r1', bd_some, tx_char (by omega), b1_some, nI_1]
      have cB : (if i < m then B (a + i) else 32) < 2 ^ 31 := by
        by_cases c : i < m
        · rw [if_pos c]
          have := (b.2 (a + i) (by omega)).2
          omega
        · rw [if_neg c]
          decide
      have cW : wch w i < 2 ^ 31 := by
        have := (t2 i hi').2
        by_cases c : i < wln w
        · have := this.1 c
          omega
        · have := this.2 (by omega)
          omega
      rw [(t2 i hi').1] at hd
      by_cases c : (if i < m then B (a + i) else 32) = wch w i
      · right
        refine ⟨(), ?_, fun j hj => ?_⟩
        · show f_X2_isWord_L2 (k + 1) 9 (nI w) (nI a) (nI i) h = _
          rw [hd, if_pos (by rw [c])]
        · by_cases ej : j = i
          · subst ej; exact c
          · exact I j (by omega)
      · left
        refine ⟨Sum.inl h, ?_, Or.inr ⟨rfl, fun z => c (z i hi')⟩⟩
        show f_X2_isWord_L2 (k + 1) 9 (nI w) (nI a) (nI i) h = _
        rw [hd, if_neg (fun z => c ((nI_eq cW cB).mp z).symm)]
  obtain ⟨r, a1, a2⟩ := key
  have a1' : f_X2_isWord_L2 fu 9 (nI w) (nI a) 0 h = some r := a1
  unfold f_X2_isWord
  rw [a1']
  rcases a2 with ⟨e1, e2⟩ | ⟨e1, e2⟩
  · rw [e1, bd_some, elim_inr, if_pos ((w_same hw hm hL).mp e2)]
  · rw [e1, bd_some, elim_inl, if_neg (fun z => e2 ((w_same hw hm hL).mpr z))]
theorem c_scanWord (X : FX h) (b : BY h 10 B n) (e : hi h 9 1 = nI n) {a : Nat} (ha : a ≤ n) (ea : hi h 9 2 = nI a) : ∃ g, f_X2_scanWord 9 h = some (nI (if rn B n isL a - a ≤ 8 then tkw (pkr (Lr (fun i => B (a + i)) (rn B n isL a - a))) else 26), g) ∧ Fr [] [(9, 2)] h g ∧ hi g 9 2 = nI (rn B n isL a) := by
  have h9 := b.1
  obtain ⟨g, a1, a2, a3⟩ := c_letters X b e ha ea (nI a)
  have Xg := a2.fx X
  have eg : hi g 9 1 = nI n := (a2.ef (by decide) (by decide)).trans e
  have bg : BY g 10 B n := b.of (fun k => a2.ei k (by decide) (by decide))
  have l1 := rn_ge (B := B) (n := n) (P := isL) (p := a)
  have l2 := rn_le (B := B) (P := isL) ha
  have sb : nI (rn B n isL a) - nI a = nI (rn B n isL a - a) := pk_sub l1
  refine ⟨g, ?_, a2, a3⟩
  unfold f_X2_scanWord
  rw [gi9 X, bd_some, ea, a1, bd_some, gi9 Xg, bd_some, a3, sb]
  by_cases c : rn B n isL a - a ≤ 8
  · rw [if_pos (show nI (rn B n isL a - a) ≤ (8 : Int32) from (nI_leI (b := 8) (by omega) (by decide)).mpr c), if_pos c]
    obtain ⟨m, em⟩ : ∃ m, m = rn B n isL a - a := ⟨_, rfl⟩
    rw [← em] at c ⊢
    have ee : hi g 9 2 = nI (a + m) := by rw [a3]; congr 1; omega
    have hL : ∀ i, i < m → isL (B (a + i)) = true := fun i hi' => rn_in (n := n) (P := isL) (p := a) (by omega) (by omega)
    have iw : ∀ w, w < 24 → f_X2_isWord 9 (nI w) (nI a) g = some (if pkr (Lr (fun i => B (a + i)) m) = wNm w then 1 else 0, g) := fun w hw => c_isWord Xg bg eg hw (by omega) c ee hL
    obtain ⟨V, eV⟩ : ∃ V, V = pkr (Lr (fun i => B (a + i)) m) := ⟨_, rfl⟩
    rw [← eV] at iw ⊢
    have key : ∃ r, f_X2_scanWord_L59 fu 9 (nI a) (nI 0) g = some r ∧ ((∃ w, w < 24 ∧ r = Sum.inl (nI w, g) ∧ tkw V = w) ∨ (r = Sum.inr g ∧ tkw V = 24)) := by
      refine forN (fun k i (_ : Unit) => f_X2_scanWord_L59 k 9 (nI a) i g) 24 (by decide) (fun i _ => ∀ j, j < i → V ≠ wNm j) _ ?_ ?_ (i0 := 0) (s := ()) (Nat.zero_le _) (fun k hk' => absurd hk' (Nat.not_lt_zero _))
      · intro k _ I
        refine ⟨Sum.inr g, ?_, Or.inr ⟨rfl, ?_⟩⟩
        · rw [f_X2_scanWord_L59.eq_2, if_pos (show (24 : Int32) ≤ nI 24 from Int32.le_refl _)]
        · have := tkw_le V
          rcases Nat.lt_or_ge (tkw V) 24 with q | q
          · exact absurd ((tkw_iff q).mp rfl) (I _ q)
          · omega
      · intro k i _ hi' I
        have q : ¬ (24 : Int32) ≤ nI i := by rw [show (24 : Int32) = nI 24 from rfl, nI_leI (by omega) (by omega)]; omega
        have hw := iw i hi'
        by_cases c2 : V = wNm i
        · left
          rw [i_one c2] at hw
          refine ⟨Sum.inl (nI i, g), ?_, Or.inl ⟨i, hi', rfl, (tkw_iff hi').mpr c2⟩⟩
          rw [f_X2_scanWord_L59.eq_2, if_neg q, rc9 Xg, bd_some, hw, b1_some, if_neg (by decide)]
        · right
          rw [i_zero c2] at hw
          refine ⟨(), ?_, fun j hj => ?_⟩
          · rw [f_X2_scanWord_L59.eq_2, if_neg q, rc9 Xg, bd_some, hw, b1_some, if_pos rfl, nI_1]
          · by_cases ej : j = i
            · subst ej; exact c2
            · exact I j (by omega)
    obtain ⟨r, k1, k2⟩ := key
    have k1' : f_X2_scanWord_L59 fu 9 (nI a) 0 g = some r := k1
    rw [k1', bd_some]
    rcases k2 with ⟨w, w1, w2, w3⟩ | ⟨w2, w3⟩
    · rw [w2, elim_inl, c1_eq, w3]
    · rw [w2, elim_inr, w3]
      rfl
  · rw [if_neg (show ¬ nI (rn B n isL a - a) ≤ (8 : Int32) from fun z => c ((nI_leI (b := 8) (by omega) (by decide)).mp z)), if_neg c]
    rfl
theorem c_scanNumber (X : FX h) (b : BY h 10 B n) (e : hi h 9 1 = nI n) {a : Nat} (ha : a ≤ n) (ea : hi h 9 2 = nI a) : ∃ g, f_X2_scanNumber 9 h = some (nI (if 4 < rn B n isD a - a ∨ (rn B n isD a < n ∧ isL (B (rn B n isD a)) = true) then 26 else 1000 + vlD (fun i => B (a + i)) (rn B n isD a - a)), g) ∧ Fr [] [(9, 2)] h g ∧ hi g 9 2 = nI (rn B n isD a) := by
  have h9 := b.1
  obtain ⟨⟨v, g⟩, a1, a2, a3, a4⟩ := c_digits X b e ha ea (nI a)
  simp only at a2 a3 a4
  have Xg := a2.fx X
  have eg : hi g 9 1 = nI n := (a2.ef (by decide) (by decide)).trans e
  have bg : BY g 10 B n := b.of (fun k => a2.ei k (by decide) (by decide))
  have l1 := rn_ge (B := B) (n := n) (P := isD) (p := a)
  have l2 := rn_le (B := B) (P := isD) ha
  have sb : nI (rn B n isD a) - nI a = nI (rn B n isD a - a) := pk_sub l1
  obtain ⟨z, ez⟩ : ∃ z, z = rn B n isD a := ⟨_, rfl⟩
  rw [← ez] at a3 a4 l1 l2 sb ⊢
  refine ⟨g, ?_, a2, a3⟩
  have fin : ∀ (c : Int32) (t : Nat), (c = 0 → t = 26) → (c ≠ 0 → t = 1000 + vlD (fun i => B (a + i)) (z - a)) → (b1 ((if c = (0 : Int32) then some (26, g) else some (((1000 : Int32) + v), g) : Option (Int32 × Hp))) fun w61 h62 => some (w61, h62)) = some (nI t, g) := by
    intro c t c1 c2
    by_cases q : c = 0
    · rw [if_pos q, b1_some, c1 q]
      rfl
    · rw [if_neg q, b1_some, c2 q, a4, show (1000 : Int32) = nI 1000 from rfl, nI_add]
  unfold f_X2_scanNumber
  rw [gi9 X, bd_some, ea, a1, b1_some, gi9 Xg, bd_some, a3, sb]
  by_cases c : 4 < z - a
  · rw [if_pos (show (4 : Int32) < nI (z - a) from (nI_ltI (a := 4) (by decide) (by omega)).mpr c), b1_some, if_pos (Or.inl c)]
    exact fin 0 26 (fun _ => rfl) (fun q => absurd rfl q)
  · rw [if_neg (show ¬ (4 : Int32) < nI (z - a) from fun q => c ((nI_ltI (a := 4) (by decide) (by omega)).mp q)), bd_some, rc9 Xg, bd_some]
    by_cases c2 : z < n
    · rw [c_byte Xg bg eg c2, b1_some, q_L (by have := (b.2 z c2).2; omega), b1_some]
      by_cases c3 : isL (B z) = true
      · rw [if_pos c3, if_neg (by decide), b1_some, if_pos (Or.inr ⟨c2, c3⟩)]
        exact fin 0 26 (fun _ => rfl) (fun q => absurd rfl q)
      · rw [if_neg c3, if_pos rfl, b1_some]
        exact fin 1 _ (fun q => absurd q (by decide)) (fun _ => if_neg (fun q => q.elim c (fun q => c3 q.2)))
    · rw [c_byteN Xg eg h9 (by omega) (by omega), b1_some, q_Lm, b1_some, if_pos rfl, b1_some]
      exact fin 1 _ (fun q => absurd q (by decide)) (fun _ => if_neg (fun q => q.elim c (fun q => c2 q.1)))
/-- one token -/
theorem c_scan (X : FX h) (b : BY h 10 B n) (e : hi h 9 1 = nI n) {p : Nat} (hp : p ≤ n) (ea : hi h 9 2 = nI (rn B n isB p)) : ∃ g, f_X2_scanToken 9 h = some (nI (tk B n p).1, g) ∧ Fr [] [(9, 2)] h g ∧ hi g 9 2 = nI (tk B n p).2.2 := by
  have h9 := b.1
  have g2 := rn_le (B := B) (P := isB) hp
  obtain ⟨a, ez⟩ : ∃ a, a = rn B n isB p := ⟨_, rfl⟩
  unfold tk
  rw [← ez] at ea g2 ⊢
  unfold f_X2_scanToken
  rw [gi9 X, bd_some, ea, rc9 X, bd_some]
  by_cases c1 : n ≤ a
  · rw [if_pos c1, c_byteN X e h9 c1 (by omega), b1_some, if_pos rfl]
    exact ⟨h, rfl, Fr.rfl, ea⟩
  · have Bl : B a < 256 := (b.2 a (by omega)).2
    rw [if_neg c1, c_byte X b e (by omega), b1_some, if_neg (nI_m1 (by omega)), q_L (by omega), b1_some]
    by_cases c2 : isL (B a) = true
    · rw [if_pos c2, if_pos c2, if_neg (by decide), rc9 X, bd_some]
      obtain ⟨g, k1, k2, k3⟩ := c_scanWord X b e g2 ea
      refine ⟨g, ?_, k2, ?_⟩
      · rw [k1, b1_some]
        by_cases c3 : rn B n isL a - a ≤ 8
        · rw [if_pos c3, if_pos c3]
        · rw [if_neg c3, if_neg c3]
      · rw [k3]
        by_cases c3 : rn B n isL a - a ≤ 8
        · rw [if_pos c3]
        · rw [if_neg c3]
    · rw [if_neg c2, if_neg c2, if_pos rfl, q_D (by omega), b1_some]
      by_cases c3 : isD (B a) = true
      · rw [if_pos c3, if_pos c3, if_neg (by decide), rc9 X, bd_some]
        obtain ⟨g, k1, k2, k3⟩ := c_scanNumber X b e g2 ea
        refine ⟨g, ?_, k2, ?_⟩
        · rw [k1, b1_some]
          by_cases c4 : 4 < rn B n isD a - a ∨ (rn B n isD a < n ∧ isL (B (rn B n isD a)) = true)
          · rw [if_pos c4, if_pos c4]
          · rw [if_neg c4, if_neg c4]
        · rw [k3]
          by_cases c4 : 4 < rn B n isD a - a ∨ (rn B n isD a < n ∧ isL (B (rn B n isD a)) = true)
          · rw [if_pos c4]
          · rw [if_neg c4]
      · have Xs : FX (si h 9 2 (nI (a + 1))) := FX_of X rfl (fun _ _ => rfl)
        rw [if_neg c3, if_neg c3, if_pos rfl, gi9 X, bd_some, ea, nI_1, pi9 X, bd_some, show rcS (some 4) = some 4 from rfl, bd_some]
        obtain ⟨v, v1, v2⟩ := tx_idx Bl (si h 9 2 (nI (a + 1)))
        rw [v1, b1_some]
        refine ⟨si h 9 2 (nI (a + 1)), ?_, Fr.fld (by decide), ?_⟩
        · by_cases c4 : isS (B a) = true
          · rw [if_neg (fun q => (v2.mp q) c4), b1_some, if_pos c4]
          · rw [if_pos (v2.mpr c4), b1_some, if_neg c4]
            rfl
        · rw [hi_hit]
          by_cases c4 : isS (B a) = true
          · rw [if_pos c4]
          · rw [if_neg c4]
/-- all tokens, and where they begin -/
theorem c_split (X : FX h) (b : BY h 10 B n) (e : hi h 9 1 = nI n) : ∃ N g, N ≤ n ∧ (tT B n N = 25 ∨ tT B n N = 26) ∧ (∀ i, i < N → tT B n i ≠ 25 ∧ tT B n i ≠ 26) ∧ f_X2_splitTape 9 h = some g ∧ Fr [11, 12] [(9, 2), (9, 5)] h g ∧ hi g 9 5 = nI (N + 1) ∧ ∀ i, i ≤ N → hi g 11 i = nI (tT B n i) ∧ hi g 12 i = nI (tP B n i) := by
  have h9 := b.1
  obtain ⟨N, n1', n2', n3'⟩ := tT_end B n
  have X0 : FX (si (si h 9 2 0) 9 5 0) := FX_of X rfl (fun _ _ => rfl)
  have key : ∃ g, f_X2_splitTape_L16 fu 9 1000 0 (si (si h 9 2 0) 9 5 0) = some g ∧ (Fr [11, 12] [(9, 2), (9, 5)] h g ∧ hi g 9 5 = nI (N + 1) ∧ ∀ i, i ≤ N → hi g 11 i = nI (tT B n i) ∧ hi g 12 i = nI (tP B n i)) := by
    refine whl (fun k (s : Nat × Nat × Hp) => f_X2_splitTape_L16 k 9 (nI s.1) (nI s.2.1) s.2.2) (fun s => N + 1 - s.2.1) (fun s => s.2.1 ≤ N + 1 ∧ Fr [11, 12] [(9, 2), (9, 5)] h s.2.2 ∧ hi s.2.2 9 5 = nI s.2.1 ∧ hi s.2.2 9 2 = nI (tkE B n s.2.1) ∧ (s.2.1 = 0 → s.1 = 1000) ∧ (∀ i, s.2.1 = i + 1 → s.1 = tT B n i) ∧ ∀ i, i < s.2.1 → hi s.2.2 11 i = nI (tT B n i) ∧ hi s.2.2 12 i = nI (tP B n i)) _ ?_ fu (1000, 0, si (si h 9 2 0) 9 5 0) ⟨Nat.zero_le _, (Fr.fld (by decide)).trans (Fr.fld (by decide)), hi_hit _ _ _, by show hi (si (si h 9 2 0) 9 5 0) 9 2 = _; rw [hi_col _ _ (by decide), hi_hit]; rfl, fun _ => rfl, fun i q => absurd q (by simp), fun i q => absurd q (Nat.not_lt_zero _)⟩ (fu_gt (by show N + 1 - 0 ≤ _; omega))
    rintro k ⟨t, i, g⟩ ⟨I1, I2, I3, I4, I5, I6, I7⟩
    simp only at I1 I2 I3 I4 I5 I6 I7
    have Xg := I2.fx X
    have eg : hi g 9 1 = nI n := (I2.ef (by decide) (by decide)).trans e
    have bg : BY g 10 B n := b.of (fun k => I2.ei k (by decide) (by decide))
    by_cases c : i = N + 1
    · left
      refine ⟨g, ?_, I2, by rw [I3, c], fun j hj => I7 j (by omega)⟩
      show f_X2_splitTape_L16 (k + 1) 9 (nI t) (nI i) g = some g
      have et := I6 N c
      rw [f_X2_splitTape_L16.eq_2, et]
      split
      · rfl
      · rcases n2' with q | q
        · rw [q]; rfl
        · rw [q]; rfl
    · right
      have t1 : t ≠ 25 ∧ t ≠ 26 ∧ t < 11000 := by
        cases i with
        | zero => rw [I5 rfl]; decide
        | succ j =>
          rw [I6 j rfl]
          have := n3' j (by omega)
          have o := tT_ok B n j
          unfold okT at o
          refine ⟨this.1, this.2, ?_⟩
          rcases o with o | o | o
          · omega
          · have := isS_iff.mp o; omega
          · omega
      have q1 : ¬ (900 : Int32) < nI i := by rw [show (900 : Int32) = nI 900 from rfl, nI_ltI (by omega) (by omega)]; omega
      have q2 : ¬ nI t = (26 : Int32) := by rw [show (26 : Int32) = nI 26 from rfl, nI_eq (by omega) (by omega)]; omega
      have q3 : ¬ nI t = (25 : Int32) := by rw [show (25 : Int32) = nI 25 from rfl, nI_eq (by omega) (by omega)]; omega
      obtain ⟨g1, a1, a2, a3⟩ := c_blank Xg bg eg (tkE_le B n i) I4 (nI i)
      have X1 := a2.fx Xg
      have e1 : hi g1 9 1 = nI n := (a2.ef (by decide) (by decide)).trans eg
      have b1' : BY g1 10 B n := bg.of (fun k => a2.ei k (by decide) (by decide))
      obtain ⟨g2, d1, d2, d3⟩ := c_scan X1 b1' e1 (tkE_le B n i) a3
      have X2' := d2.fx X1
      have e5 : hi g2 9 5 = nI i := (d2.ef (by decide) (by decide)).trans ((a2.ef (by decide) (by decide)).trans I3)
      have r0' : ¬ nI i < 0 := nI_pos (by omega)
      have r1' : ¬ nI 901 ≤ nI i := by rw [nI_leI (by omega) (by omega)]; omega
      have r2' : i < 901 := by omega
      have pp : rn B n isB (tkE B n i) = tP B n i := by
        unfold tP tk
        by_cases c1 : n ≤ rn B n isB (tkE B n i)
        · rw [if_pos c1]
        · rw [if_neg c1]
          by_cases c2 : isL (B (rn B n isB (tkE B n i))) = true
          · rw [if_pos c2]
            split <;> rfl
          · rw [if_neg c2]
            by_cases c3 : isD (B (rn B n isB (tkE B n i))) = true
            · rw [if_pos c3]
              split <;> rfl
            · rw [if_neg c3]
              split <;> rfl
      rw [pp] at a3
      have fr2 : Fr [11, 12] [(9, 2), (9, 5)] h g2 := (I2.trans (a2.wk (by decide) (by decide))).trans (d2.wk (by decide) (by decide))
      refine ⟨(tT B n i, i + 1, si (si (si g2 11 i (nI (tT B n i))) 12 i (nI (tP B n i))) 9 5 (nI (i + 1))), ?_, ⟨by simp only; omega, ((fr2.trans (Fr.row (by decide))).trans (Fr.row (by decide))).trans (Fr.fld (by decide)), hi_hit _ _ _, ?_, fun q => absurd q (by simp), fun j q => by simp only at q ⊢; rw [show j = i by omega], fun j hj => ?_⟩, by simp only; omega⟩
      · show f_X2_splitTape_L16 (k + 1) 9 (nI t) (nI i) g = f_X2_splitTape_L16 k 9 (nI (tT B n i)) (nI (i + 1)) _
        rw [f_X2_splitTape_L16.eq_2, if_neg q1, if_neg q2, if_neg q3, a1, bd_some, gi9 X1, bd_some, a3, rc9 X1, bd_some, d1, b1_some]
        simp (disch := (first | assumption | (simp only [FX_si, FX_sj, FX_sr, WX_si, WX_sj, WX_sr, FK_si, FK_sj, FK_sr]; assumption) | omega | decide)) only [e5, r0', r1', nI_1, ↓reduceIte, if_true, if_false, i10, i01, eq_self, wq7, wq8, wq9, wq10, wrc, wgi, wpi, wpz, wn1, wn2, wn3, wn4, wr1, wr2, wr3, wr4, ww1, ww2, ww3, ww4, fgi, fgq, fpi, frc, at18, at19, at21, at22, at23, at24, at25, at26, at_neg, wat1, wat2, wat3, wat4, reduceCtorEq, bd_some, b1_some, b2_some, b3_some, b4_some, c1_eq, elim_inl, elim_inr, zok0, zok1, getQ_si, getQ_sj, getQ_sr, q8_0, q8_1, q8_2, q8_4, q8_7, q8_8, q8_9, q8_10, q8_11, q9_0, q9_3, q9_4, q9_8, q17_0, q17_1, q17_2, q17_4, q17_5, q17_6, q17_9, q17_10, q17_11, q27_4, q27_5, q27_6, q27_7, q27_8, q27_11, q45_0, q45_1, q45_11, q45_12, q45_13, q45_14, q45_15, q45_16, q45_17, q45_18, q45_19, q45_20, q45_21, q45_22, q45_23, q45_24, q45_30, q45_31, q45_32, q45_33, q45_34, q45_35, q45_36, q45_37, q45_38, q45_39, q45_43, q45_44, q45_45, q45_46, q45_47, q45_48, q45_52, q45_53, q45_54, q45_59, q45_60, q45_61, q45_62, q45_65, q45_67, q45_68, gi8, gj8, pi8, pz8, pj8, rc8, gi9, gj9, pi9, pz9, pj9, rc9, gi17, gj17, pi17, pz17, pj17, rc17, gi27, gj27, pi27, pz27, pj27, rc27, gi45, gj45, pi45, pz45, pj45, rc45, aln_si, aln_sj, aln_sq, rc_si, rc_sj, rc_sq, n0, n1, n10, n11, n12, n13, n14, n15, n16, n18, n19, n20, n21, n22, n23, n24, n25, n26, n29, n30, n31, n32, n33, n34, n35, n36, n37, n38, n39, n40, n42, n43, n44, n46, n47, n48, n49, n50, n51, n52, n53, n54, n55, n56, n57, n58, n59, n60, n61, n62, n63, n64, n65, n66, n67, n68, n69, n70, n71, n72, n73, n74, n75, n76, n77, n78, n79, n80, n81, n82, n83, n84, n85, n86, n87, r0, r1, r10, r11, r12, r13, r14, r15, r16, r18, r19, r20, r21, r22, r23, r24, r25, r26, r29, r30, r31, r32, r33, r34, r35, r36, r37, r38, r39, r40, r42, r43, r44, r46, r47, r48, r49, r50, r51, r52, r53, r54, r55, r56, r57, r58, r59, r60, r61, r62, r63, r64, r65, r66, r67, r68, r69, r70, r71, r72, r73, r74, r75, r76, r77, r78, r79, r80, r81, r82, r83, r84, r85, r86, r87, w10, w11, w12, w13, w18, w19, w20, w21, w22, w23, w24, w25, w26, w30, w31, w32, w33, w34, w35, w36, w38, w39, w40, w43, w44, w46, w47, w48, w49, w50, w51, w52, w53, w54, w55, w56, w57, w58, w59, w60, w61, w62, w63, w64, w65, w66, w67, w68, w69, w70, w71, w72, w73, w74, w75, w76, w77, w78, w79, w80, w81, w82, w83, w84, w85, w86, w87, hi_hit, hi_row, hi_col, hj_hit, hj_row, hj_col, hi_sj, hj_si, hq_si, hq_sj, hi_sq, hj_sq, hi_srh, hi_srm]
        rfl
      · simp only
        rw [hi_col _ _ (by decide), hi_row _ _ _ (by decide), hi_row _ _ _ (by decide), d3]
        rfl
      · simp only at hj ⊢
        have w1 : hi g2 11 j = hi g 11 j := (d2.ei _ (by decide) (by decide)).trans (a2.ei _ (by decide) (by decide))
        have w2 : hi g2 12 j = hi g 12 j := (d2.ei _ (by decide) (by decide)).trans (a2.ei _ (by decide) (by decide))
        constructor
        · rw [hi_row _ _ _ (by decide), hi_row _ _ _ (by decide)]
          by_cases ej : j = i
          · subst ej; exact hi_hit _ _ _
          · rw [hi_col _ _ (by omega), w1]
            exact (I7 j (by omega)).1
        · rw [hi_row _ _ _ (by decide)]
          by_cases ej : j = i
          · subst ej; exact hi_hit _ _ _
          · rw [hi_col _ _ (by omega), hi_row _ _ _ (by decide), w2]
            exact (I7 j (by omega)).2
  obtain ⟨g, k1, k2, k3, k4⟩ := key
  refine ⟨N, g, n1', n2', n3', ?_, k2, k3, k4⟩
  unfold f_X2_splitTape
  rw [pi9 X, bd_some, pi9 (show FX (si h 9 2 0) from FX_of X rfl (fun _ _ => rfl)), bd_some, k1, bd_some]
end Cb
