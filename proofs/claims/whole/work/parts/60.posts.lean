/-! Posts: the banks' ends as places; ways among posts are ways among weeks. -/
def mnf (f : Nat → Int) : Nat → Int
  | 0 => f 0
  | n + 1 => min (mnf f n) (f (n + 1))
theorem mnf_le (f : Nat → Int) : ∀ n i, i ≤ n → mnf f n ≤ f i
  | 0, i, h => by rw [Nat.le_zero.mp h]; exact Int.le_refl _
  | n + 1, i, h => by
    show min (mnf f n) (f (n + 1)) ≤ f i
    rcases Nat.lt_or_ge i (n + 1) with q | q
    · have := mnf_le f n i (by omega)
      omega
    · rw [show i = n + 1 by omega]
      omega
theorem mnf_at (f : Nat → Int) : ∀ n, ∃ i, i ≤ n ∧ mnf f n = f i
  | 0 => ⟨0, Nat.le_refl _, rfl⟩
  | n + 1 => by
    obtain ⟨i, h1, h2⟩ := mnf_at f n
    rcases Int.le_total (mnf f n) (f (n + 1)) with q | q
    · exact ⟨i, by omega, by show min (mnf f n) (f (n + 1)) = _; omega⟩
    · exact ⟨n + 1, Nat.le_refl _, by show min (mnf f n) (f (n + 1)) = _; omega⟩
/-- what the lost weeks ahead of a week can hold -/
def cpC (ls : Nat → Bool) : Nat → Int
  | 0 => 0
  | v + 1 => cpC ls v + (if ls v = true then 9999 else 0)
theorem cpC_s (ls : Nat → Bool) (v : Nat) : cpC ls (v + 1) = cpC ls v + (if ls v = true then 9999 else 0) := rfl
theorem cpC_mono (ls : Nat → Bool) {a b : Nat} (h : a ≤ b) : cpC ls a ≤ cpC ls b := by
  induction b with
  | zero => rw [Nat.le_zero.mp h]; exact Int.le_refl _
  | succ b ih =>
    rcases Nat.lt_or_ge b a with q | q
    · rw [show a = b + 1 by omega]; exact Int.le_refl _
    · have := ih q
      rw [cpC_s]
      split <;> omega
theorem cpC_bd (ls : Nat → Bool) (v : Nat) : 0 ≤ cpC ls v ∧ cpC ls v ≤ 9999 * v := by
  induction v with
  | zero => exact ⟨Int.le_refl _, Int.le_refl _⟩
  | succ v ih =>
    rw [cpC_s]
    split <;> omega
def dst (ls : Nat → Bool) (a v : Nat) : Int := if a ≤ v then cpC ls v - cpC ls a else 0
/-- steps of what lies in the lost weeks -/
def LST (ls : Nat → Bool) (L : Nat → Int) : Prop := ∀ v, L v ≤ L (v + 1) ∧ L (v + 1) ≤ L v + (if ls v = true then 9999 else 0)
theorem ext_pts (ls : Nat → Bool) (n : Nat) (p : Nat → Nat) (y : Nat → Int) (hc : ∀ i j, i ≤ n → j ≤ n → y j ≤ y i + dst ls (p i) (p j)) : ∃ L, LST ls L ∧ ∀ i, i ≤ n → L (p i) = y i := by
  refine ⟨fun v => mnf (fun i => y i + dst ls (p i) v) n, fun v => ?_, fun i hi' => ?_⟩
  · have st : ∀ i, dst ls (p i) v ≤ dst ls (p i) (v + 1) ∧ dst ls (p i) (v + 1) ≤ dst ls (p i) v + (if ls v = true then 9999 else 0) := by
      intro i
      have h1 := cpC_s ls v
      have h2 : p i ≤ v → cpC ls (p i) ≤ cpC ls v := fun q => cpC_mono ls q
      have h3 : p i = v + 1 → cpC ls (p i) = cpC ls (v + 1) := fun q => by rw [q]
      unfold dst
      by_cases q : ls v = true
      · rw [if_pos q] at h1 ⊢
        split <;> split <;> omega
      · rw [if_neg q] at h1 ⊢
        split <;> split <;> omega
    obtain ⟨i, a1, a2⟩ := mnf_at (fun i => y i + dst ls (p i) v) n
    obtain ⟨j, b1, b2⟩ := mnf_at (fun i => y i + dst ls (p i) (v + 1)) n
    have c1 := mnf_le (fun i => y i + dst ls (p i) v) n j b1
    have c2 := mnf_le (fun i => y i + dst ls (p i) (v + 1)) n i a1
    have d1 := st i
    have d2 := st j
    simp only at a2 b2 c1 c2 ⊢
    rw [a2, b2] at *
    exact ⟨by omega, by omega⟩
  · obtain ⟨j, a1, a2⟩ := mnf_at (fun j => y j + dst ls (p j) (p i)) n
    have c1 := mnf_le (fun j => y j + dst ls (p j) (p i)) n i hi'
    have c2 := hc j i a1 hi'
    have z : dst ls (p i) (p i) = 0 := by unfold dst; rw [if_pos (Nat.le_refl _)]; omega
    simp only at a2 c1 ⊢
    omega
theorem LST_le {ls : Nat → Bool} {L : Nat → Int} (h : ∀ w, w < 104 → L w ≤ L (w + 1) ∧ L (w + 1) ≤ L w + (if ls w = true then 9999 else 0)) {a : Nat} : ∀ n, a + n ≤ 104 → L a ≤ L (a + n) ∧ L (a + n) ≤ L a + (cpC ls (a + n) - cpC ls a) := by
  intro n
  induction n with
  | zero => intro _; exact ⟨Int.le_refl _, by simp⟩
  | succ n ih =>
    intro hn
    have h1 := ih (by omega)
    have h2 := h (a + n) (by omega)
    have h3 := cpC_s ls (a + n)
    rw [← Nat.add_assoc]
    omega
theorem LST_ab {ls : Nat → Bool} {L : Nat → Int} (h : ∀ w, w < 104 → L w ≤ L (w + 1) ∧ L (w + 1) ≤ L w + (if ls w = true then 9999 else 0)) {a b : Nat} (hab : a ≤ b) (hb : b ≤ 104) : L a ≤ L b ∧ L b ≤ L a + (cpC ls b - cpC ls a) := by
  have := LST_le h (a := a) (b - a) (by omega)
  rw [show a + (b - a) = b by omega] at this
  exact this
def ppS (T : Nat → Int) : Nat → Int
  | 0 => 0
  | v + 1 => ppS T v + T v
section Po
variable {ls : Nat → Bool} {T : Nat → Int} {bA bE : Nat → Nat} {bT rT : Nat → Int} {bc : Nat} {out : Nat → Bool}
def LWAY (ls : Nat → Bool) (bA bE : Nat → Nat) (rT : Nat → Int) (bc : Nat) (out : Nat → Bool) (L : Nat → Int) : Prop :=
  (∀ w, w < 104 → L w ≤ L (w + 1) ∧ L (w + 1) ≤ L w + (if ls w = true then 9999 else 0)) ∧ ∀ b, b < bc → out b = false → L (bE b) = L (bA b) + rT b
theorem WAY_L (hT : ∀ w, w < 104 → ls w = true → T w = 0) (hr : ∀ b, b < bc → rT b = bT b - (ppS T (bE b) - ppS T (bA b))) (S : Nat → Int) : WAY ls T bA bE bT bc out S ↔ LWAY ls bA bE rT bc out (fun v => S v - ppS T v) := by
  have step : ∀ v, ppS T (v + 1) = ppS T v + T v := fun _ => rfl
  constructor
  · rintro ⟨h1, h2⟩
    refine ⟨fun w hw => ?_, fun b hb ho => ?_⟩
    · have a := h1 w hw
      have s := step w
      by_cases q : ls w = true
      · have t := hT w hw q
        rw [if_pos q] at a ⊢
        simp only
        omega
      · rw [if_neg q] at a ⊢
        simp only
        omega
    · have a := h2 b hb ho
      have b' := hr b hb
      simp only
      omega
  · rintro ⟨h1, h2⟩
    refine ⟨fun w hw => ?_, fun b hb ho => ?_⟩
    · have a := h1 w hw
      have s := step w
      by_cases q : ls w = true
      · have t := hT w hw q
        rw [if_pos q] at a ⊢
        simp only at a
        omega
      · rw [if_neg q] at a ⊢
        simp only at a
        omega
    · have a := h2 b hb ho
      have b' := hr b hb
      simp only at a
      omega
/-- ways among posts -/
def PWAY (P : Nat) (rm : Nat → Int) (sA sE : Nat → Nat) (sR : Nat → Int) (bc : Nat) (out : Nat → Bool) (y : Nat → Int) : Prop :=
  (∀ i, i + 1 < P → y i ≤ y (i + 1) ∧ y (i + 1) ≤ y i + rm i) ∧ ∀ b, b < bc → out b = false → y (sE b) = y (sA b) + sR b
/-- the posts: where they stand, what lies between them, which are the banks' ends -/
def PST (ls : Nat → Bool) (bA bE : Nat → Nat) (bc P : Nat) (pos : Nat → Nat) (rm : Nat → Int) (sA sE : Nat → Nat) : Prop :=
  (∀ i j, i < j → j < P → pos i < pos j) ∧ (∀ i, i < P → pos i ≤ 104) ∧ (∀ i, i + 1 < P → rm i = cpC ls (pos (i + 1)) - cpC ls (pos i)) ∧
  ∀ b, b < bc → sA b < P ∧ pos (sA b) = bA b ∧ sE b < P ∧ pos (sE b) = bE b
variable {P : Nat} {pos : Nat → Nat} {rm : Nat → Int} {sA sE : Nat → Nat}
theorem L_to_P (h : PST ls bA bE bc P pos rm sA sE) {L : Nat → Int} (hL : LWAY ls bA bE rT bc out L) : PWAY P rm sA sE rT bc out (fun i => L (pos i)) := by
  obtain ⟨h1, h2, h3, h4⟩ := h
  refine ⟨fun i hi' => ?_, fun b hb ho => ?_⟩
  · have a := LST_ab hL.1 (Nat.le_of_lt (h1 i (i + 1) (by omega) hi')) (h2 (i + 1) hi')
    have b := h3 i hi'
    simp only
    omega
  · obtain ⟨a1, a2, a3, a4⟩ := h4 b hb
    simp only
    rw [a2, a4]
    exact hL.2 b hb ho
theorem P_pair (h : PST ls bA bE bc P pos rm sA sE) {y : Nat → Int} (hy : PWAY P rm sA sE rT bc out y) {i : Nat} : ∀ n, i + n < P → y i ≤ y (i + n) ∧ y (i + n) ≤ y i + (cpC ls (pos (i + n)) - cpC ls (pos i)) ∧ pos i ≤ pos (i + n) := by
  intro n
  induction n with
  | zero => intro _; exact ⟨Int.le_refl _, by simp, Nat.le_refl _⟩
  | succ n ih =>
    intro hn
    have a := ih (by omega)
    have b := hy.1 (i + n) (by omega)
    have c := h.2.2.1 (i + n) (by omega)
    have d := h.1 (i + n) (i + n + 1) (by omega) (by omega)
    rw [← Nat.add_assoc]
    omega
theorem P_le (h : PST ls bA bE bc P pos rm sA sE) {y : Nat → Int} (hy : PWAY P rm sA sE rT bc out y) {i j : Nat} (hij : i ≤ j) (hj : j < P) : y i ≤ y j ∧ y j ≤ y i + (cpC ls (pos j) - cpC ls (pos i)) ∧ pos i ≤ pos j := by
  have := P_pair h hy (i := i) (j - i) (by omega)
  rw [show i + (j - i) = j by omega] at this
  exact this
theorem P_cmp (h : PST ls bA bE bc P pos rm sA sE) {y : Nat → Int} (hy : PWAY P rm sA sE rT bc out y) {i j : Nat} (hi' : i < P) (hj : j < P) : y j ≤ y i + dst ls (pos i) (pos j) := by
  unfold dst
  rcases Nat.le_total i j with q | q
  · have := P_le h hy q hj
    rw [if_pos this.2.2]
    exact this.2.1
  · have := P_le h hy q hi'
    have m := cpC_mono ls (a := pos i) (b := pos j)
    split
    · rename_i z; have := m z; omega
    · omega
/-- two more points -/
theorem P_two (h : PST ls bA bE bc P pos rm sA sE) {y : Nat → Int} (hy : PWAY P rm sA sE rT bc out y) {w : Nat} {u v : Int}
    (c1 : ∀ i, i < P → u ≤ y i + dst ls (pos i) w ∧ y i ≤ u + dst ls w (pos i) ∧ v ≤ y i + dst ls (pos i) (w + 1) ∧ y i ≤ v + dst ls (w + 1) (pos i))
    (c2 : u ≤ v) (c3 : v ≤ u + dst ls w (w + 1)) : ∃ L, LWAY ls bA bE rT bc out L ∧ (∀ i, i < P → L (pos i) = y i) ∧ L w = u ∧ L (w + 1) = v := by
  obtain ⟨L, h1, h2⟩ := ext_pts ls (P + 1) (fun i => if i < P then pos i else if i = P then w else w + 1) (fun i => if i < P then y i else if i = P then u else v) (by
    have z : ∀ a, dst ls a a = 0 := fun a => by unfold dst; rw [if_pos (Nat.le_refl _)]; omega
    have z2 : dst ls (w + 1) w = 0 := by unfold dst; rw [if_neg (by omega)]
    intro i j hi' hj
    have e1 := z w
    have e2 := z (w + 1)
    by_cases a : i < P
    · have c := c1 i a
      by_cases b : j < P
      · have := P_cmp h hy a b
        simp only [if_pos a, if_pos b]
        exact this
      · by_cases b2 : j = P
        · simp only [if_pos a, if_neg b, if_pos b2]; omega
        · simp only [if_pos a, if_neg b, if_neg b2]; omega
    · by_cases a2 : i = P
      · by_cases b : j < P
        · have c := c1 j b
          simp only [if_neg a, if_pos a2, if_pos b]; omega
        · by_cases b2 : j = P
          · simp only [if_neg a, if_pos a2, if_neg b, if_pos b2]; omega
          · simp only [if_neg a, if_pos a2, if_neg b, if_neg b2]; omega
      · by_cases b : j < P
        · have c := c1 j b
          simp only [if_neg a, if_neg a2, if_pos b]; omega
        · by_cases b2 : j = P
          · simp only [if_neg a, if_neg a2, if_neg b, if_pos b2]; omega
          · simp only [if_neg a, if_neg a2, if_neg b, if_neg b2]; omega)
  have hp : ∀ i, i < P → L (pos i) = y i := fun i hi' => by
    have := h2 i (by omega)
    simp only [if_pos hi'] at this
    exact this
  refine ⟨L, ⟨fun w _ => h1 w, fun b hb ho => ?_⟩, hp, ?_, ?_⟩
  · obtain ⟨a1, a2, a3, a4⟩ := h.2.2.2 b hb
    rw [← a2, ← a4, hp _ a1, hp _ a3]
    exact hy.2 b hb ho
  · have := h2 P (by omega)
    simpa using this
  · have := h2 (P + 1) (by omega)
    simp only [if_neg (show ¬ P + 1 < P by omega), if_neg (show ¬ P + 1 = P by omega)] at this
    exact this
theorem dst_s (ls : Nat → Bool) (w : Nat) : dst ls w (w + 1) = if ls w = true then 9999 else 0 := by
  unfold dst
  rw [if_pos (by omega), cpC_s]
  omega
/-- within a gap: any share x of what the gap holds that leaves no more than the others can hold -/
theorem P_gap (h : PST ls bA bE bc P pos rm sA sE) {y : Nat → Int} (hy : PWAY P rm sA sE rT bc out y) {w i : Nat} (hi' : i + 1 < P) (h1 : pos i ≤ w) (h2 : w < pos (i + 1)) (hl : ls w = true) {x : Int} (x0 : 0 ≤ x) (x1 : x ≤ 9999) (x2 : x ≤ y (i + 1) - y i) (x3 : y (i + 1) - y i - x ≤ rm i - 9999) :
    ∃ L, LWAY ls bA bE rT bc out L ∧ (∀ i, i < P → L (pos i) = y i) ∧ L (w + 1) - L w = x := by
  obtain ⟨a, ha1, ha2, ha3, ha4⟩ : ∃ a : Int, 0 ≤ a ∧ a ≤ y (i + 1) - y i - x ∧ a ≤ cpC ls w - cpC ls (pos i) ∧ y (i + 1) - y i - x - a ≤ cpC ls (pos (i + 1)) - cpC ls (w + 1) := by
    have e1 := cpC_mono ls h1
    have e2 := cpC_mono ls (show w + 1 ≤ pos (i + 1) from h2)
    have e3 := cpC_s ls w
    rw [if_pos hl] at e3
    have e4 := h.2.2.1 i hi'
    exact ⟨min (y (i + 1) - y i - x) (cpC ls w - cpC ls (pos i)), by omega, by omega, by omega, by omega⟩
  obtain ⟨L, l1, l2, l3, l4⟩ := P_two h hy (w := w) (u := y i + a) (v := y i + a + x) (fun j hj => by
    have m1 := cpC_mono ls h1
    have m2 := cpC_mono ls (show w + 1 ≤ pos (i + 1) from h2)
    have m3 := cpC_s ls w
    rw [if_pos hl] at m3
    have n1 : w ≤ pos j → cpC ls w ≤ cpC ls (pos j) := fun q => cpC_mono ls q
    have n2 : w + 1 ≤ pos j → cpC ls (w + 1) ≤ cpC ls (pos j) := fun q => cpC_mono ls q
    have n3 : pos j ≤ w → cpC ls (pos j) ≤ cpC ls w := fun q => cpC_mono ls q
    have n4 : pos j ≤ w + 1 → cpC ls (pos j) ≤ cpC ls (w + 1) := fun q => cpC_mono ls q
    rcases Nat.lt_or_ge i j with q | q
    · have b := P_le h hy (i := i + 1) (j := j) q hj
      unfold dst
      refine ⟨?_, ?_, ?_, ?_⟩ <;> split <;> omega
    · have b := P_le h hy (i := j) (j := i) q (by omega)
      unfold dst
      refine ⟨?_, ?_, ?_, ?_⟩ <;> split <;> omega) (by omega) (by rw [dst_s, if_pos hl]; omega)
  exact ⟨L, l1, l2, by omega⟩
/-- outside all gaps: any x up to 9999 -/
theorem P_out (h : PST ls bA bE bc P pos rm sA sE) {y : Nat → Int} (hy : PWAY P rm sA sE rT bc out y) {w : Nat} (ho : P = 0 ∨ w < pos 0 ∨ pos (P - 1) ≤ w) (hl : ls w = true) {x : Int} (x0 : 0 ≤ x) (x1 : x ≤ 9999) :
    ∃ L, LWAY ls bA bE rT bc out L ∧ L (w + 1) - L w = x := by
  have m3 := cpC_s ls w
  rw [if_pos hl] at m3
  have key : ∃ u v : Int, v - u = x ∧ ∀ i, i < P → u ≤ y i + dst ls (pos i) w ∧ y i ≤ u + dst ls w (pos i) ∧ v ≤ y i + dst ls (pos i) (w + 1) ∧ y i ≤ v + dst ls (w + 1) (pos i) := by
    rcases Nat.eq_zero_or_pos P with e | e
    · exact ⟨0, x, by omega, fun i hi' => absurd hi' (by omega)⟩
    · rcases ho with q | q | q
      · omega
      · refine ⟨y 0 - x, y 0, by omega, fun j hj => ?_⟩
        have b := P_le h hy (Nat.zero_le j) hj
        have n2 := cpC_mono ls (show w + 1 ≤ pos 0 from q)
        have n5 := cpC_mono ls b.2.2
        have n4 : pos j ≤ w + 1 → cpC ls (pos j) ≤ cpC ls (w + 1) := fun q => cpC_mono ls q
        unfold dst
        refine ⟨?_, ?_, ?_, ?_⟩ <;> split <;> omega
      · refine ⟨y (P - 1), y (P - 1) + x, by omega, fun j hj => ?_⟩
        have b := P_le h hy (i := j) (j := P - 1) (by omega) (by omega)
        have n2 := cpC_mono ls q
        have n1 : w ≤ pos j → cpC ls w ≤ cpC ls (pos j) := fun q => cpC_mono ls q
        have n5 := cpC_mono ls b.2.2
        unfold dst
        refine ⟨?_, ?_, ?_, ?_⟩ <;> split <;> omega
  obtain ⟨u, v, k1, k2⟩ := key
  obtain ⟨L, l1, l2, l3, l4⟩ := P_two h hy (w := w) (u := u) (v := v) k2 (by omega) (by rw [dst_s, if_pos hl]; omega)
  exact ⟨L, l1, by omega⟩
theorem P_any (h : PST ls bA bE bc P pos rm sA sE) {y : Nat → Int} (hy : PWAY P rm sA sE rT bc out y) : ∃ L, LWAY ls bA bE rT bc out L ∧ ∀ i, i < P → L (pos i) = y i := by
  rcases Nat.eq_zero_or_pos P with e | e
  · refine ⟨fun _ => 0, ⟨fun w _ => ⟨Int.le_refl _, by show (0 : Int) ≤ 0 + _; split <;> omega⟩, fun b hb ho => ?_⟩, fun i hi' => absurd hi' (by omega)⟩
    have := (h.2.2.2 b hb).1
    omega
  · obtain ⟨L, l1, l2⟩ := ext_pts ls (P - 1) pos y (fun i j hi' hj => P_cmp h hy (by omega) (by omega))
    refine ⟨L, ⟨fun w _ => l1 w, fun b hb ho => ?_⟩, fun i hi' => l2 i (by omega)⟩
    obtain ⟨a1, a2, a3, a4⟩ := h.2.2.2 b hb
    rw [← a2, ← a4, l2 _ (by omega), l2 _ (by omega)]
    exact hy.2 b hb ho
/-- the greatest difference of two posts, over all ways -/
def PMX (P : Nat) (rm : Nat → Int) (sA sE : Nat → Nat) (sR : Nat → Int) (bc : Nat) (out : Nat → Bool) (i j : Nat) (z : Int) : Prop :=
  (∃ y, PWAY P rm sA sE sR bc out y ∧ y j - y i = z) ∧ ∀ y, PWAY P rm sA sE sR bc out y → y j - y i ≤ z
variable (hT : ∀ w, w < 104 → ls w = true → T w = 0) (hr : ∀ b, b < bc → rT b = bT b - (ppS T (bE b) - ppS T (bA b)))
theorem L_to_W (hT : ∀ w, w < 104 → ls w = true → T w = 0) (hr : ∀ b, b < bc → rT b = bT b - (ppS T (bE b) - ppS T (bA b))) {L : Nat → Int} (hL : LWAY ls bA bE rT bc out L) : WAY ls T bA bE bT bc out (fun v => L v + ppS T v) :=
  (WAY_L hT hr _).mpr (by
    have e : (fun v => L v + ppS T v - ppS T v) = L := funext fun v => by omega
    rw [e]
    exact hL)
theorem CAN_P (hT : ∀ w, w < 104 → ls w = true → T w = 0) (hr : ∀ b, b < bc → rT b = bT b - (ppS T (bE b) - ppS T (bA b))) (h : PST ls bA bE bc P pos rm sA sE) : CAN ls T bA bE bT bc out ↔ ∃ y, PWAY P rm sA sE rT bc out y := by
  constructor
  · rintro ⟨S, hS⟩
    exact ⟨_, L_to_P h ((WAY_L hT hr S).mp hS)⟩
  · rintro ⟨y, hy⟩
    obtain ⟨L, hL, -⟩ := P_any h hy
    exact ⟨_, L_to_W hT hr hL⟩
theorem MX_gap (hT : ∀ w, w < 104 → ls w = true → T w = 0) (hr : ∀ b, b < bc → rT b = bT b - (ppS T (bE b) - ppS T (bA b))) (h : PST ls bA bE bc P pos rm sA sE) {w i : Nat} (hi' : i + 1 < P) (h1 : pos i ≤ w) (h2 : w < pos (i + 1)) (hl : ls w = true) {z : Int} (hz : PMX P rm sA sE rT bc out i (i + 1) z) : MXD ls T bA bE bT bc out w (w + 1) (min 9999 z) := by
  have hp := h.2.1 (i + 1) hi'
  have step : ppS T (w + 1) = ppS T w + T w := rfl
  have tw := hT w (by omega) hl
  have e1 := cpC_mono ls h1
  have e2 := cpC_mono ls (show w + 1 ≤ pos (i + 1) from h2)
  have e3 := cpC_s ls w
  rw [if_pos hl] at e3
  have e4 := h.2.2.1 i hi'
  constructor
  · obtain ⟨y, hy, hz1⟩ := hz.1
    have b := hy.1 i hi'
    obtain ⟨L, l1, l2, l3⟩ := P_gap h hy hi' h1 h2 hl (x := min 9999 z) (by omega) (by omega) (by omega) (by omega)
    exact ⟨_, L_to_W hT hr l1, by omega⟩
  · intro S hS
    have hL := (WAY_L hT hr S).mp hS
    have a := hz.2 _ (L_to_P h hL)
    have b := hL.1 w (by omega)
    have c := (LST_ab hL.1 h1 (by omega)).1
    have d := (LST_ab hL.1 (show w + 1 ≤ pos (i + 1) from h2) hp).1
    rw [if_pos hl] at b
    simp only at a b c d
    omega
theorem MX_gap2 (hT : ∀ w, w < 104 → ls w = true → T w = 0) (hr : ∀ b, b < bc → rT b = bT b - (ppS T (bE b) - ppS T (bA b))) (h : PST ls bA bE bc P pos rm sA sE) {w i : Nat} (hi' : i + 1 < P) (h1 : pos i ≤ w) (h2 : w < pos (i + 1)) (hl : ls w = true) {z : Int} (hz : PMX P rm sA sE rT bc out (i + 1) i (-z)) : MXD ls T bA bE bT bc out (w + 1) w (-(max 0 (z - (rm i - 9999)))) := by
  have hp := h.2.1 (i + 1) hi'
  have step : ppS T (w + 1) = ppS T w + T w := rfl
  have tw := hT w (by omega) hl
  have e1 := cpC_mono ls h1
  have e2 := cpC_mono ls (show w + 1 ≤ pos (i + 1) from h2)
  have e3 := cpC_s ls w
  rw [if_pos hl] at e3
  have e4 := h.2.2.1 i hi'
  constructor
  · obtain ⟨y, hy, hz1⟩ := hz.1
    have b := hy.1 i hi'
    obtain ⟨L, l1, l2, l3⟩ := P_gap h hy hi' h1 h2 hl (x := max 0 (z - (rm i - 9999))) (by omega) (by omega) (by omega) (by omega)
    exact ⟨_, L_to_W hT hr l1, by omega⟩
  · intro S hS
    have hL := (WAY_L hT hr S).mp hS
    have a := hz.2 _ (L_to_P h hL)
    have b := hL.1 w (by omega)
    have c := LST_ab hL.1 h1 (by omega)
    have d := LST_ab hL.1 (show w + 1 ≤ pos (i + 1) from h2) hp
    rw [if_pos hl] at b
    simp only at a b c d
    omega
theorem MX_out (hT : ∀ w, w < 104 → ls w = true → T w = 0) (hr : ∀ b, b < bc → rT b = bT b - (ppS T (bE b) - ppS T (bA b))) (h : PST ls bA bE bc P pos rm sA sE) {w : Nat} (hw : w < 104) (ho : P = 0 ∨ w < pos 0 ∨ pos (P - 1) ≤ w) (hl : ls w = true) (hc : ∃ y, PWAY P rm sA sE rT bc out y) : MXD ls T bA bE bT bc out w (w + 1) 9999 ∧ MXD ls T bA bE bT bc out (w + 1) w (-0) := by
  have step : ppS T (w + 1) = ppS T w + T w := rfl
  have tw := hT w hw hl
  obtain ⟨y, hy⟩ := hc
  obtain ⟨L, l1, l2⟩ := P_out h hy ho hl (x := 9999) (by omega) (by omega)
  obtain ⟨L', k1, k2⟩ := P_out h hy ho hl (x := 0) (by omega) (by omega)
  refine ⟨⟨⟨_, L_to_W hT hr l1, by omega⟩, fun S hS => ?_⟩, ⟨⟨_, L_to_W hT hr k1, by omega⟩, fun S hS => ?_⟩⟩
  · have := hS.1 w hw
    rw [if_pos hl] at this
    omega
  · have := hS.1 w hw
    rw [if_pos hl] at this
    omega
end Po
