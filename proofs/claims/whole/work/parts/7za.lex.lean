/-! The text's tokens, as numbers. -/
def scn (P : Nat → Bool) : Nat → Nat → Nat
  | 0, p => p
  | f + 1, p => if P p = true then scn P f (p + 1) else p
theorem scn_ge (P : Nat → Bool) : ∀ f p, p ≤ scn P f p := by
  intro f
  induction f with
  | zero => intro p; exact Nat.le_refl _
  | succ f ih =>
    intro p
    unfold scn
    split
    · have := ih (p + 1); omega
    · exact Nat.le_refl _
theorem scn_le (P : Nat → Bool) : ∀ f p, scn P f p ≤ p + f := by
  intro f
  induction f with
  | zero => intro p; exact Nat.le_refl _
  | succ f ih =>
    intro p
    unfold scn
    split
    · have := ih (p + 1); omega
    · omega
theorem scn_in (P : Nat → Bool) : ∀ f p k, p ≤ k → k < scn P f p → P k = true := by
  intro f
  induction f with
  | zero => intro p k h1 h2; unfold scn at h2; omega
  | succ f ih =>
    intro p k h1 h2
    unfold scn at h2
    split at h2
    · rename_i q
      by_cases e : k = p
      · subst e; exact q
      · exact ih (p + 1) k (by omega) h2
    · omega
theorem scn_out (P : Nat → Bool) : ∀ f p, scn P f p < p + f → P (scn P f p) = false := by
  intro f
  induction f with
  | zero => intro p h; unfold scn at h; omega
  | succ f ih =>
    intro p h
    unfold scn at h ⊢
    split
    · rename_i q
      rw [if_pos q] at h
      exact ih (p + 1) (by omega)
    · rename_i q
      simpa using q
def isL (c : Nat) : Bool := decide (97 ≤ c) && decide (c ≤ 122)
def isD (c : Nat) : Bool := decide (48 ≤ c) && decide (c ≤ 57)
def isB (c : Nat) : Bool := decide (c = 32) || decide (c = 10)
def isS (c : Nat) : Bool := decide (c = 59) || decide (c = 40) || decide (c = 41) || decide (c = 60) || decide (c = 62) || decide (c = 61) || decide (c = 43) || decide (c = 45) || decide (c = 42) || decide (c = 47)
theorem isL_iff {c : Nat} : isL c = true ↔ 97 ≤ c ∧ c ≤ 122 := by unfold isL; rw [Bool.and_eq_true, decide_eq_true_eq, decide_eq_true_eq]
theorem isD_iff {c : Nat} : isD c = true ↔ 48 ≤ c ∧ c ≤ 57 := by unfold isD; rw [Bool.and_eq_true, decide_eq_true_eq, decide_eq_true_eq]
theorem isB_iff {c : Nat} : isB c = true ↔ c = 32 ∨ c = 10 := by unfold isB; rw [Bool.or_eq_true, decide_eq_true_eq, decide_eq_true_eq]
theorem isS_iff {c : Nat} : isS c = true ↔ c = 59 ∨ c = 40 ∨ c = 41 ∨ c = 60 ∨ c = 62 ∨ c = 61 ∨ c = 43 ∨ c = 45 ∨ c = 42 ∨ c = 47 := by unfold isS; simp only [Bool.or_eq_true, decide_eq_true_eq]; omega
def rn (B : Nat → Nat) (n : Nat) (P : Nat → Bool) (p : Nat) : Nat := scn (fun k => P (B k)) (n - p) p
section Rn
variable {B : Nat → Nat} {n : Nat} {P : Nat → Bool} {p : Nat}
theorem rn_ge : p ≤ rn B n P p := scn_ge _ _ _
theorem rn_le (h : p ≤ n) : rn B n P p ≤ n := by have := scn_le (fun k => P (B k)) (n - p) p; unfold rn; omega
theorem rn_in {k : Nat} (h1 : p ≤ k) (h2 : k < rn B n P p) : P (B k) = true := scn_in (fun k => P (B k)) (n - p) p k h1 h2
theorem rn_out (h : rn B n P p < n) (hp : p ≤ n) : P (B (rn B n P p)) = false := scn_out (fun k => P (B k)) (n - p) p (by unfold rn at h; omega)
theorem rn_end (h : n ≤ p) : rn B n P p = p := by unfold rn; rw [show n - p = 0 by omega]; rfl
theorem rn_go (h : p < n) (q : P (B p) = true) : rn B n P p = rn B n P (p + 1) := by
  unfold rn
  rw [show n - p = (n - (p + 1)) + 1 by omega, scn, if_pos q]
theorem rn_stop (q : P (B p) = false) : rn B n P p = p := by
  unfold rn
  cases n - p with
  | zero => rfl
  | succ f => rw [scn, if_neg (by rw [q]; decide)]
end Rn
/-- letters, the last one first -/
def Lr (f : Nat → Nat) : Nat → List Nat
  | 0 => []
  | m + 1 => f m :: Lr f m
theorem Lr_len (f : Nat → Nat) : ∀ m, (Lr f m).length = m := by
  intro m
  induction m with
  | zero => rfl
  | succ m ih => show (Lr f m).length + 1 = _; rw [ih]
theorem Lr_inj {f g : Nat → Nat} : ∀ m m', Lr f m = Lr g m' → m = m' ∧ ∀ i, i < m → f i = g i := by
  intro m
  induction m with
  | zero =>
    intro m' e
    cases m' with
    | zero => exact ⟨rfl, fun i hi' => absurd hi' (Nat.not_lt_zero _)⟩
    | succ m' => exact absurd (congrArg List.length e) (by rw [Lr_len, Lr_len]; omega)
  | succ m ih =>
    intro m' e
    cases m' with
    | zero => exact absurd (congrArg List.length e) (by rw [Lr_len, Lr_len]; omega)
    | succ m' =>
      have e1 : f m = g m' := (List.cons.inj e).1
      obtain ⟨e2, e3⟩ := ih m' (List.cons.inj e).2
      subst e2
      refine ⟨rfl, fun i hi' => ?_⟩
      by_cases q : i = m
      · subst q; exact e1
      · exact e3 i (by omega)
theorem Lr_eq {f g : Nat → Nat} : ∀ m, (∀ i, i < m → f i = g i) → Lr f m = Lr g m := by
  intro m
  induction m with
  | zero => intro _; rfl
  | succ m ih =>
    intro e
    show f m :: Lr f m = g m :: Lr g m
    rw [e m (by omega), ih (fun i hi' => e i (by omega))]
def pkr : List Nat → Nat
  | [] => 0
  | c :: l => 256 * pkr l + c
theorem pkr_inj : ∀ l l' : List Nat, (∀ c ∈ l, 0 < c ∧ c < 256) → (∀ c ∈ l', 0 < c ∧ c < 256) → pkr l = pkr l' → l = l' := by
  intro l
  induction l with
  | nil =>
    intro l' _ h' e
    cases l' with
    | nil => rfl
    | cons c l' =>
      have := h' c (List.mem_cons_self ..)
      simp only [pkr] at e
      omega
  | cons c l ih =>
    intro l' h h' e
    have hc := h c (List.mem_cons_self ..)
    cases l' with
    | nil => simp only [pkr] at e; omega
    | cons c' l' =>
      have hc' := h' c' (List.mem_cons_self ..)
      simp only [pkr] at e
      have e1 : c = c' := by omega
      subst e1
      rw [ih l' (fun x hx => h x (List.mem_cons_of_mem _ hx)) (fun x hx => h' x (List.mem_cons_of_mem _ hx)) (by omega)]
theorem Lr_mem {f : Nat → Nat} {c : Nat} : ∀ m, c ∈ Lr f m → ∃ i, i < m ∧ c = f i := by
  intro m
  induction m with
  | zero => intro h; cases h
  | succ m ih =>
    intro h
    rcases List.mem_cons.mp h with e | h
    · exact ⟨m, by omega, e⟩
    · obtain ⟨i, h1, h2⟩ := ih h
      exact ⟨i, by omega, h2⟩
/-- the words' letters, their lengths, their numbers -/
def wch (w i : Nat) : Nat := (by0.getD (8 * w + i) 0).toNatClampNeg
def wln (w : Nat) : Nat := [6, 5, 5, 4, 4, 5, 4, 4, 8, 4, 2, 3, 3, 4, 8, 5, 6, 5, 5, 5, 4, 5, 4, 5].getD w 0
def wNm (w : Nat) : Nat := pkr (Lr (wch w) (wln w))
theorem wch_tab : ∀ w, w < 24 → wln w ≤ 8 ∧ ∀ i, i < 8 → by0.getD (8 * w + i) 0 = nI (wch w i) ∧ (i < wln w → 97 ≤ wch w i ∧ wch w i ≤ 122) ∧ (wln w ≤ i → wch w i = 32) := by decide +kernel
theorem wNm_inj : ∀ w, w < 24 → ∀ w', w' < 24 → wNm w = wNm w' → w = w' := by decide +kernel
theorem wNm_lt : ∀ w, w < 24 → wNm w < 2 ^ 63 := by decide +kernel
/-- a word's number: its place among the words, 24 if it is none of them -/
def tkf (V : Nat) : Nat → Nat → Nat
  | 0, w => w
  | f + 1, w => if wNm w = V then w else tkf V f (w + 1)
def tkw (V : Nat) : Nat := tkf V 24 0
theorem tkf_spec (V : Nat) : ∀ f w, w + f = 24 → (w ≤ tkf V f w ∧ tkf V f w ≤ 24 ∧ (tkf V f w < 24 → wNm (tkf V f w) = V) ∧ ∀ j, w ≤ j → j < tkf V f w → wNm j ≠ V) := by
  intro f
  induction f with
  | zero =>
    intro w h
    unfold tkf
    exact ⟨Nat.le_refl _, by omega, fun q => by omega, fun j h1 h2 => by omega⟩
  | succ f ih =>
    intro w h
    unfold tkf
    split
    · rename_i q
      exact ⟨Nat.le_refl _, by omega, fun _ => q, fun j h1 h2 => by omega⟩
    · rename_i q
      obtain ⟨a, b, c, d⟩ := ih (w + 1) (by omega)
      refine ⟨by omega, b, c, fun j h1 h2 => ?_⟩
      by_cases e : j = w
      · subst e; exact q
      · exact d j (by omega) h2
theorem tkw_le (V : Nat) : tkw V ≤ 24 := (tkf_spec V 24 0 rfl).2.1
theorem tkw_iff {V w : Nat} (hw : w < 24) : tkw V = w ↔ V = wNm w := by
  obtain ⟨-, b, c, d⟩ := tkf_spec V 24 0 rfl
  constructor
  · intro e
    have e' : tkf V 24 0 = w := e
    rw [e'] at c
    exact (c hw).symm
  · intro e
    show tkf V 24 0 = w
    by_cases q : tkf V 24 0 < 24
    · exact wNm_inj _ q _ hw ((c q).trans e)
    · exact absurd e.symm (d w (by omega) (by omega))
def vlD (f : Nat → Nat) : Nat → Nat
  | 0 => 0
  | m + 1 => 10 * vlD f m + (f m - 48)
theorem vlD_le {f : Nat → Nat} : ∀ m, (∀ i, i < m → isD (f i) = true) → vlD f m < 10 ^ m := by
  intro m
  induction m with
  | zero => intro _; exact Nat.one_pos
  | succ m ih =>
    intro h
    have h1 := ih (fun i hi' => h i (by omega))
    have h2 := isD_iff.mp (h m (by omega))
    show 10 * vlD f m + (f m - 48) < 10 ^ (m + 1)
    rw [Nat.pow_succ]
    omega
/-- a token: its number, its place, its end -/
def tk (B : Nat → Nat) (n p : Nat) : Nat × Nat × Nat :=
  if n ≤ rn B n isB p then (25, rn B n isB p, rn B n isB p)
  else if isL (B (rn B n isB p)) = true then
    if rn B n isL (rn B n isB p) - rn B n isB p ≤ 8 then (tkw (pkr (Lr (fun i => B (rn B n isB p + i)) (rn B n isL (rn B n isB p) - rn B n isB p))), rn B n isB p, rn B n isL (rn B n isB p)) else (26, rn B n isB p, rn B n isL (rn B n isB p))
  else if isD (B (rn B n isB p)) = true then
    if 4 < rn B n isD (rn B n isB p) - rn B n isB p ∨ (rn B n isD (rn B n isB p) < n ∧ isL (B (rn B n isD (rn B n isB p))) = true) then (26, rn B n isB p, rn B n isD (rn B n isB p)) else (1000 + vlD (fun i => B (rn B n isB p + i)) (rn B n isD (rn B n isB p) - rn B n isB p), rn B n isB p, rn B n isD (rn B n isB p))
  else if isS (B (rn B n isB p)) = true then (B (rn B n isB p), rn B n isB p, rn B n isB p + 1) else (26, rn B n isB p, rn B n isB p + 1)
def tkE (B : Nat → Nat) (n : Nat) : Nat → Nat
  | 0 => 0
  | i + 1 => (tk B n (tkE B n i)).2.2
def tT (B : Nat → Nat) (n i : Nat) : Nat := (tk B n (tkE B n i)).1
def tP (B : Nat → Nat) (n i : Nat) : Nat := (tk B n (tkE B n i)).2.1
/-- what a token's number can be -/
def okT (t : Nat) : Prop := t ≤ 26 ∨ isS t = true ∨ (1000 ≤ t ∧ t < 11000)
theorem tk_all (B : Nat → Nat) (n p : Nat) (hp : p ≤ n) : okT (tk B n p).1 ∧ p ≤ (tk B n p).2.1 ∧ (tk B n p).2.1 ≤ n ∧ (tk B n p).2.2 ≤ n ∧ ((tk B n p).1 ≠ 25 → p < (tk B n p).2.2) := by
  have g1 := rn_ge (B := B) (n := n) (P := isB) (p := p)
  have g2 := rn_le (B := B) (P := isB) hp
  obtain ⟨a, ea⟩ : ∃ a, a = rn B n isB p := ⟨_, rfl⟩
  unfold tk
  rw [← ea] at g1 g2 ⊢
  by_cases c1 : n ≤ a
  · rw [if_pos c1]
    exact ⟨Or.inl (Nat.le_of_ble_eq_true rfl), g1, g2, g2, fun z => absurd rfl z⟩
  · rw [if_neg c1]
    by_cases c2 : isL (B a) = true
    · rw [if_pos c2]
      have g3 : a < rn B n isL a := by
        rw [rn_go (by omega) c2]
        have := rn_ge (B := B) (n := n) (P := isL) (p := a + 1)
        omega
      have g4 := rn_le (B := B) (P := isL) g2
      by_cases c3 : rn B n isL a - a ≤ 8
      · rw [if_pos c3]
        have := tkw_le (pkr (Lr (fun i => B (a + i)) (rn B n isL a - a)))
        exact ⟨Or.inl (by show tkw _ ≤ 26; omega), g1, g2, g4, fun _ => by show p < rn B n isL a; omega⟩
      · rw [if_neg c3]
        exact ⟨Or.inl (Nat.le_of_ble_eq_true rfl), g1, g2, g4, fun _ => by show p < rn B n isL a; omega⟩
    · rw [if_neg c2]
      by_cases c3 : isD (B a) = true
      · rw [if_pos c3]
        have g3 : a < rn B n isD a := by
          rw [rn_go (by omega) c3]
          have := rn_ge (B := B) (n := n) (P := isD) (p := a + 1)
          omega
        have g4 := rn_le (B := B) (P := isD) g2
        by_cases c4 : 4 < rn B n isD a - a ∨ (rn B n isD a < n ∧ isL (B (rn B n isD a)) = true)
        · rw [if_pos c4]
          exact ⟨Or.inl (Nat.le_of_ble_eq_true rfl), g1, g2, g4, fun _ => by show p < rn B n isD a; omega⟩
        · rw [if_neg c4]
          have c5 : rn B n isD a - a ≤ 4 := by omega
          have l1 := vlD_le (f := fun i => B (a + i)) (rn B n isD a - a) (fun i hi' => rn_in (n := n) (P := isD) (p := a) (by omega) (by omega))
          have l2 : 10 ^ (rn B n isD a - a) ≤ 10 ^ 4 := Nat.pow_le_pow_right (by decide) c5
          exact ⟨Or.inr (Or.inr ⟨by show 1000 ≤ 1000 + _; omega, by show 1000 + vlD _ _ < _; omega⟩), g1, g2, g4, fun _ => by show p < rn B n isD a; omega⟩
      · rw [if_neg c3]
        by_cases c4 : isS (B a) = true
        · rw [if_pos c4]
          exact ⟨Or.inr (Or.inl c4), g1, g2, by show a + 1 ≤ n; omega, fun _ => by show p < a + 1; omega⟩
        · rw [if_neg c4]
          exact ⟨Or.inl (Nat.le_of_ble_eq_true rfl), g1, g2, by show a + 1 ≤ n; omega, fun _ => by show p < a + 1; omega⟩
theorem tkE_le (B : Nat → Nat) (n : Nat) : ∀ i, tkE B n i ≤ n := by
  intro i
  induction i with
  | zero => exact Nat.zero_le _
  | succ i ih => exact (tk_all B n _ ih).2.2.2.1
theorem tT_ok (B : Nat → Nat) (n i : Nat) : okT (tT B n i) := (tk_all B n _ (tkE_le B n i)).1
/-- the tokens come to an end -/
theorem tT_end (B : Nat → Nat) (n : Nat) : ∃ N, N ≤ n ∧ (tT B n N = 25 ∨ tT B n N = 26) ∧ ∀ i, i < N → tT B n i ≠ 25 ∧ tT B n i ≠ 26 := by
  have key : ∀ f i, i + f = n + 1 → (∀ j, j < i → tT B n j ≠ 25 ∧ tT B n j ≠ 26) → i ≤ tkE B n i → ∃ N, N ≤ n ∧ (tT B n N = 25 ∨ tT B n N = 26) ∧ ∀ i, i < N → tT B n i ≠ 25 ∧ tT B n i ≠ 26 := by
    intro f
    induction f with
    | zero =>
      intro i hi' h1 h2
      have := tkE_le B n i
      omega
    | succ f ih =>
      intro i hi' h1 h2
      by_cases q : tT B n i = 25 ∨ tT B n i = 26
      · exact ⟨i, by have := tkE_le B n i; omega, q, h1⟩
      · refine ih (i + 1) (by omega) (fun j hj => ?_) ?_
        · by_cases e : j = i
          · subst e; exact ⟨fun z => q (Or.inl z), fun z => q (Or.inr z)⟩
          · exact h1 j (by omega)
        · have := (tk_all B n _ (tkE_le B n i)).2.2.2.2 (fun z => q (Or.inl z))
          show i + 1 ≤ (tk B n (tkE B n i)).2.2
          omega
  exact key (n + 1) 0 (by omega) (fun j hj => absurd hj (Nat.not_lt_zero _)) (Nat.zero_le _)
