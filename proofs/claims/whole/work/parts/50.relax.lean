/-! Bounds on differences: lowering by all bounds comes to rest within as many rounds as there are places, at the greatest solution below the start; if it comes to rest there is a solution. -/
abbrev Ed : Type := Nat × Nat × Int
/-- one bound: x v <= x u + w; nothing is drawn from what lies at B or above -/
def rl (B : Int) (f : Nat → Int) (e : Ed) : Nat → Int := if B ≤ f e.1 then f else if f e.1 + e.2.2 < f e.2.1 then (fun j => if j = e.2.1 then f e.1 + e.2.2 else f j) else f
def rd (B : Int) (es : List Ed) (f : Nat → Int) : Nat → Int := es.foldl (rl B) f
def St' (es : List Ed) (x : Nat → Int) : Prop := ∀ e ∈ es, x e.2.1 ≤ x e.1 + e.2.2
theorem rl_le (B : Int) (f : Nat → Int) (e : Ed) (v : Nat) : rl B f e v ≤ f v := by
  unfold rl
  split
  · exact Int.le_refl _
  · split
    · show (if v = e.2.1 then _ else _) ≤ _
      split
      · rename_i h1 h2 h3
        subst h3
        omega
      · exact Int.le_refl _
    · exact Int.le_refl _
theorem rl_ge {B : Int} {f x : Nat → Int} {e : Ed} (he : x e.2.1 ≤ x e.1 + e.2.2) (hx : ∀ v, x v ≤ f v) (v : Nat) : x v ≤ rl B f e v := by
  unfold rl
  split
  · exact hx v
  · split
    · show x v ≤ (if v = e.2.1 then _ else _)
      split
      · rename_i h1 h2 h3
        subst h3
        have := hx e.1
        omega
      · exact hx v
    · exact hx v
theorem rd_le (B : Int) : ∀ (es : List Ed) (f : Nat → Int) (v : Nat), rd B es f v ≤ f v
  | [], _, _ => Int.le_refl _
  | e :: es, f, v => Int.le_trans (rd_le B es (rl B f e) v) (rl_le B f e v)
theorem rd_ge {B : Int} {x : Nat → Int} : ∀ (es : List Ed) (f : Nat → Int), St' es x → (∀ v, x v ≤ f v) → ∀ v, x v ≤ rd B es f v
  | [], _, _, hx, v => hx v
  | e :: es, f, hs, hx, v => rd_ge es (rl B f e) (fun e' he' => hs e' (List.mem_cons_of_mem _ he')) (fun v => rl_ge (hs e List.mem_cons_self) hx v) v
/-- behind a round each bound has been used once on values no higher than at the round's start -/
theorem rd_used {B : Int} : ∀ (es : List Ed) (f x : Nat → Int), St' es x → (∀ v, x v ≤ f v) → ∀ e ∈ es, f e.1 = x e.1 → x e.1 < B → rd B es f e.2.1 ≤ x e.1 + e.2.2
  | [], _, _, _, _, e, he, _, _ => absurd he List.not_mem_nil
  | e0 :: es, f, x, hs, hx, e, he, h1, h2 => by
    have hs' : St' es x := fun e' he' => hs e' (List.mem_cons_of_mem _ he')
    have hx' : ∀ v, x v ≤ rl B f e0 v := fun v => rl_ge (hs e0 List.mem_cons_self) hx v
    rcases List.mem_cons.mp he with rfl | he
    · refine Int.le_trans (rd_le B es (rl B f e) e.2.1) ?_
      unfold rl
      rw [if_neg (by rw [h1]; omega)]
      split
      · show (if e.2.1 = e.2.1 then _ else _) ≤ _
        rw [if_pos rfl, h1]
        exact Int.le_refl _
      · rw [h1] at *
        omega
    · refine rd_used es (rl B f e0) x hs' hx' e he ?_ h2
      have a := rl_le B f e0 e.1
      have b := hx' e.1
      omega
/-- at rest: a solution, if all lies below B -/
theorem rd_rest {B : Int} {es : List Ed} {f : Nat → Int} (hr : ∀ v, rd B es f v = f v) (hB : ∀ e ∈ es, f e.1 < B) : St' es f := by
  have key : ∀ (es : List Ed) (g : Nat → Int), (∀ v, rd B es g v = g v) → (∀ e ∈ es, g e.1 < B) → St' es g := by
    intro es
    induction es with
    | nil => intro g _ _ e he; exact absurd he List.not_mem_nil
    | cons e0 es ih =>
      intro g hr hB
      have h1 : ∀ v, rl B g e0 v = g v := by
        intro v
        have a := rl_le B g e0 v
        have b := rd_le B es (rl B g e0) v
        have c : rd B es (rl B g e0) v = g v := hr v
        omega
      have h2 : rl B g e0 = g := funext h1
      have h3 : ∀ v, rd B es g v = g v := by
        intro v
        have c : rd B es (rl B g e0) v = g v := hr v
        rw [h2] at c
        exact c
      intro e he
      rcases List.mem_cons.mp he with rfl | he
      · have hb := hB e List.mem_cons_self
        have h4 := h1 e.2.1
        unfold rl at h4
        rw [if_neg (by omega)] at h4
        split at h4
        · rename_i hlt
          have h5 : (if e.2.1 = e.2.1 then g e.1 + e.2.2 else g e.2.1) = g e.2.1 := h4
          rw [if_pos rfl] at h5
          omega
        · omega
      · exact ih g h3 (fun e' he' => hB e' (List.mem_cons_of_mem _ he')) e he
  exact key es f hr hB
/-- a set of integers that is bounded has a greatest one -/
theorem int_max {P : Int → Prop} {b : Int} (hb : ∀ z, P z → z ≤ b) : ∀ (n : Nat) (z : Int), P z → (b - z).toNat ≤ n → ∃ m, P m ∧ ∀ z, P z → z ≤ m := by
  intro n
  induction n with
  | zero =>
    intro z hz hn
    refine ⟨z, hz, fun y hy => ?_⟩
    have := hb y hy
    have := hb z hz
    omega
  | succ n ih =>
    intro z hz hn
    by_cases h : ∃ y, P y ∧ z < y
    · obtain ⟨y, hy, hlt⟩ := h
      have := hb y hy
      exact ih y hy (by omega)
    · refine ⟨z, hz, fun y hy => ?_⟩
      exact Int.not_lt.mp fun q => h ⟨y, hy, q⟩
/-- the greatest solution below f -/
theorem great {es : List Ed} {f x : Nat → Int} (hs : St' es x) (hx : ∀ v, x v ≤ f v) : ∃ d : Nat → Int, St' es d ∧ (∀ v, d v ≤ f v) ∧ ∀ y, St' es y → (∀ v, y v ≤ f v) → ∀ v, y v ≤ d v := by
  have h : ∀ v, ∃ m : Int, (∃ y, St' es y ∧ (∀ u, y u ≤ f u) ∧ y v = m) ∧ ∀ z, (∃ y, St' es y ∧ (∀ u, y u ≤ f u) ∧ y v = z) → z ≤ m := fun v =>
    int_max (P := fun z => ∃ y, St' es y ∧ (∀ u, y u ≤ f u) ∧ y v = z) (b := f v) (fun z ⟨y, _, h2, h3⟩ => by rw [← h3]; exact h2 v) _ (x v) ⟨x, hs, hx, rfl⟩ (Nat.le_refl _)
  refine ⟨fun v => Classical.choose (h v), ?_, ?_, ?_⟩
  · intro e he
    obtain ⟨⟨y, h1, h2, h3⟩, -⟩ := Classical.choose_spec (h e.2.1)
    have h4 := (Classical.choose_spec (h e.1)).2 (y e.1) ⟨y, h1, h2, rfl⟩
    have h5 := h1 e he
    show Classical.choose (h e.2.1) ≤ Classical.choose (h e.1) + e.2.2
    omega
  · intro v
    obtain ⟨⟨y, h1, h2, h3⟩, -⟩ := Classical.choose_spec (h v)
    show Classical.choose (h v) ≤ f v
    rw [← h3]
    exact h2 v
  · intro y h1 h2 v
    exact (Classical.choose_spec (h v)).2 (y v) ⟨y, h1, h2, rfl⟩
/-- how many -/
def ct' (p : Nat → Bool) : Nat → Nat
  | 0 => 0
  | n + 1 => ct' p n + (if p n then 1 else 0)
theorem ct'_le (p : Nat → Bool) : ∀ n, ct' p n ≤ n
  | 0 => Nat.le_refl _
  | n + 1 => by
    have := ct'_le p n
    unfold ct'
    split <;> omega
theorem ct'_mono {p q : Nat → Bool} (h : ∀ v, p v = true → q v = true) : ∀ n, ct' p n ≤ ct' q n
  | 0 => Nat.le_refl _
  | n + 1 => by
    have := ct'_mono h n
    unfold ct'
    by_cases hp : p n = true
    · rw [if_pos hp, if_pos (h n hp)]
      omega
    · rw [if_neg hp]
      split <;> omega
theorem ct'_lt {p q : Nat → Bool} (h : ∀ v, p v = true → q v = true) {v : Nat} (h1 : q v = true) (h2 : ¬ p v = true) : ∀ n, v < n → ct' p n < ct' q n
  | 0, hv => absurd hv (Nat.not_lt_zero v)
  | n + 1, hv => by
    have hm := ct'_mono h n
    unfold ct'
    by_cases hvn : v = n
    · subst hvn
      rw [if_neg h2, if_pos h1]
      omega
    · have := ct'_lt h h1 h2 n (by omega)
      by_cases hp : p n = true
      · rw [if_pos hp, if_pos (h n hp)]
        omega
      · rw [if_neg hp]
        split <;> omega
theorem ct'_all {p : Nat → Bool} : ∀ n, n ≤ ct' p n → ∀ v, v < n → p v = true
  | 0, _, v, hv => absurd hv (Nat.not_lt_zero v)
  | n + 1, h, v, hv => by
    have h0 := ct'_le p n
    unfold ct' at h
    by_cases hp : p n = true
    · rw [if_pos hp] at h
      by_cases hvn : v = n
      · subst hvn; exact hp
      · exact ct'_all n (by omega) v (by omega)
    · rw [if_neg hp] at h
      omega
/-- rounds -/
def rds (B : Int) (es : List Ed) (f : Nat → Int) : Nat → Nat → Int
  | 0 => f
  | k + 1 => rd B es (rds B es f k)
/-- a solution below f is below all that comes -/
theorem rds_ge {B : Int} {es : List Ed} {f x : Nat → Int} (hs : St' es x) (hx : ∀ v, x v ≤ f v) : ∀ k v, x v ≤ rds B es f k v
  | 0, v => hx v
  | k + 1, v => rd_ge es _ hs (rds_ge hs hx k) v
theorem rds_le (B : Int) (es : List Ed) (f : Nat → Int) : ∀ k v, rds B es f k v ≤ f v
  | 0, _ => Int.le_refl _
  | k + 1, v => Int.le_trans (rd_le B es _ v) (rds_le B es f k v)
/-- within N rounds the N places are settled at the greatest solution; all edges lie among them, what is beyond stays -/
theorem rds_settle {B : Int} {es : List Ed} {f d : Nat → Int} {N : Nat} (hN : ∀ e ∈ es, e.1 < N ∧ e.2.1 < N) (hd : St' es d) (hdf : ∀ v, d v ≤ f v) (hg : ∀ y, St' es y → (∀ v, y v ≤ f v) → ∀ v, y v ≤ d v) (hB : ∀ v, v < N → d v < B) (hout : ∀ v, N ≤ v → d v = f v) :
    ∀ v, rds B es f N v = d v := by
  have hge := rds_ge (B := B) hd hdf
  have stay : ∀ k v, rds B es f k v = d v → rds B es f (k + 1) v = d v := fun k v h => by
    have a := rd_le B es (rds B es f k) v
    have b := hge (k + 1) v
    have c : rds B es f (k + 1) v = rd B es (rds B es f k) v := rfl
    omega
  have grow : ∀ k, k ≤ ct' (fun v => decide (rds B es f k v = d v)) N ∨ ∀ v, v < N → rds B es f k v = d v := by
    intro k
    induction k with
    | zero => exact Or.inl (Nat.zero_le _)
    | succ k ih =>
      rcases ih with ih | ih
      · by_cases hall : ∀ v, v < N → rds B es f k v = d v
        · exact Or.inr fun v hv => stay k v (hall v hv)
        · by_cases hnew : ∃ v, v < N ∧ rds B es f (k + 1) v = d v ∧ ¬ rds B es f k v = d v
          · obtain ⟨v, h1, h2, h3⟩ := hnew
            refine Or.inl (Nat.lt_of_le_of_lt ih ?_)
            exact ct'_lt (fun u hu => by simpa using stay k u (by simpa using hu)) (by simpa using h2) (by simpa using h3) N h1
          · exfalso
            have hsol : St' es (fun v => if rds B es f k v = d v then d v else d v + 1) := by
              intro e he
              obtain ⟨n1, n2⟩ := hN e he
              have h0 := hd e he
              show (if rds B es f k e.2.1 = d e.2.1 then d e.2.1 else d e.2.1 + 1) ≤ (if rds B es f k e.1 = d e.1 then d e.1 else d e.1 + 1) + e.2.2
              by_cases hv : rds B es f k e.2.1 = d e.2.1
              · rw [if_pos hv]
                split <;> omega
              · rw [if_neg hv]
                by_cases hu : rds B es f k e.1 = d e.1
                · rw [if_pos hu]
                  have h1 : rds B es f (k + 1) e.2.1 ≤ d e.1 + e.2.2 := rd_used es (rds B es f k) d hd (hge k) e he hu (hB _ n1)
                  have h2 := hge (k + 1) e.2.1
                  have h3 : ¬ rds B es f (k + 1) e.2.1 = d e.2.1 := fun q => hnew ⟨e.2.1, n2, q, hv⟩
                  omega
                · rw [if_neg hu]
                  omega
            have hle : ∀ v, (fun v => if rds B es f k v = d v then d v else d v + 1) v ≤ f v := by
              intro v
              show (if rds B es f k v = d v then d v else d v + 1) ≤ f v
              have a := rds_le B es f k v
              have b := hge k v
              split
              · exact hdf v
              · omega
            obtain ⟨v, hv⟩ : ∃ v, v < N ∧ ¬ rds B es f k v = d v := by
              refine Classical.byContradiction fun q => hall fun v hv => ?_
              exact Classical.byContradiction fun q2 => q ⟨v, hv, q2⟩
            have := hg _ hsol hle v
            have h5 : (if rds B es f k v = d v then d v else d v + 1) ≤ d v := this
            rw [if_neg hv.2] at h5
            omega
      · exact Or.inr fun v hv => stay k v (ih v hv)
  intro v
  by_cases hv : v < N
  · rcases grow N with h | h
    · have := ct'_all N h v hv
      simpa using this
    · exact h v hv
  · have a := rds_le B es f N v
    have b := hge N v
    have c := hout v (by omega)
    omega
