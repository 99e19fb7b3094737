/-! Ways to fill the lost weeks: as sums ahead of each week's beginning. -/
section Ho
variable (ls : Nat → Bool) (T : Nat → Int) (bA bE : Nat → Nat) (bT : Nat → Int)
def WE : Nat → List Ed
  | 0 => []
  | n + 1 => WE n ++ [(n, n + 1, if ls n = true then 9999 else T n), (n + 1, n, -(if ls n = true then 0 else T n))]
def BE (out : Nat → Bool) : Nat → List Ed
  | 0 => []
  | n + 1 => BE out n ++ (if out n = true then [] else [(bA n, bE n, bT n), (bE n, bA n, -bT n)])
/-- a way: sums S whose steps are what was paid, or for lost weeks 0 up to 9999; the banks that are not left out hold -/
def WAY (bc : Nat) (out : Nat → Bool) (S : Nat → Int) : Prop :=
  (∀ w, w < 104 → if ls w = true then S w ≤ S (w + 1) ∧ S (w + 1) ≤ S w + 9999 else S (w + 1) = S w + T w) ∧ ∀ b, b < bc → out b = false → S (bE b) = S (bA b) + bT b
theorem WE_st (n : Nat) (S : Nat → Int) : St' (WE ls T n) S ↔ ∀ w, w < n → if ls w = true then S w ≤ S (w + 1) ∧ S (w + 1) ≤ S w + 9999 else S (w + 1) = S w + T w := by
  induction n with
  | zero => exact ⟨fun _ w hw => absurd hw (Nat.not_lt_zero _), fun _ e he => absurd he List.not_mem_nil⟩
  | succ n ih =>
    constructor
    · intro h w hw
      have h1 : St' (WE ls T n) S := fun e he => h e (List.mem_append_left _ he)
      rcases Nat.lt_or_ge w n with q | q
      · exact ih.mp h1 w q
      · obtain rfl : w = n := by omega
        have a := h (w, w + 1, if ls w = true then 9999 else T w) (List.mem_append_right _ List.mem_cons_self)
        have b := h (w + 1, w, -(if ls w = true then 0 else T w)) (List.mem_append_right _ (List.mem_cons_of_mem _ List.mem_cons_self))
        simp only at a b
        split
        · rename_i q; rw [if_pos q] at a b; omega
        · rename_i q; rw [if_neg q] at a b; omega
    · intro h e he
      rcases List.mem_append.mp he with q | q
      · exact ih.mpr (fun w hw => h w (by omega)) e q
      · have hn := h n (Nat.lt_succ_self n)
        rcases List.mem_cons.mp q with rfl | q
        · simp only
          by_cases z : ls n = true
          · rw [if_pos z] at hn ⊢; omega
          · rw [if_neg z] at hn ⊢; omega
        · rw [List.mem_singleton] at q
          subst q
          simp only
          by_cases z : ls n = true
          · rw [if_pos z] at hn ⊢; omega
          · rw [if_neg z] at hn ⊢; omega
theorem BE_st (out : Nat → Bool) (n : Nat) (S : Nat → Int) : St' (BE bA bE bT out n) S ↔ ∀ b, b < n → out b = false → S (bE b) = S (bA b) + bT b := by
  induction n with
  | zero => exact ⟨fun _ w hw => absurd hw (Nat.not_lt_zero _), fun _ e he => absurd he List.not_mem_nil⟩
  | succ n ih =>
    constructor
    · intro h b hb ho
      have h1 : St' (BE bA bE bT out n) S := fun e he => h e (List.mem_append_left _ he)
      rcases Nat.lt_or_ge b n with q | q
      · exact ih.mp h1 b q ho
      · obtain rfl : b = n := by omega
        have hm : (if out b = true then [] else [(bA b, bE b, bT b), (bE b, bA b, -bT b)]) = [(bA b, bE b, bT b), (bE b, bA b, -bT b)] := by rw [if_neg (by rw [ho]; decide)]
        have a := h (bA b, bE b, bT b) (List.mem_append_right _ (by rw [hm]; exact List.mem_cons_self))
        have b' := h (bE b, bA b, -bT b) (List.mem_append_right _ (by rw [hm]; exact List.mem_cons_of_mem _ List.mem_cons_self))
        simp only at a b'
        omega
    · intro h e he
      rcases List.mem_append.mp he with q | q
      · exact ih.mpr (fun b hb => h b (by omega)) e q
      · by_cases z : out n = true
        · rw [if_pos z] at q; exact absurd q List.not_mem_nil
        · rw [if_neg z] at q
          have hn := h n (Nat.lt_succ_self n) (Bool.eq_false_iff.mpr z)
          rcases List.mem_cons.mp q with rfl | q
          · simp only; omega
          · rw [List.mem_singleton] at q
            subst q
            simp only; omega
theorem St'_app {a b : List Ed} {S : Nat → Int} : St' (a ++ b) S ↔ St' a S ∧ St' b S :=
  ⟨fun h => ⟨fun e he => h e (List.mem_append_left _ he), fun e he => h e (List.mem_append_right _ he)⟩, fun h e he => (List.mem_append.mp he).elim (h.1 e) (h.2 e)⟩
theorem WAY_st (bc : Nat) (out : Nat → Bool) (S : Nat → Int) : St' (WE ls T 104 ++ BE bA bE bT out bc) S ↔ WAY ls T bA bE bT bc out S := by
  rw [St'_app, WE_st, BE_st]
  exact Iff.rfl
theorem WE_in (n : Nat) : ∀ e ∈ WE ls T n, e.1 < n + 1 ∧ e.2.1 < n + 1 := by
  induction n with
  | zero => intro e he; exact absurd he List.not_mem_nil
  | succ n ih =>
    intro e he
    rcases List.mem_append.mp he with q | q
    · have := ih e q; omega
    · rcases List.mem_cons.mp q with rfl | q
      · simp only; omega
      · rw [List.mem_singleton] at q; subst q; simp only; omega
theorem BE_in (out : Nat → Bool) {N : Nat} (n : Nat) (hb : ∀ b, b < n → bA b < N ∧ bE b < N) : ∀ e ∈ BE bA bE bT out n, e.1 < N ∧ e.2.1 < N := by
  induction n with
  | zero => intro e he; exact absurd he List.not_mem_nil
  | succ n ih =>
    intro e he
    rcases List.mem_append.mp he with q | q
    · exact ih (fun b hb' => hb b (by omega)) e q
    · split at q
      · exact absurd q List.not_mem_nil
      · have := hb n (Nat.lt_succ_self n)
        rcases List.mem_cons.mp q with rfl | q
        · exact ⟨this.1, this.2⟩
        · rw [List.mem_singleton] at q; subst q; exact ⟨this.2, this.1⟩
end Ho
theorem bd_ex (x : Nat → Int) (N : Nat) : ∃ C, ∀ v, v < N → x v ≤ C := by
  induction N with
  | zero => exact ⟨0, fun v hv => absurd hv (Nat.not_lt_zero _)⟩
  | succ N ih =>
    obtain ⟨C, hC⟩ := ih
    refine ⟨max C (x N), fun v hv => ?_⟩
    rcases Nat.lt_or_ge v N with q | q
    · have := hC v q; omega
    · obtain rfl : v = N := by omega
      omega
/-- a solution among N places, shifted, and beyond them as f -/
theorem st_cut {es : List Ed} {N : Nat} (hN : ∀ e ∈ es, e.1 < N ∧ e.2.1 < N) {x f : Nat → Int} (c : Int) (hs : St' es x) : St' es (fun v => if v < N then x v + c else f v) := by
  intro e he
  obtain ⟨h1, h2⟩ := hN e he
  have := hs e he
  simp only
  rw [if_pos h1, if_pos h2]
  omega
/-- from f, where a solution lies below it: at rest behind N rounds, at the greatest solution -/
theorem settle {B : Int} {es : List Ed} {N : Nat} (hN : ∀ e ∈ es, e.1 < N ∧ e.2.1 < N) {x f : Nat → Int} (hs : St' es x) (hx : ∀ v, v < N → x v ≤ f v) (hB : ∀ y, St' es y → (∀ v, y v ≤ f v) → ∀ v, v < N → y v < B) :
    ∃ d, (∀ v, rds B es f N v = d v) ∧ (∀ v, rd B es (rds B es f N) v = rds B es f N v) ∧ St' es d ∧ (∀ v, d v ≤ f v) ∧ ∀ y, St' es y → (∀ v, v < N → y v ≤ f v) → ∀ v, v < N → y v ≤ d v := by
  have hs' : St' es (fun v => if v < N then x v + 0 else f v) := st_cut hN 0 hs
  obtain ⟨d, d1, d2, d3⟩ := great hs' (f := f) (fun v => by
    split
    · rename_i q; have := hx v q; omega
    · omega)
  have hg : ∀ y, St' es y → (∀ v, v < N → y v ≤ f v) → ∀ v, v < N → y v ≤ d v := by
    intro y hy hy' v hv
    have := d3 _ (st_cut (f := f) hN 0 hy) (fun v => by
      split
      · rename_i q; have := hy' v q; omega
      · omega) v
    rw [if_pos hv] at this
    omega
  have hout : ∀ v, N ≤ v → d v = f v := by
    intro v hv
    have := d3 _ (st_cut (f := f) hN 0 d1) (fun v => by
      split
      · have := d2 v; omega
      · omega) v
    rw [if_neg (by omega)] at this
    have := d2 v
    omega
  have hr := rds_settle (B := B) hN d1 d2 d3 (hB d d1 d2) hout
  refine ⟨d, hr, fun v => ?_, d1, d2, hg⟩
  have e : rds B es f N = d := funext hr
  rw [e]
  have a := rd_le B es d v
  have b := rd_ge (B := B) es d d1 (fun v => Int.le_refl _) v
  omega
