theorem pure_law {L : Nat} (hL : L ≤ 3072) (xs : Nat → Int32) : ∃ h' : Hp, f_L_law (some 2) (hp0 L xs) = some (1, h') := by
  sorry
