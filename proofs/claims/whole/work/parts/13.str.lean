section MwS
variable {E : En} {M N : Mi} {d mc ms mc' ms' pc : Nat} {lo : List (Option Vv)} {st : List Vv} {h : Hp} {Q : Option Vv → Hp → Prop}
theorem ml_sLn {x : Option Nat} {v : Int32} (hcl : M.1.cls = RX2) (hdg : decode M.2.1 pc = .ok (.invokevirtual 109, 3)) (hcat : (st.map vcat).sum ≤ 8) (e : sLn x = some v) (kk : MW E M (d + 8) mc ms (pc + 3) lo (vi v :: st) h Q) : MW E M (d + 8) mc ms pc lo (vq x :: st) h Q := by
  sorry
theorem ml_sCh {x : Option Nat} {i v : Int32} (hcl : M.1.cls = RX2) (hdg : decode M.2.1 pc = .ok (.invokevirtual 112, 3)) (hcat : (st.map vcat).sum ≤ 8) (e : sCh x i = some v) (kk : MW E M (d + 8) mc ms (pc + 3) lo (vi v :: st) h Q) : MW E M (d + 8) mc ms pc lo (vi i :: vq x :: st) h Q := by
  sorry
theorem ml_sIx {x : Option Nat} {i v : Int32} (hcl : M.1.cls = RX2) (hdg : decode M.2.1 pc = .ok (.invokevirtual 98, 3)) (hcat : (st.map vcat).sum ≤ 8) (e : sIx x i = some v) (kk : MW E M (d + 8) mc ms (pc + 3) lo (vi v :: st) h Q) : MW E M (d + 8) mc ms pc lo (vi i :: vq x :: st) h Q := by
  sorry
end MwS
