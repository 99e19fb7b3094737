def R_law : String := "RestPayLaw"
def lw_P (b : Addr) (xs : List Int32) (args : Array Value) (s : State) : Prop := args = #[.ref b] ∧ s.IntsAt b xs ∧ xs.length ≤ 3072 ∧ (Jvm.Cond.and given_1 narrow_1).before args s = true
def lw_Q (_ : Array Value) (s : State) (o : Outcome) (t : State) : Prop := o = .returned (some (.int 1)) ∧ Framed s o t [] 600000 7302250
def lw_Z (below : List Frame) (a : Array Value) (s : State) : State → Prop := fun t => ∃ o, t.status = .running ∧ Ended t below o ∧ lw_Q a s o t
/-- the law's own end, with 1 on the stack, nothing written that was there before, its room as the claim has it -/
theorem lw_ret {p : Program} {l : Launch} {e : Env} {s : State} {m : MethodId} {below : List Frame} {meth : Method} {c : Code} {b : Nat} (hx : p.tables.exec = Jvm.exec) (hb : c.code = code) (hr : meth.sig.returnType = ret) (hlocks : meth.locks = false) {pc : Nat} {H : Heap} {ls : Array Slot} (hdg : decode code pc = .ok (.ireturn, 1)) : W p l e room_1 s m #[Value.ref b] below meth c H [] 600000 7302250 (lw_Z below #[Value.ref b] s) (F0 m pc ls [.int 1]) := by
  intro T hT X
  obtain ⟨fs, hret, hrun, hended, hW, hframe⟩ := X.leave (v := some (.int 1)) (hlocks := hlocks) (fun h => by rw [hr] at h; cases h)
  have hmeth' : T.vm.method? m = some meth := X.method'
  refine ⟨T.setFrames fs, ?_, .returned (some (.int 1)), hrun, hended, rfl, ⟨_, rfl⟩, hW, hframe⟩
  jvm_step X.here [X.here.top, hx, hb, hdg, hmeth', hr, ret, narrow_b1]
  (try refine ⟨rfl, ?_⟩); (try refine ⟨rfl, ?_⟩)
  first | (intro acts; rw [hret _ acts rfl rfl rfl]) | rw [hret _ _ rfl rfl rfl]
  exact Steps.refl _
/-- what holds at the law's entry: the machine, the code, the tables' words (any of lw_tbl by 'hts w (by decide +kernel)'), the script of L ints xs at the cell b, what the Statement gives of the start (any of its parts by flat_of_before) -/
def lw_At (p : Program) (s : State) (m : MethodId) (meth : Method) (c : Code) (b L : Nat) (xs : Nat → Int32) : Prop :=
  p.tables.exec = Jvm.exec ∧ c.code = code ∧ meth.sig.returnType = ret ∧ c.maxLocals = 4 ∧ s.vm.findClass R_law = some m.cls ∧ (∀ w ∈ lw_tbl, w.before #[Value.ref b] s = true) ∧ va_X b L xs s s.heap ∧ b < s.heap.size ∧ meth.locks = false ∧ (Jvm.Cond.and given_1 narrow_1).before #[Value.ref b] s = true
/-- the start's picture: two static rows, the script, two texts with their bytes, a formatter -/
def ls0 : List Int32 := [1, 1, 1, 1, 0, 0, 0]
def ms0 : List Int32 := [52, 104, 7, 999, 999, 9999, 999]
def hp0 (L : Nat) (xs : Nat → Int32) : Hp := ([(10, 7), (10, 7), (10, L), (17, 0), (17, 0), (18, 192), (18, 10), (19, 0)], fun a k => if a = 0 then ls0.getD k 0 else if a = 1 then ms0.getD k 0 else xs k, fun _ _ => 0, fun _ _ => none)
theorem gv_least : Cond.arrayOf (.static "RestPay$Reader" "LEAST" "[I") .int ∈ flatC (Jvm.Cond.and given_1 narrow_1) ∧ Cond.eq (.length (.static "RestPay$Reader" "LEAST" "[I")) (.int 7) ∈ flatC (Jvm.Cond.and given_1 narrow_1) ∧ ∀ j, j < 7 → Cond.eq (.elem (.static "RestPay$Reader" "LEAST" "[I") (.int (Int32.ofNat j))) (.int (ls0.getD j 0)) ∈ flatC (Jvm.Cond.and given_1 narrow_1) := by decide +kernel
theorem gv_most : Cond.arrayOf (.static "RestPay$Reader" "MOST" "[I") .int ∈ flatC (Jvm.Cond.and given_1 narrow_1) ∧ Cond.eq (.length (.static "RestPay$Reader" "MOST" "[I")) (.int 7) ∈ flatC (Jvm.Cond.and given_1 narrow_1) ∧ ∀ j, j < 7 → Cond.eq (.elem (.static "RestPay$Reader" "MOST" "[I") (.int (Int32.ofNat j))) (.int (ms0.getD j 0)) ∈ flatC (Jvm.Cond.and given_1 narrow_1) := by decide +kernel
theorem gv_more : Cond.eq (.static "java/lang/String" "COMPACT_STRINGS" "Z") (.int 1) ∈ flatC (Jvm.Cond.and given_1 narrow_1) ∧ Cond.isRef (.static "jdk/internal/util/Preconditions" "SIOOBE_FORMATTER" "Ljava/util/function/BiFunction;") ∈ flatC (Jvm.Cond.and given_1 narrow_1) := by decide +kernel
def tmS (i : Nat) : Term := if i = 0 then .string "RestPay$Reader" 107 else .string "RestPay$Reader" 96
theorem gv_txt : (∀ i, i < 2 → Cond.exactly (tmS i) "java/lang/String" ∈ flatC (Jvm.Cond.and given_1 narrow_1) ∧ Cond.eq (.field (tmS i) "java/lang/String" "coder" "B") (.int 0) ∈ flatC (Jvm.Cond.and given_1 narrow_1) ∧ Cond.arrayOf (.field (tmS i) "java/lang/String" "value" "[B") .byte ∈ flatC (Jvm.Cond.and given_1 narrow_1) ∧ Cond.eq (.length (.field (tmS i) "java/lang/String" "value" "[B")) (.int (Int32.ofNat (([192, 10] : List Nat).getD i 0))) ∈ flatC (Jvm.Cond.and given_1 narrow_1)) ∧ Cond.not (Cond.eq (tmS 0) (tmS 1)) ∈ flatC (Jvm.Cond.and given_1 narrow_1) := by decide +kernel
theorem gv_b0 : ∀ j, j < 16 → (flatC (Jvm.Cond.and given_1 narrow_1))[33 + (16 * 0 + j)]? = some (Cond.eq (.elem (.field (.string "RestPay$Reader" 107) "java/lang/String" "value" "[B") (.int (Int32.ofNat (16 * 0 + j)))) (.int (by0.getD (16 * 0 + j) 0))) := by decide +kernel
theorem gv_b1 : ∀ j, j < 16 → (flatC (Jvm.Cond.and given_1 narrow_1))[33 + (16 * 1 + j)]? = some (Cond.eq (.elem (.field (.string "RestPay$Reader" 107) "java/lang/String" "value" "[B") (.int (Int32.ofNat (16 * 1 + j)))) (.int (by0.getD (16 * 1 + j) 0))) := by decide +kernel
theorem gv_b2 : ∀ j, j < 16 → (flatC (Jvm.Cond.and given_1 narrow_1))[33 + (16 * 2 + j)]? = some (Cond.eq (.elem (.field (.string "RestPay$Reader" 107) "java/lang/String" "value" "[B") (.int (Int32.ofNat (16 * 2 + j)))) (.int (by0.getD (16 * 2 + j) 0))) := by decide +kernel
theorem gv_b3 : ∀ j, j < 16 → (flatC (Jvm.Cond.and given_1 narrow_1))[33 + (16 * 3 + j)]? = some (Cond.eq (.elem (.field (.string "RestPay$Reader" 107) "java/lang/String" "value" "[B") (.int (Int32.ofNat (16 * 3 + j)))) (.int (by0.getD (16 * 3 + j) 0))) := by decide +kernel
theorem gv_b4 : ∀ j, j < 16 → (flatC (Jvm.Cond.and given_1 narrow_1))[33 + (16 * 4 + j)]? = some (Cond.eq (.elem (.field (.string "RestPay$Reader" 107) "java/lang/String" "value" "[B") (.int (Int32.ofNat (16 * 4 + j)))) (.int (by0.getD (16 * 4 + j) 0))) := by decide +kernel
theorem gv_b5 : ∀ j, j < 16 → (flatC (Jvm.Cond.and given_1 narrow_1))[33 + (16 * 5 + j)]? = some (Cond.eq (.elem (.field (.string "RestPay$Reader" 107) "java/lang/String" "value" "[B") (.int (Int32.ofNat (16 * 5 + j)))) (.int (by0.getD (16 * 5 + j) 0))) := by decide +kernel
theorem gv_b6 : ∀ j, j < 16 → (flatC (Jvm.Cond.and given_1 narrow_1))[33 + (16 * 6 + j)]? = some (Cond.eq (.elem (.field (.string "RestPay$Reader" 107) "java/lang/String" "value" "[B") (.int (Int32.ofNat (16 * 6 + j)))) (.int (by0.getD (16 * 6 + j) 0))) := by decide +kernel
theorem gv_b7 : ∀ j, j < 16 → (flatC (Jvm.Cond.and given_1 narrow_1))[33 + (16 * 7 + j)]? = some (Cond.eq (.elem (.field (.string "RestPay$Reader" 107) "java/lang/String" "value" "[B") (.int (Int32.ofNat (16 * 7 + j)))) (.int (by0.getD (16 * 7 + j) 0))) := by decide +kernel
theorem gv_b8 : ∀ j, j < 16 → (flatC (Jvm.Cond.and given_1 narrow_1))[33 + (16 * 8 + j)]? = some (Cond.eq (.elem (.field (.string "RestPay$Reader" 107) "java/lang/String" "value" "[B") (.int (Int32.ofNat (16 * 8 + j)))) (.int (by0.getD (16 * 8 + j) 0))) := by decide +kernel
theorem gv_b9 : ∀ j, j < 16 → (flatC (Jvm.Cond.and given_1 narrow_1))[33 + (16 * 9 + j)]? = some (Cond.eq (.elem (.field (.string "RestPay$Reader" 107) "java/lang/String" "value" "[B") (.int (Int32.ofNat (16 * 9 + j)))) (.int (by0.getD (16 * 9 + j) 0))) := by decide +kernel
theorem gv_b10 : ∀ j, j < 16 → (flatC (Jvm.Cond.and given_1 narrow_1))[33 + (16 * 10 + j)]? = some (Cond.eq (.elem (.field (.string "RestPay$Reader" 107) "java/lang/String" "value" "[B") (.int (Int32.ofNat (16 * 10 + j)))) (.int (by0.getD (16 * 10 + j) 0))) := by decide +kernel
theorem gv_b11 : ∀ j, j < 16 → (flatC (Jvm.Cond.and given_1 narrow_1))[33 + (16 * 11 + j)]? = some (Cond.eq (.elem (.field (.string "RestPay$Reader" 107) "java/lang/String" "value" "[B") (.int (Int32.ofNat (16 * 11 + j)))) (.int (by0.getD (16 * 11 + j) 0))) := by decide +kernel
theorem gv_b12 : ∀ j, j < 10 → (flatC (Jvm.Cond.and given_1 narrow_1))[229 + j]? = some (Cond.eq (.elem (.field (.string "RestPay$Reader" 96) "java/lang/String" "value" "[B") (.int (Int32.ofNat j))) (.int (by1.getD j 0))) := by decide +kernel
theorem gv_row (j : Nat) (hj : j < 192) : (flatC (Jvm.Cond.and given_1 narrow_1))[33 + j]? = some (Cond.eq (.elem (.field (.string "RestPay$Reader" 107) "java/lang/String" "value" "[B") (.int (Int32.ofNat j))) (.int (by0.getD j 0))) := by
  have hd : 16 * (j / 16) + j % 16 = j := Nat.div_add_mod j 16
  have hm : j % 16 < 16 := Nat.mod_lt _ (by decide)
  have hq : j / 16 < 12 := by omega
  generalize j / 16 = k at hd hq
  generalize j % 16 = i at hd hm
  subst hd
  rcases (show k = 0 ∨ k = 1 ∨ k = 2 ∨ k = 3 ∨ k = 4 ∨ k = 5 ∨ k = 6 ∨ k = 7 ∨ k = 8 ∨ k = 9 ∨ k = 10 ∨ k = 11 by omega) with rfl | rfl | rfl | rfl | rfl | rfl | rfl | rfl | rfl | rfl | rfl | rfl
  · exact gv_b0 i hm
  · exact gv_b1 i hm
  · exact gv_b2 i hm
  · exact gv_b3 i hm
  · exact gv_b4 i hm
  · exact gv_b5 i hm
  · exact gv_b6 i hm
  · exact gv_b7 i hm
  · exact gv_b8 i hm
  · exact gv_b9 i hm
  · exact gv_b10 i hm
  · exact gv_b11 i hm
theorem gv_byt : ∀ i, i < 2 → ∀ j, j < ([192, 10] : List Nat).getD i 0 → Cond.eq (.elem (.field (tmS i) "java/lang/String" "value" "[B") (.int (Int32.ofNat j))) (.int ((([by0, by1] : List (List Int32)).getD i []).getD j 0)) ∈ flatC (Jvm.Cond.and given_1 narrow_1) := by
  intro i hi j hj
  rcases (show i = 0 ∨ i = 1 by omega) with rfl | rfl
  · exact List.mem_of_getElem? (gv_row j hj)
  · exact List.mem_of_getElem? (gv_b12 j hj)
/-- an array class of ints and the like -/
theorem arr_prim {args : Array Value} {s : State} {ty : FieldType} (h : (Cond.arrayClass ty).before args s = true) (hp : ∀ C, ty ≠ .object C) : ∃ cA : ClassId, ArrOfT s cA ty ∧ va_RA s cA ty := by
  obtain ⟨cA, kA, comp, h1, h2, h3⟩ := Cond.arrayClass_spec h
  refine ⟨cA, fun n z => ⟨fun k q => (by cases q), kA, h2, comp, h3⟩, ?_⟩
  cases ty with
  | object C => exact absurd rfl (hp C)
  | _ => exact h1
theorem arr_obj {args : Array Value} {s : State} {C : String} (h : (Cond.arrayOver (.object C)).before args s = true) : ∃ cA : ClassId, ArrOfT s cA (.object C) ∧ va_RA s cA (.object C) := by
  obtain ⟨comp, c, k, h1, h2, h3, h4, h5⟩ := Cond.arrayOver_spec h
  exact ⟨c, fun n z => ⟨fun k q => (by cases q), k, h3, comp, h4⟩, k, comp, h3, h4, h1, h5⟩
set_option maxHeartbeats 4000000 in
/-- the law's start as a picture -/
theorem lw_env {p : Program} {s : State} {m : MethodId} {meth : Method} {c : Code} (l : Launch) {b L : Nat} {xs : Nat → Int32} (C0 : lw_At p s m meth c b L xs) : ∃ E : En, E.1 = l ∧ eb E = s.heap.size ∧ ad E 2 = b ∧ Gd E s s.heap ∧ Sm E (hp0 L xs) s.heap := by
  obtain ⟨hx, hb, hr, hml, hown, hts, hX, hbl, hlocks, hgv⟩ := C0
  have hs := flat_of_before _ hgv
  have hA : ∀ a : Nat, a < s.heap.size → ¬ (fun q : Nat => s.heap.size ≤ q) a := fun a h => Nat.not_le.mpr h
  obtain ⟨c0, i0, hk0⟩ := u_known (C := RX0) (T := TX0) (N := 6) (n := 6) hts clT_ws0 (hts (.instantiable RX0 6) (List.mem_append_right _ (List.mem_of_getElem? (i := 137) (by decide +kernel))))
  obtain ⟨c1, i1, hk1⟩ := u_known (C := RX1) (T := TX1) (N := 12) (n := 12) hts clT_ws1 (hts (.instantiable RX1 12) (List.mem_append_right _ (List.mem_of_getElem? (i := 618) (by decide +kernel))))
  obtain ⟨c2, i2, hk2⟩ := u_known (C := RX2) (T := TX2) (N := 14) (n := 14) hts clT_ws2 (hts (.instantiable RX2 14) (List.mem_append_right _ (List.mem_of_getElem? (i := 28) (by decide +kernel))))
  obtain ⟨c3, i3, hk3⟩ := u_known (C := RX3) (T := TX3) (N := 3) (n := 3) hts clT_ws3 (hts (.instantiable RX3 3) (List.mem_append_right _ (List.mem_of_getElem? (i := 458) (by decide +kernel))))
  obtain ⟨c4, i4, hk4⟩ := u_known (C := RX4) (T := TX4) (N := 17) (n := 17) hts clT_ws4 (hts (.instantiable RX4 17) (List.mem_append_right _ (List.mem_of_getElem? (i := 131) (by decide +kernel))))
  obtain ⟨c5, i5, hk5⟩ := u_known (C := RX6) (T := TX6) (N := 12) (n := 12) hts clT_ws5 (hts (.instantiable RX6 12) (List.mem_append_right _ (List.mem_of_getElem? (i := 88) (by decide +kernel))))
  obtain ⟨c6, i6, hk6⟩ := u_known (C := RX7) (T := TX7) (N := 12) (n := 12) hts clT_ws6 (hts (.instantiable RX7 12) (List.mem_append_right _ (List.mem_of_getElem? (i := 547) (by decide +kernel))))
  obtain ⟨c7, i7, hk7⟩ := u_known (C := RX8) (T := TX8) (N := 13) (n := 13) hts clT_ws7 (hts (.instantiable RX8 13) (List.mem_append_right _ (List.mem_of_getElem? (i := 20) (by decide +kernel))))
  obtain ⟨c8, i8, hk8⟩ := u_known (C := RX9) (T := TX9) (N := 71) (n := 71) hts clT_ws8 (hts (.instantiable RX9 71) (List.mem_append_right _ (List.mem_of_getElem? (i := 995) (by decide +kernel))))
  obtain ⟨aB, haB⟩ := arr_prim (hts (.arrayClass .byte) (List.mem_append_right _ (List.mem_of_getElem? (i := 79) (by decide +kernel)))) (fun C q => by cases q)
  obtain ⟨aI, haI⟩ := arr_prim (hts (.arrayClass .int) (List.mem_append_right _ (List.mem_of_getElem? (i := 80) (by decide +kernel)))) (fun C q => by cases q)
  obtain ⟨aJ, haJ⟩ := arr_prim (hts (.arrayClass .long) (List.mem_append_right _ (List.mem_of_getElem? (i := 269) (by decide +kernel)))) (fun C q => by cases q)
  obtain ⟨aZ, haZ⟩ := arr_prim (hts (.arrayClass .boolean) (List.mem_append_right _ (List.mem_of_getElem? (i := 1221) (by decide +kernel)))) (fun C q => by cases q)
  have ho13 : (Cond.arrayOver (.object RX0)).before #[Value.ref b] s = true := hts _ (List.mem_append_right _ (List.mem_of_getElem? (i := 82) (by decide +kernel)))
  obtain ⟨a13, ha13⟩ := arr_obj ho13
  have ho14 : (Cond.arrayOver (.object RX1)).before #[Value.ref b] s = true := hts _ (List.mem_append_right _ (List.mem_of_getElem? (i := 86) (by decide +kernel)))
  obtain ⟨a14, ha14⟩ := arr_obj ho14
  have ho15 : (Cond.arrayOver (.object RX3)).before #[Value.ref b] s = true := hts _ (List.mem_append_right _ (List.mem_of_getElem? (i := 143) (by decide +kernel)))
  obtain ⟨a15, ha15⟩ := arr_obj ho15
  have ho16 : (Cond.arrayOver (.object RX7)).before #[Value.ref b] s = true := hts _ (List.mem_append_right _ (List.mem_of_getElem? (i := 84) (by decide +kernel)))
  obtain ⟨a16, ha16⟩ := arr_obj ho16
  obtain ⟨t0, ht0, hT0⟩ := va_Tof (f := fun j => .int (ls0.getD j 0)) (A := fun q : Nat => s.heap.size ≤ q) (by decide) (hs _ gv_least.1) (va_eqt (hs _ gv_least.2.1)) (fun j hj => va_eqt (hs _ (gv_least.2.2 j hj))) hA
  obtain ⟨t1, ht1, hT1⟩ := va_Tof (f := fun j => .int (ms0.getD j 0)) (A := fun q : Nat => s.heap.size ≤ q) (by decide) (hs _ gv_most.1) (va_eqt (hs _ gv_most.2.1)) (fun j hj => va_eqt (hs _ (gv_most.2.2 j hj))) hA
  have hZ0 := va_Zref (A := fun q : Nat => s.heap.size ≤ q) (hts (.laysStatic "RestPay$Reader" "LEAST" "[I") (List.mem_append_right _ (List.mem_of_getElem? (i := 532) (by decide +kernel)))) (hts (.initialized "RestPay$Reader") (List.mem_append_right _ (List.mem_of_getElem? (i := 2) (by decide +kernel)))) ht0 hA
  have hZ1 := va_Zref (A := fun q : Nat => s.heap.size ≤ q) (hts (.laysStatic "RestPay$Reader" "MOST" "[I") (List.mem_append_right _ (List.mem_of_getElem? (i := 537) (by decide +kernel)))) (hts (.initialized "RestPay$Reader") (List.mem_append_right _ (List.mem_of_getElem? (i := 2) (by decide +kernel)))) ht1 hA
  have hZc := va_Zof (A := fun q : Nat => s.heap.size ≤ q) (hts (.laysStatic "java/lang/String" "COMPACT_STRINGS" "Z") (List.mem_append_right _ (List.mem_of_getElem? (i := 326) (by decide +kernel)))) (hts (.initialized "java/lang/String") (List.mem_append_right _ (List.mem_of_getElem? (i := 7) (by decide +kernel)))) (va_eqi (hs _ gv_more.1)) hA
  have hZf := va_Zqof (A := fun q : Nat => s.heap.size ≤ q) (hts (.laysStatic "jdk/internal/util/Preconditions" "SIOOBE_FORMATTER" "Ljava/util/function/BiFunction;") (List.mem_append_right _ (List.mem_of_getElem? (i := 342) (by decide +kernel)))) (hts (.initialized "jdk/internal/util/Preconditions") (List.mem_append_right _ (List.mem_of_getElem? (i := 9) (by decide +kernel)))) (hs _ gv_more.2) hA
  obtain ⟨adK, adV, hK, hev⟩ := vk_Sof (N := 2) (tm := tmS) (len := [192, 10]) (byt := [by0, by1]) (A := fun q : Nat => s.heap.size ≤ q) (args := #[Value.ref b]) (s := s) (by decide) (fun i hi => hs _ (gv_txt.1 i hi).1) (fun i hi => hs _ (gv_txt.1 i hi).2.1) (fun i hi => hs _ (gv_txt.1 i hi).2.2.1) (fun i hi => hs _ (gv_txt.1 i hi).2.2.2) (fun i hi j hj => hs _ (gv_byt i hi j hj)) (fun i j hi hj hne => by
    rcases (show (i = 0 ∧ j = 1) ∨ (i = 1 ∧ j = 0) by omega) with ⟨rfl, rfl⟩ | ⟨rfl, rfl⟩
    · exact Or.inl (hs _ gv_txt.2)
    · exact Or.inr (hs _ gv_txt.2)) hA
  have hR0 : vk_R RX2 107 tx0 (adK 0) s := vk_R.of (A := #[Value.ref b]) (hts (.stringRef RX2 107 tx0) (List.mem_append_right _ (List.mem_of_getElem? (i := 316) (by decide +kernel)))) (hev 0 (by decide))
  have hR1 : vk_R RX2 96 tx1 (adK 1) s := vk_R.of (A := #[Value.ref b]) (hts (.stringRef RX2 96 tx1) (List.mem_append_right _ (List.mem_of_getElem? (i := 372) (by decide +kernel)))) (hev 1 (by decide))
  obtain ⟨scr, s1, s2, s3, s4, s5⟩ := hX
  have hwn : ∀ w ∈ wN, va_Nw w s := by
    intro w hw
    have h1 := List.mem_filter.mp hw
    have h2 := hts w h1.1
    cases w <;> first | exact va_Nw.of rfl h2 | (simp [isNest] at h1)
  have hao : ∀ C ∈ [RX0, RX1, RX3, RX7], va_AO C s := by
    intro C hC
    simp only [List.mem_cons, List.not_mem_nil, or_false] at hC
    rcases hC with rfl | rfl | rfl | rfl
    · exact va_AO.of ho13
    · exact va_AO.of ho14
    · exact va_AO.of ho15
    · exact va_AO.of ho16
  have fin : ∀ (t7 : Nat) (zf : Option Nat), va_Z "jdk/internal/util/Preconditions" "SIOOBE_FORMATTER" "Ljava/util/function/BiFunction;" (va_rf (zf.map (fun _ => t7))) (fun q : Nat => s.heap.size ≤ q) s s.heap → (zf = none ∨ zf = some 7) → ∃ E : En, E.1 = l ∧ eb E = s.heap.size ∧ ad E 2 = b ∧ Gd E s s.heap ∧ Sm E (hp0 L xs) s.heap := by
    intro t7 zf hz hzf
    let E : En := (l, s.heap.size, fun i => match i with | 0 => t0 | 1 => t1 | 2 => b | 3 => adK 0 | 4 => adK 1 | 5 => adV 0 | 6 => adV 1 | _ => t7, (fun k => match k with | 0 => c0 | 1 => c1 | 2 => c2 | 3 => c3 | 4 => c4 | 5 => c5 | 6 => c6 | 7 => c7 | _ => c8, fun k => match k with | 0 => i0 | 1 => i1 | 2 => i2 | 3 => i3 | 4 => i4 | 5 => i5 | 6 => i6 | 7 => i7 | _ => i8), fun k => match k with | 9 => aB | 10 => aI | 11 => aJ | 12 => aZ | 13 => a13 | 14 => a14 | 15 => a15 | _ => a16, fun i => match i with | 0 => 7 | 1 => 7 | _ => L, fun i k => match i with | 0 => ls0.getD k 0 | 1 => ms0.getD k 0 | _ => xs k, zf)
    refine ⟨E, rfl, rfl, rfl, ⟨⟨fun c q hq => ?_, fun k q hq => ?_⟩, hwn, ⟨hZ0, hZ1, hR0, hR1, ?_, hZc, ?_⟩, hao, fun i hi => ?_⟩, ?_⟩
    · match c, hq with
      | 0, hq => cases hq; exact hk0
      | 1, hq => cases hq; exact hk1
      | 2, hq => cases hq; exact hk2
      | 3, hq => cases hq; exact hk3
      | 4, hq => cases hq; exact hk4
      | 5, hq => cases hq; exact hk5
      | 6, hq => cases hq; exact hk6
      | 7, hq => cases hq; exact hk7
      | 8, hq => cases hq; exact hk8
      | c + 9, hq => simp [vwCl] at hq
    · match k, hq with
      | 0, hq => cases hq; exact haB
      | 1, hq => cases hq; exact haI
      | 2, hq => cases hq; exact haJ
      | 3, hq => cases hq; exact haZ
      | 4, hq => cases hq; exact ha13
      | 5, hq => cases hq; exact ha14
      | 6, hq => cases hq; exact ha15
      | 7, hq => cases hq; exact ha16
      | k + 8, hq => simp [tys] at hq
    · refine ⟨fun i hi => ?_, fun i j hi hj e => ?_⟩
      · rcases (show i = 0 ∨ i = 1 by omega) with rfl | rfl
        · exact hK.1 0 hi
        · exact hK.1 1 hi
      · rcases (show i = 0 ∨ i = 1 by omega) with rfl | rfl <;> rcases (show j = 0 ∨ j = 1 by omega) with rfl | rfl
        · rfl
        · exact hK.2 0 1 hi hj e
        · exact hK.2 1 0 hi hj e
        · rfl
    · rcases hzf with rfl | rfl
      · exact hz
      · exact hz
    · rcases (show i = 0 ∨ i = 1 ∨ i = 2 by omega) with rfl | rfl | rfl
      · exact hT0
      · exact hT1
      · exact ⟨scr, s1, s2, s3, by rw [s4]; exact Nat.le_refl _, by rw [s4]; rfl, s5, Nat.not_le.mpr hbl⟩
    · refine ⟨Nat.le_refl 8, rfl, fun i hi x hx => ?_, fun a x ha hx => ?_⟩
      · rcases (show i = 0 ∨ i = 1 ∨ i = 2 ∨ i = 3 ∨ i = 4 ∨ i = 5 ∨ i = 6 ∨ i = 7 by omega) with rfl | rfl | rfl | rfl | rfl | rfl | rfl | rfl
        · cases hx; exact Or.inl ⟨rfl, by decide, fun k => rfl⟩
        · cases hx; exact Or.inl ⟨rfl, by decide, fun k => rfl⟩
        · cases hx; exact Or.inl ⟨rfl, by decide, fun k => rfl⟩
        · cases hx; exact Or.inr (by decide)
        · cases hx; exact Or.inr (by decide)
        · cases hx; exact Or.inr (by decide)
        · cases hx; exact Or.inr (by decide)
        · cases hx; exact Or.inr (by decide)
      · have h8 : hk (hp0 L xs) a = none := by
          unfold hk hp0
          exact List.getElem?_eq_none (by simpa using ha)
        rw [h8] at hx
        cases hx
  rcases hZf with hZf | ⟨t, hZf⟩
  · exact fin 0 none hZf (Or.inl rfl)
  · exact fin t (some 7) hZf (Or.inr rfl)
