section MwA
variable {E : En} {M : Mi} {d mc ms pc : Nat} {lo : List (Option Vv)} {st : List Vv} {h : Hp} {Q : Option Vv → Hp → Prop}
/-- a step that leaves the heap and the locals -/
theorem MW.go {pc' : Nat} {st' : List Vv}
    (hs : ∀ (p : Program) (e : Env) (R : Room) (s : State) (m : MethodId) (args : Array Value) (below : List Frame) (meth : Method) (c : Code) (H : Heap) (locs : List Loc) (cells slots : Nat) (Qf : State → Prop) (ls : Array Slot), Cx E M p s m args meth c → Lo E ls M.2.2.1 lo →
      W p E.1 e R s m args below meth c H locs cells slots Qf (F0 m pc' ls (st'.map (rv E))) → W p E.1 e R s m args below meth c H locs cells slots Qf (F0 m pc ls (st.map (rv E))))
    (k : MW E M d mc ms pc' lo st' h Q) : MW E M d mc ms pc lo st h Q := by
  intro p e R s m args below meth c H locs cells slots Qf ls C hR h1 h2 hS hV hL hE
  exact hs p e R s m args below meth c H locs cells slots Qf ls C hL (k p e R s m args below meth c H locs cells slots Qf ls C hR h1 h2 hS hV hL hE)
/-- a step that may go two ways -/
theorem MW.br {P : Prop} {pc1 pc2 : Nat} {st' : List Vv}
    (hs : ∀ (p : Program) (e : Env) (R : Room) (s : State) (m : MethodId) (args : Array Value) (below : List Frame) (meth : Method) (c : Code) (H : Heap) (locs : List Loc) (cells slots : Nat) (Qf : State → Prop) (ls : Array Slot), Cx E M p s m args meth c → Lo E ls M.2.2.1 lo →
      (P → W p E.1 e R s m args below meth c H locs cells slots Qf (F0 m pc1 ls (st'.map (rv E)))) → (¬ P → W p E.1 e R s m args below meth c H locs cells slots Qf (F0 m pc2 ls (st'.map (rv E)))) → W p E.1 e R s m args below meth c H locs cells slots Qf (F0 m pc ls (st.map (rv E))))
    (k1 : P → MW E M d mc ms pc1 lo st' h Q) (k2 : ¬ P → MW E M d mc ms pc2 lo st' h Q) : MW E M d mc ms pc lo st h Q := by
  intro p e R s m args below meth c H locs cells slots Qf ls C hR h1 h2 hS hV hL hE
  exact hs p e R s m args below meth c H locs cells slots Qf ls C hL (fun q => k1 q p e R s m args below meth c H locs cells slots Qf ls C hR h1 h2 hS hV hL hE) (fun q => k2 q p e R s m args below meth c H locs cells slots Qf ls C hR h1 h2 hS hV hL hE)
theorem MW.mono {Q' : Option Vv → Hp → Prop} (k : MW E M d mc ms pc lo st h Q) (hq : ∀ r h', Q r h' → Q' r h') : MW E M d mc ms pc lo st h Q' := by
  intro p e R s m args below meth c H locs cells slots Qf ls C hR h1 h2 hS hV hL hE
  exact k p e R s m args below meth c H locs cells slots Qf ls C hR h1 h2 hS hV hL (fun r h' H' locs' cells' slots' pc' ls' st' q => hE r h' H' locs' cells' slots' pc' ls' st' (hq r h' q))
theorem MW.more {d' mc' ms' : Nat} (hd : d' ≤ d) (hm : mc' ≤ mc) (hs : ms' ≤ ms) (k : MW E M d' mc' ms' pc lo st h Q) : MW E M d mc ms pc lo st h Q := by
  intro p e R s m args below meth c H locs cells slots Qf ls C hR h1 h2 hS hV hL hE
  exact k p e R s m args below meth c H locs cells slots Qf ls C ⟨Nat.le_trans hd hR.1, Nat.le_trans (Nat.mul_le_mul_right 64 hd) hR.2⟩ (by omega) (by omega) hS hV hL (fun r h' H' locs' cells' slots' pc' ls' st' q a b c1 c2 => hE r h' H' locs' cells' slots' pc' ls' st' q a b (by omega) (by omega))
theorem rv_c1i (x : Int32) : (rv E (vi x)).category = 1 := rfl
theorem rv_c1q (x : Option Nat) : (rv E (vq x)).category = 1 := by cases x <;> rfl

theorem mw_iconst {n : Int} {v : Int32} (hdg : decode M.2.1 pc = .ok (.iconst n, 1)) (hv : Int32.ofInt n = v) (k : MW E M d mc ms (pc + 1) lo (vi v :: st) h Q) : MW E M d mc ms pc lo (st) h Q := MW.go (fun p e R s m args below meth c H locs cells slots Qf ls C hL k => lv_iconst C.1 C.2.1 hdg hv k) k
theorem mw_bipush {n : Int} {v : Int32} (hdg : decode M.2.1 pc = .ok (.bipush n, 2)) (hv : (Int8.ofInt n).toInt32 = v) (k : MW E M d mc ms (pc + 2) lo (vi v :: st) h Q) : MW E M d mc ms pc lo (st) h Q := MW.go (fun p e R s m args below meth c H locs cells slots Qf ls C hL k => lv_bipush C.1 C.2.1 hdg hv k) k
theorem mw_sipush {n : Int} {v : Int32} (hdg : decode M.2.1 pc = .ok (.sipush n, 3)) (hv : (Int16.ofInt n).toInt32 = v) (k : MW E M d mc ms (pc + 3) lo (vi v :: st) h Q) : MW E M d mc ms pc lo (st) h Q := MW.go (fun p e R s m args below meth c H locs cells slots Qf ls C hL k => lv_sipush C.1 C.2.1 hdg hv k) k
theorem mw_lconst {n : Fin 2} {v : Int64} (hdg : decode M.2.1 pc = .ok (.lconst n, 1)) (hv : Int64.ofNat (n : Nat) = v) (k : MW E M d mc ms (pc + 1) lo (vl v :: st) h Q) : MW E M d mc ms pc lo (st) h Q := MW.go (fun p e R s m args below meth c H locs cells slots Qf ls C hL k => lv_lconst C.1 C.2.1 hdg hv k) k
theorem mw_null (hdg : decode M.2.1 pc = .ok (.aconst_null, 1)) (k : MW E M d mc ms (pc + 1) lo (vq none :: st) h Q) : MW E M d mc ms pc lo (st) h Q := MW.go (fun p e R s m args below meth c H locs cells slots Qf ls C hL k => lv_null C.1 C.2.1 hdg k) k
theorem mw_iadd {x y : Int32} (hdg : decode M.2.1 pc = .ok (.iadd, 1)) (k : MW E M d mc ms (pc + 1) lo (vi (x + y) :: st) h Q) : MW E M d mc ms pc lo (vi y :: vi x :: st) h Q := MW.go (fun p e R s m args below meth c H locs cells slots Qf ls C hL k => lv_iadd C.1 C.2.1 hdg k) k
theorem mw_isub {x y : Int32} (hdg : decode M.2.1 pc = .ok (.isub, 1)) (k : MW E M d mc ms (pc + 1) lo (vi (x - y) :: st) h Q) : MW E M d mc ms pc lo (vi y :: vi x :: st) h Q := MW.go (fun p e R s m args below meth c H locs cells slots Qf ls C hL k => lv_isub C.1 C.2.1 hdg k) k
theorem mw_imul {x y : Int32} (hdg : decode M.2.1 pc = .ok (.imul, 1)) (k : MW E M d mc ms (pc + 1) lo (vi (x * y) :: st) h Q) : MW E M d mc ms pc lo (vi y :: vi x :: st) h Q := MW.go (fun p e R s m args below meth c H locs cells slots Qf ls C hL k => lv_imul C.1 C.2.1 hdg k) k
theorem mw_iand {x y : Int32} (hdg : decode M.2.1 pc = .ok (.iand, 1)) (k : MW E M d mc ms (pc + 1) lo (vi (x &&& y) :: st) h Q) : MW E M d mc ms pc lo (vi y :: vi x :: st) h Q := MW.go (fun p e R s m args below meth c H locs cells slots Qf ls C hL k => lv_iand C.1 C.2.1 hdg k) k
theorem mw_ior {x y : Int32} (hdg : decode M.2.1 pc = .ok (.ior, 1)) (k : MW E M d mc ms (pc + 1) lo (vi (x ||| y) :: st) h Q) : MW E M d mc ms pc lo (vi y :: vi x :: st) h Q := MW.go (fun p e R s m args below meth c H locs cells slots Qf ls C hL k => lv_ior C.1 C.2.1 hdg k) k
theorem mw_ixor {x y : Int32} (hdg : decode M.2.1 pc = .ok (.ixor, 1)) (k : MW E M d mc ms (pc + 1) lo (vi (x ^^^ y) :: st) h Q) : MW E M d mc ms pc lo (vi y :: vi x :: st) h Q := MW.go (fun p e R s m args below meth c H locs cells slots Qf ls C hL k => lv_ixor C.1 C.2.1 hdg k) k
theorem mw_ishl {x y : Int32} (hdg : decode M.2.1 pc = .ok (.ishl, 1)) (k : MW E M d mc ms (pc + 1) lo (vi (x <<< (y &&& 31)) :: st) h Q) : MW E M d mc ms pc lo (vi y :: vi x :: st) h Q := MW.go (fun p e R s m args below meth c H locs cells slots Qf ls C hL k => lv_ishl C.1 C.2.1 hdg k) k
theorem mw_ishr {x y : Int32} (hdg : decode M.2.1 pc = .ok (.ishr, 1)) (k : MW E M d mc ms (pc + 1) lo (vi (x >>> (y &&& 31)) :: st) h Q) : MW E M d mc ms pc lo (vi y :: vi x :: st) h Q := MW.go (fun p e R s m args below meth c H locs cells slots Qf ls C hL k => lv_ishr C.1 C.2.1 hdg k) k
theorem mw_iushr {x y : Int32} (hdg : decode M.2.1 pc = .ok (.iushr, 1)) (k : MW E M d mc ms (pc + 1) lo (vi (x.toUInt32 >>> (y.toUInt32 &&& Int32.toUInt32 31)).toInt32 :: st) h Q) : MW E M d mc ms pc lo (vi y :: vi x :: st) h Q := MW.go (fun p e R s m args below meth c H locs cells slots Qf ls C hL k => lv_iushr C.1 C.2.1 hdg rfl k) k
theorem mw_idiv {x y : Int32} (hdg : decode M.2.1 pc = .ok (.idiv, 1)) (hne : ¬ y = 0) (k : MW E M d mc ms (pc + 1) lo (vi (x / y) :: st) h Q) : MW E M d mc ms pc lo (vi y :: vi x :: st) h Q := MW.go (fun p e R s m args below meth c H locs cells slots Qf ls C hL k => lv_idiv C.1 C.2.1 hdg hne k) k
theorem mw_ineg {x : Int32} (hdg : decode M.2.1 pc = .ok (.ineg, 1)) (k : MW E M d mc ms (pc + 1) lo (vi (-x) :: st) h Q) : MW E M d mc ms pc lo (vi x :: st) h Q := MW.go (fun p e R s m args below meth c H locs cells slots Qf ls C hL k => lv_ineg C.1 C.2.1 hdg k) k
theorem mw_ladd {x y : Int64} (hdg : decode M.2.1 pc = .ok (.ladd, 1)) (k : MW E M d mc ms (pc + 1) lo (vl (x + y) :: st) h Q) : MW E M d mc ms pc lo (vl y :: vl x :: st) h Q := MW.go (fun p e R s m args below meth c H locs cells slots Qf ls C hL k => lv_ladd C.1 C.2.1 hdg k) k
theorem mw_lsub {x y : Int64} (hdg : decode M.2.1 pc = .ok (.lsub, 1)) (k : MW E M d mc ms (pc + 1) lo (vl (x - y) :: st) h Q) : MW E M d mc ms pc lo (vl y :: vl x :: st) h Q := MW.go (fun p e R s m args below meth c H locs cells slots Qf ls C hL k => lv_lsub C.1 C.2.1 hdg k) k
theorem mw_lmul {x y : Int64} (hdg : decode M.2.1 pc = .ok (.lmul, 1)) (k : MW E M d mc ms (pc + 1) lo (vl (x * y) :: st) h Q) : MW E M d mc ms pc lo (vl y :: vl x :: st) h Q := MW.go (fun p e R s m args below meth c H locs cells slots Qf ls C hL k => lv_lmul C.1 C.2.1 hdg k) k
theorem mw_lor {x y : Int64} (hdg : decode M.2.1 pc = .ok (.lor, 1)) (k : MW E M d mc ms (pc + 1) lo (vl (x ||| y) :: st) h Q) : MW E M d mc ms pc lo (vl y :: vl x :: st) h Q := MW.go (fun p e R s m args below meth c H locs cells slots Qf ls C hL k => lv_lor C.1 C.2.1 hdg k) k
theorem mw_ldiv {x y : Int64} (hdg : decode M.2.1 pc = .ok (.ldiv, 1)) (hne : ¬ y = 0) (k : MW E M d mc ms (pc + 1) lo (vl (x / y) :: st) h Q) : MW E M d mc ms pc lo (vl y :: vl x :: st) h Q := MW.go (fun p e R s m args below meth c H locs cells slots Qf ls C hL k => lv_ldiv C.1 C.2.1 hdg hne k) k
theorem mw_lneg {x : Int64} (hdg : decode M.2.1 pc = .ok (.lneg, 1)) (k : MW E M d mc ms (pc + 1) lo (vl (-x) :: st) h Q) : MW E M d mc ms pc lo (vl x :: st) h Q := MW.go (fun p e R s m args below meth c H locs cells slots Qf ls C hL k => lv_lneg C.1 C.2.1 hdg k) k
theorem mw_lshl {x : Int64} {y : Int32} (hdg : decode M.2.1 pc = .ok (.lshl, 1)) (k : MW E M d mc ms (pc + 1) lo (vl (x <<< (y.toInt64 &&& 63)) :: st) h Q) : MW E M d mc ms pc lo (vi y :: vl x :: st) h Q := MW.go (fun p e R s m args below meth c H locs cells slots Qf ls C hL k => lv_lshl C.1 C.2.1 hdg rfl k) k
theorem mw_i2l {x : Int32} (hdg : decode M.2.1 pc = .ok (.i2l, 1)) (k : MW E M d mc ms (pc + 1) lo (vl x.toInt64 :: st) h Q) : MW E M d mc ms pc lo (vi x :: st) h Q := MW.go (fun p e R s m args below meth c H locs cells slots Qf ls C hL k => lv_i2l C.1 C.2.1 hdg rfl k) k
theorem mw_l2i {x : Int64} (hdg : decode M.2.1 pc = .ok (.l2i, 1)) (k : MW E M d mc ms (pc + 1) lo (vi x.toInt32 :: st) h Q) : MW E M d mc ms pc lo (vl x :: st) h Q := MW.go (fun p e R s m args below meth c H locs cells slots Qf ls C hL k => lv_l2i C.1 C.2.1 hdg rfl k) k
theorem mw_i2b {x : Int32} (hdg : decode M.2.1 pc = .ok (.i2b, 1)) (k : MW E M d mc ms (pc + 1) lo (vi x.toInt8.toInt32 :: st) h Q) : MW E M d mc ms pc lo (vi x :: st) h Q := MW.go (fun p e R s m args below meth c H locs cells slots Qf ls C hL k => lv_i2b C.1 C.2.1 hdg rfl k) k
theorem mw_i2c {x : Int32} (hdg : decode M.2.1 pc = .ok (.i2c, 1)) (k : MW E M d mc ms (pc + 1) lo (vi (x.toUInt32 % 65536).toInt32 :: st) h Q) : MW E M d mc ms pc lo (vi x :: st) h Q := MW.go (fun p e R s m args below meth c H locs cells slots Qf ls C hL k => lv_i2c C.1 C.2.1 hdg rfl k) k
theorem mw_lcmp {x y : Int64} (hdg : decode M.2.1 pc = .ok (.lcmp, 1)) (k : MW E M d mc ms (pc + 1) lo (vi (lg_cmp x y) :: st) h Q) : MW E M d mc ms pc lo (vl y :: vl x :: st) h Q := MW.go (fun p e R s m args below meth c H locs cells slots Qf ls C hL k => W.lcmp C.1 C.2.1 hdg k) k
theorem mw_dupi {x : Int32} (hdg : decode M.2.1 pc = .ok (.dup, 1)) (k : MW E M d mc ms (pc + 1) lo (vi x :: vi x :: st) h Q) : MW E M d mc ms pc lo (vi x :: st) h Q := MW.go (fun p e R s m args below meth c H locs cells slots Qf ls C hL k => lv_dup C.1 C.2.1 hdg rfl k) k
theorem mw_dupq {x : Option Nat} (hdg : decode M.2.1 pc = .ok (.dup, 1)) (k : MW E M d mc ms (pc + 1) lo (vq x :: vq x :: st) h Q) : MW E M d mc ms pc lo (vq x :: st) h Q := MW.go (fun p e R s m args below meth c H locs cells slots Qf ls C hL k => lv_dup C.1 C.2.1 hdg (rv_c1q x) k) k
theorem mw_dup2iq {x : Int32} {y : Option Nat} (hdg : decode M.2.1 pc = .ok (.dup2, 1)) (k : MW E M d mc ms (pc + 1) lo (vi x :: vq y :: vi x :: vq y :: st) h Q) : MW E M d mc ms pc lo (vi x :: vq y :: st) h Q := MW.go (fun p e R s m args below meth c H locs cells slots Qf ls C hL k => lv_dup2_11 C.1 C.2.1 hdg rfl (rv_c1q y) k) k
theorem mw_popi {x : Int32} (hdg : decode M.2.1 pc = .ok (.pop, 1)) (k : MW E M d mc ms (pc + 1) lo (st) h Q) : MW E M d mc ms pc lo (vi x :: st) h Q := MW.go (fun p e R s m args below meth c H locs cells slots Qf ls C hL k => lv_pop C.1 C.2.1 hdg rfl k) k
theorem mw_popq {x : Option Nat} (hdg : decode M.2.1 pc = .ok (.pop, 1)) (k : MW E M d mc ms (pc + 1) lo (st) h Q) : MW E M d mc ms pc lo (vq x :: st) h Q := MW.go (fun p e R s m args below meth c H locs cells slots Qf ls C hL k => lv_pop C.1 C.2.1 hdg (rv_c1q x) k) k
theorem mw_pop2l {x : Int64} (hdg : decode M.2.1 pc = .ok (.pop2, 1)) (k : MW E M d mc ms (pc + 1) lo (st) h Q) : MW E M d mc ms pc lo (vl x :: st) h Q := MW.go (fun p e R s m args below meth c H locs cells slots Qf ls C hL k => lv_pop2_2 C.1 C.2.1 hdg rfl k) k
theorem mw_iload_n {k : Fin 4} {x : Int32} (hdg : decode M.2.1 pc = .ok (.iload_n k, 1)) (hl : lo[(k : Nat)]? = some (some (vi x))) (kk : MW E M d mc ms (pc + 1) lo (vi x :: st) h Q) : MW E M d mc ms pc lo st h Q := MW.go (fun p e R s m args below meth c H locs cells slots Qf ls C hL k => lv_iload_n C.1 C.2.1 hdg rfl (hL.2.2 _ _ hl) k) kk
theorem mw_iload {i : Nat} {x : Int32} (hdg : decode M.2.1 pc = .ok (.iload i, 2)) (hl : lo[i]? = some (some (vi x))) (kk : MW E M d mc ms (pc + 2) lo (vi x :: st) h Q) : MW E M d mc ms pc lo st h Q := MW.go (fun p e R s m args below meth c H locs cells slots Qf ls C hL k => lv_iload C.1 C.2.1 hdg (hL.2.2 _ _ hl) k) kk
theorem mw_lload_n {k : Fin 4} {x : Int64} (hdg : decode M.2.1 pc = .ok (.lload_n k, 1)) (hl : lo[(k : Nat)]? = some (some (vl x))) (kk : MW E M d mc ms (pc + 1) lo (vl x :: st) h Q) : MW E M d mc ms pc lo st h Q := MW.go (fun p e R s m args below meth c H locs cells slots Qf ls C hL k => lv_lload_n C.1 C.2.1 hdg rfl (hL.2.2 _ _ hl) k) kk
theorem mw_lload {i : Nat} {x : Int64} (hdg : decode M.2.1 pc = .ok (.lload i, 2)) (hl : lo[i]? = some (some (vl x))) (kk : MW E M d mc ms (pc + 2) lo (vl x :: st) h Q) : MW E M d mc ms pc lo st h Q := MW.go (fun p e R s m args below meth c H locs cells slots Qf ls C hL k => lv_lload C.1 C.2.1 hdg (hL.2.2 _ _ hl) k) kk
theorem mw_aload_n {k : Fin 4} {x : Option Nat} (hdg : decode M.2.1 pc = .ok (.aload_n k, 1)) (hl : lo[(k : Nat)]? = some (some (vq x))) (kk : MW E M d mc ms (pc + 1) lo (vq x :: st) h Q) : MW E M d mc ms pc lo st h Q := by
  cases x with
  | none => exact MW.go (fun p e R s m args below meth c H locs cells slots Qf ls C hL k => lv_aload_nN C.1 C.2.1 hdg rfl (hL.2.2 _ _ hl) k) kk
  | some x => exact MW.go (fun p e R s m args below meth c H locs cells slots Qf ls C hL k => lv_aload_n C.1 C.2.1 hdg rfl (hL.2.2 _ _ hl) k) kk
theorem mw_aload {i : Nat} {x : Option Nat} (hdg : decode M.2.1 pc = .ok (.aload i, 2)) (hl : lo[i]? = some (some (vq x))) (kk : MW E M d mc ms (pc + 2) lo (vq x :: st) h Q) : MW E M d mc ms pc lo st h Q := by
  cases x with
  | none => exact MW.go (fun p e R s m args below meth c H locs cells slots Qf ls C hL k => lv_aloadN C.1 C.2.1 hdg (hL.2.2 _ _ hl) k) kk
  | some x => exact MW.go (fun p e R s m args below meth c H locs cells slots Qf ls C hL k => lv_aload C.1 C.2.1 hdg (hL.2.2 _ _ hl) k) kk
theorem mw_if_eq {x : Int32} {off : Int} {tgt : Nat} (hdg : decode M.2.1 pc = .ok (.ifCond .eq off, 3)) (ht : (pc : Int) + off = (tgt : Int)) (kt : x = 0 → MW E M d mc ms tgt lo st h Q) (kf : ¬ x = 0 → MW E M d mc ms (pc + 3) lo st h Q) : MW E M d mc ms pc lo (vi x :: st) h Q := MW.br (P := x = 0) (fun p e R s m args below meth c H locs cells slots Qf ls C hL k1 k2 => lv_if_eq C.1 C.2.1 hdg ht k1 k2) kt kf
theorem mw_icmp_eq {x y : Int32} {off : Int} {tgt : Nat} (hdg : decode M.2.1 pc = .ok (.if_icmp .eq off, 3)) (ht : (pc : Int) + off = (tgt : Int)) (kt : x = y → MW E M d mc ms tgt lo st h Q) (kf : ¬ x = y → MW E M d mc ms (pc + 3) lo st h Q) : MW E M d mc ms pc lo (vi y :: vi x :: st) h Q := MW.br (P := x = y) (fun p e R s m args below meth c H locs cells slots Qf ls C hL k1 k2 => lv_icmp_eq C.1 C.2.1 hdg ht k1 k2) kt kf
theorem mw_if_ne {x : Int32} {off : Int} {tgt : Nat} (hdg : decode M.2.1 pc = .ok (.ifCond .ne off, 3)) (ht : (pc : Int) + off = (tgt : Int)) (kt : ¬ x = 0 → MW E M d mc ms tgt lo st h Q) (kf : x = 0 → MW E M d mc ms (pc + 3) lo st h Q) : MW E M d mc ms pc lo (vi x :: st) h Q := MW.br (P := x = 0) (fun p e R s m args below meth c H locs cells slots Qf ls C hL k1 k2 => lv_if_ne C.1 C.2.1 hdg ht k2 k1) kf kt
theorem mw_icmp_ne {x y : Int32} {off : Int} {tgt : Nat} (hdg : decode M.2.1 pc = .ok (.if_icmp .ne off, 3)) (ht : (pc : Int) + off = (tgt : Int)) (kt : ¬ x = y → MW E M d mc ms tgt lo st h Q) (kf : x = y → MW E M d mc ms (pc + 3) lo st h Q) : MW E M d mc ms pc lo (vi y :: vi x :: st) h Q := MW.br (P := x = y) (fun p e R s m args below meth c H locs cells slots Qf ls C hL k1 k2 => lv_icmp_ne C.1 C.2.1 hdg ht k2 k1) kf kt
theorem mw_if_lt {x : Int32} {off : Int} {tgt : Nat} (hdg : decode M.2.1 pc = .ok (.ifCond .lt off, 3)) (ht : (pc : Int) + off = (tgt : Int)) (kt : x < 0 → MW E M d mc ms tgt lo st h Q) (kf : ¬ x < 0 → MW E M d mc ms (pc + 3) lo st h Q) : MW E M d mc ms pc lo (vi x :: st) h Q := MW.br (P := x < 0) (fun p e R s m args below meth c H locs cells slots Qf ls C hL k1 k2 => lv_if_lt C.1 C.2.1 hdg ht k1 k2) kt kf
theorem mw_icmp_lt {x y : Int32} {off : Int} {tgt : Nat} (hdg : decode M.2.1 pc = .ok (.if_icmp .lt off, 3)) (ht : (pc : Int) + off = (tgt : Int)) (kt : x < y → MW E M d mc ms tgt lo st h Q) (kf : ¬ x < y → MW E M d mc ms (pc + 3) lo st h Q) : MW E M d mc ms pc lo (vi y :: vi x :: st) h Q := MW.br (P := x < y) (fun p e R s m args below meth c H locs cells slots Qf ls C hL k1 k2 => lv_icmp_lt C.1 C.2.1 hdg ht k1 k2) kt kf
theorem mw_if_ge {x : Int32} {off : Int} {tgt : Nat} (hdg : decode M.2.1 pc = .ok (.ifCond .ge off, 3)) (ht : (pc : Int) + off = (tgt : Int)) (kt : 0 ≤ x → MW E M d mc ms tgt lo st h Q) (kf : ¬ 0 ≤ x → MW E M d mc ms (pc + 3) lo st h Q) : MW E M d mc ms pc lo (vi x :: st) h Q := MW.br (P := 0 ≤ x) (fun p e R s m args below meth c H locs cells slots Qf ls C hL k1 k2 => lv_if_ge C.1 C.2.1 hdg ht k1 k2) kt kf
theorem mw_icmp_ge {x y : Int32} {off : Int} {tgt : Nat} (hdg : decode M.2.1 pc = .ok (.if_icmp .ge off, 3)) (ht : (pc : Int) + off = (tgt : Int)) (kt : y ≤ x → MW E M d mc ms tgt lo st h Q) (kf : ¬ y ≤ x → MW E M d mc ms (pc + 3) lo st h Q) : MW E M d mc ms pc lo (vi y :: vi x :: st) h Q := MW.br (P := y ≤ x) (fun p e R s m args below meth c H locs cells slots Qf ls C hL k1 k2 => lv_icmp_ge C.1 C.2.1 hdg ht k1 k2) kt kf
theorem mw_if_gt {x : Int32} {off : Int} {tgt : Nat} (hdg : decode M.2.1 pc = .ok (.ifCond .gt off, 3)) (ht : (pc : Int) + off = (tgt : Int)) (kt : 0 < x → MW E M d mc ms tgt lo st h Q) (kf : ¬ 0 < x → MW E M d mc ms (pc + 3) lo st h Q) : MW E M d mc ms pc lo (vi x :: st) h Q := MW.br (P := 0 < x) (fun p e R s m args below meth c H locs cells slots Qf ls C hL k1 k2 => lv_if_gt C.1 C.2.1 hdg ht k1 k2) kt kf
theorem mw_icmp_gt {x y : Int32} {off : Int} {tgt : Nat} (hdg : decode M.2.1 pc = .ok (.if_icmp .gt off, 3)) (ht : (pc : Int) + off = (tgt : Int)) (kt : y < x → MW E M d mc ms tgt lo st h Q) (kf : ¬ y < x → MW E M d mc ms (pc + 3) lo st h Q) : MW E M d mc ms pc lo (vi y :: vi x :: st) h Q := MW.br (P := y < x) (fun p e R s m args below meth c H locs cells slots Qf ls C hL k1 k2 => lv_icmp_gt C.1 C.2.1 hdg ht k1 k2) kt kf
theorem mw_if_le {x : Int32} {off : Int} {tgt : Nat} (hdg : decode M.2.1 pc = .ok (.ifCond .le off, 3)) (ht : (pc : Int) + off = (tgt : Int)) (kt : x ≤ 0 → MW E M d mc ms tgt lo st h Q) (kf : ¬ x ≤ 0 → MW E M d mc ms (pc + 3) lo st h Q) : MW E M d mc ms pc lo (vi x :: st) h Q := MW.br (P := x ≤ 0) (fun p e R s m args below meth c H locs cells slots Qf ls C hL k1 k2 => lv_if_le C.1 C.2.1 hdg ht k1 k2) kt kf
theorem mw_icmp_le {x y : Int32} {off : Int} {tgt : Nat} (hdg : decode M.2.1 pc = .ok (.if_icmp .le off, 3)) (ht : (pc : Int) + off = (tgt : Int)) (kt : x ≤ y → MW E M d mc ms tgt lo st h Q) (kf : ¬ x ≤ y → MW E M d mc ms (pc + 3) lo st h Q) : MW E M d mc ms pc lo (vi y :: vi x :: st) h Q := MW.br (P := x ≤ y) (fun p e R s m args below meth c H locs cells slots Qf ls C hL k1 k2 => lv_icmp_le C.1 C.2.1 hdg ht k1 k2) kt kf
theorem mw_goto {off : Int} {tgt : Nat} (hdg : decode M.2.1 pc = .ok (.goto off, 3)) (ht : (pc : Int) + off = (tgt : Int)) (k : MW E M d mc ms tgt lo st h Q) : MW E M d mc ms pc lo st h Q := MW.go (fun p e R s m args below meth c H locs cells slots Qf ls C hL k => lv_goto C.1 C.2.1 hdg ht k) k
theorem mw_ifnull {x : Option Nat} {off : Int} {tgt : Nat} (hdg : decode M.2.1 pc = .ok (.ifnull off, 3)) (ht : (pc : Int) + off = (tgt : Int)) (kt : x = none → MW E M d mc ms tgt lo st h Q) (kf : ¬ x = none → MW E M d mc ms (pc + 3) lo st h Q) : MW E M d mc ms pc lo (vq x :: st) h Q := by
  cases x with
  | none => exact MW.go (fun p e R s m args below meth c H locs cells slots Qf ls C hL k => lv_ifnullN C.1 C.2.1 hdg ht k) (kt rfl)
  | some x => exact MW.go (fun p e R s m args below meth c H locs cells slots Qf ls C hL k => lv_ifnull C.1 C.2.1 hdg k) (kf (fun q => by cases q))
theorem mw_ifnonnull {x : Option Nat} {off : Int} {tgt : Nat} (hdg : decode M.2.1 pc = .ok (.ifnonnull off, 3)) (ht : (pc : Int) + off = (tgt : Int)) (kt : ¬ x = none → MW E M d mc ms tgt lo st h Q) (kf : x = none → MW E M d mc ms (pc + 3) lo st h Q) : MW E M d mc ms pc lo (vq x :: st) h Q := by
  cases x with
  | none => exact MW.go (fun p e R s m args below meth c H locs cells slots Qf ls C hL k => lv_ifnonnullN C.1 C.2.1 hdg k) (kf rfl)
  | some x => exact MW.go (fun p e R s m args below meth c H locs cells slots Qf ls C hL k => lv_ifnonnull C.1 C.2.1 hdg ht k) (kt (fun q => by cases q))
theorem mw_tableOut {dflt a b : Int} {offs : Array Int} {len : Nat} {x : Int32} {tgt : Nat} (hdg : decode M.2.1 pc = .ok (.tableswitch dflt a b offs, len)) (hx : x.toInt < a ∨ b < x.toInt) (ht : (pc : Int) + dflt = (tgt : Int)) (k : MW E M d mc ms tgt lo st h Q) : MW E M d mc ms pc lo (vi x :: st) h Q := MW.go (fun p e R s m args below meth c H locs cells slots Qf ls C hL k => lv_tableOut C.1 C.2.1 hdg hx ht k) k
theorem mw_tableIn {dflt a b : Int} {offs : Array Int} {len : Nat} {x : Int32} {off : Int} {tgt : Nat} (hdg : decode M.2.1 pc = .ok (.tableswitch dflt a b offs, len)) (h1 : ¬ x.toInt < a) (h2 : ¬ b < x.toInt) (ho : offs[(x.toInt - a).toNat]? = some off) (ht : (pc : Int) + off = (tgt : Int)) (k : MW E M d mc ms tgt lo st h Q) : MW E M d mc ms pc lo (vi x :: st) h Q := MW.go (fun p e R s m args below meth c H locs cells slots Qf ls C hL k => lv_tableIn C.1 C.2.1 hdg h1 h2 ho ht k) k
theorem mw_lookup {dflt : Int} {ps : Array (Int × Int)} {len : Nat} {x : Int32} {off : Int} {tgt : Nat} (hdg : decode M.2.1 pc = .ok (.lookupswitch dflt ps, len)) (hp : (ps.toList.zip (ps.toList.drop 1)).all (fun (a, next) => a.1 < next.1) = true) (ho : Op.lookupswitch.offset ps.toList dflt x.toInt = off) (ht : (pc : Int) + off = (tgt : Int)) (k : MW E M d mc ms tgt lo st h Q) : MW E M d mc ms pc lo (vi x :: st) h Q := MW.go (fun p e R s m args below meth c H locs cells slots Qf ls C hL k => lv_lookup C.1 C.2.1 hdg hp ho ht k) k
theorem mw_ldc {index : Nat} {v : Int32} (hdg : decode M.2.1 pc = .ok (.ldc index, 2)) (hw : Cond.constant M.1.cls index v ∈ wG) (k : MW E M d mc ms (pc + 2) lo (vi v :: st) h Q) : MW E M d mc ms pc lo st h Q := MW.go (fun p e R s m args below meth c H locs cells slots Qf ls C hL k => lv_ldc C.1 C.2.1 C.2.2.2.2.1 (C.2.2.2.2.2.1 _ hw) hdg k) k
theorem mw_ldcw {index : Nat} {v : Int32} (hdg : decode M.2.1 pc = .ok (.ldc_w index, 3)) (hw : Cond.constant M.1.cls index v ∈ wG) (k : MW E M d mc ms (pc + 3) lo (vi v :: st) h Q) : MW E M d mc ms pc lo st h Q := MW.go (fun p e R s m args below meth c H locs cells slots Qf ls C hL k => lv_ldcw C.1 C.2.1 C.2.2.2.2.1 (C.2.2.2.2.2.1 _ hw) hdg k) k
theorem mw_ldc2 {index : Nat} {v : Int64} (hdg : decode M.2.1 pc = .ok (.ldc2_w index, 3)) (hw : Cond.constantLong M.1.cls index v ∈ wG) (k : MW E M d mc ms (pc + 3) lo (vl v :: st) h Q) : MW E M d mc ms pc lo st h Q := MW.go (fun p e R s m args below meth c H locs cells slots Qf ls C hL k => lv_ldc2 C.1 C.2.1 C.2.2.2.2.1 (C.2.2.2.2.2.1 _ hw) hdg k) k
theorem mw_ireturn {v : Int32} {ty : FieldType} (hdg : decode M.2.1 pc = .ok (.ireturn, 1)) (hr : M.2.2.2 = some ty) (hn : narrow ty (.int v) = .int v) (hq : Q (some (vi v)) h) : MW E M d mc ms pc lo [vi v] h Q := by
  intro p e R s m args below meth c H locs cells slots Qf ls C hR h1 h2 hS hV hL hE
  exact hE _ _ _ _ _ _ _ _ _ hq hS hV (Nat.le_add_right _ _) (Nat.le_add_right _ _) (Or.inl ⟨v, rfl, hdg, rfl, ty, hr, hn⟩)
theorem mw_lreturn {v : Int64} (hdg : decode M.2.1 pc = .ok (.lreturn, 1)) (hr : M.2.2.2 = some .long) (hq : Q (some (vl v)) h) : MW E M d mc ms pc lo [vl v] h Q := by
  intro p e R s m args below meth c H locs cells slots Qf ls C hR h1 h2 hS hV hL hE
  exact hE _ _ _ _ _ _ _ _ _ hq hS hV (Nat.le_add_right _ _) (Nat.le_add_right _ _) (Or.inr (Or.inl ⟨v, rfl, hdg, rfl, hr⟩))
theorem mw_areturn {x : Option Nat} {rt : FieldType} (hdg : decode M.2.1 pc = .ok (.areturn, 1)) (hr : M.2.2.2 = some rt) (hrt : (∃ n, rt = .object n) ∨ ∃ t, rt = .array t) (hq : Q (some (vq x)) h) : MW E M d mc ms pc lo [vq x] h Q := by
  intro p e R s m args below meth c H locs cells slots Qf ls C hR h1 h2 hS hV hL hE
  exact hE _ _ _ _ _ _ _ _ _ hq hS hV (Nat.le_add_right _ _) (Nat.le_add_right _ _) (Or.inr (Or.inr (Or.inl ⟨x, rfl, hdg, rfl, rt, hr, hrt⟩)))
theorem mw_return (hdg : decode M.2.1 pc = .ok (.return_, 1)) (hr : M.2.2.2 = none) (hq : Q none h) : MW E M d mc ms pc lo [] h Q := by
  intro p e R s m args below meth c H locs cells slots Qf ls C hR h1 h2 hS hV hL hE
  exact hE _ _ _ _ _ _ _ _ _ hq hS hV (Nat.le_add_right _ _) (Nat.le_add_right _ _) (Or.inr (Or.inr (Or.inr ⟨rfl, hdg, rfl, hr⟩)))
/-- the locals as the kit lists them -/
def lvl (E : En) (lo : List (Option Vv)) : List (Nat × Value) := (lo.zipIdx).filterMap (fun q => q.1.map (fun v => (q.2, rv E v)))
theorem lvl_mem {q : Nat × Value} (hq : q ∈ lvl E lo) : ∃ v, lo[q.1]? = some (some v) ∧ q.2 = rv E v := by
  obtain ⟨a, ha, hb⟩ := List.mem_filterMap.mp hq
  obtain ⟨w, i⟩ := a
  have h1 := List.mem_zipIdx_iff_getElem?.mp ha
  cases w with
  | none => simp at hb
  | some w =>
    simp at hb
    subst hb
    exact ⟨w, h1, rfl⟩
theorem lvl_of {i : Nat} {v : Vv} (hv : lo[i]? = some (some v)) : (i, rv E v) ∈ lvl E lo := List.mem_filterMap.mpr ⟨(some v, i), List.mem_zipIdx_iff_getElem?.mpr hv, rfl⟩
theorem Lo.has {ls : Array Slot} {nL : Nat} (hL : Lo E ls nL lo) : lv_has ls nL (lvl E lo) := ⟨hL.1, hL.2.1, fun q hq => by
  obtain ⟨v, h1, h2⟩ := lvl_mem hq
  rw [h2]
  exact hL.2.2 _ _ h1⟩
/-- no long begins just ahead -/
def pv (lo : List (Option Vv)) (i : Nat) : Bool := match i with
  | 0 => true
  | j + 1 => match lo[j]? with
    | some (some (.inr (.inl _))) => false
    | _ => true
theorem pv_cat {i : Nat} (hp : pv lo i = true) {j : Nat} {w : Vv} (hj : j + 1 = i) (hw : lo[j]? = some (some w)) : (rv E w).category = 1 := by
  subst hj
  rcases w with x | x | x
  · rfl
  · simp [pv, hw] at hp
  · exact rv_c1q x
theorem Lo.set1 {ls' : Array Slot} {nL i : Nat} {v : Vv} {w : Value} (hw : rv E v = w) (hp : pv lo i = true) (h : lv_has ls' nL ((i, w) :: (lvl E lo).filter (fun q => !(q.1 == i) && !(q.1 + 1 == i && q.2.category == 2)))) : Lo E ls' nL (lo.set i (some v)) := by
  refine ⟨h.1, h.2.1, fun j u hu => ?_⟩
  by_cases hj : j = i
  · subst hj
    have hu2 : u = v := by
      rw [List.getElem?_set] at hu
      split at hu
      · split at hu
        · exact (Option.some.inj (Option.some.inj hu)).symm
        · cases hu
      · rename_i hne; exact absurd rfl hne
    subst hu2
    rw [hw]
    exact h.2.2 (j, w) List.mem_cons_self
  · rw [List.getElem?_set_ne (Ne.symm hj)] at hu
    refine h.2.2 (j, rv E u) (List.mem_cons_of_mem _ (List.mem_filter.mpr ⟨lvl_of hu, ?_⟩))
    have e1 : (j == i) = false := by simpa using hj
    by_cases hj1 : j + 1 = i
    · have := pv_cat (E := E) hp hj1 hu
      simp [e1, this]
    · have e2 : (j + 1 == i) = false := by simpa using hj1
      simp [e1, e2]
theorem Lo.set2 {ls' : Array Slot} {nL i : Nat} {x : Int64} (hp : pv lo i = true) (h : lv_has ls' nL ((i, Value.long x) :: (lvl E lo).filter (fun q => !(q.1 == i) && (!(q.1 == i + 1) && !(q.1 + 1 == i && q.2.category == 2))))) : Lo E ls' nL ((lo.set i (some (vl x))).set (i + 1) none) := by
  refine ⟨h.1, h.2.1, fun j u hu => ?_⟩
  by_cases hj2 : j = i + 1
  · subst hj2
    rw [List.getElem?_set] at hu
    split at hu
    · split at hu
      · cases hu
      · cases hu
    · rename_i hne; exact absurd rfl hne
  rw [List.getElem?_set_ne (Ne.symm hj2)] at hu
  by_cases hj : j = i
  · subst hj
    have hu2 : u = vl x := by
      rw [List.getElem?_set] at hu
      split at hu
      · split at hu
        · exact (Option.some.inj (Option.some.inj hu)).symm
        · cases hu
      · rename_i hne; exact absurd rfl hne
    subst hu2
    exact h.2.2 (j, Value.long x) List.mem_cons_self
  · rw [List.getElem?_set_ne (Ne.symm hj)] at hu
    refine h.2.2 (j, rv E u) (List.mem_cons_of_mem _ (List.mem_filter.mpr ⟨lvl_of hu, ?_⟩))
    have e1 : (j == i) = false := by simpa using hj
    have e3 : (j == i + 1) = false := by simpa using hj2
    by_cases hj1 : j + 1 = i
    · have := pv_cat (E := E) hp hj1 hu
      simp [e1, e3, this]
    · have e2 : (j + 1 == i) = false := by simpa using hj1
      simp [e1, e2, e3]
/-- a step that changes the locals -/
theorem MW.gl {pc' : Nat} {st' : List Vv} {lo' : List (Option Vv)}
    (hs : ∀ (p : Program) (e : Env) (R : Room) (s : State) (m : MethodId) (args : Array Value) (below : List Frame) (meth : Method) (c : Code) (H : Heap) (locs : List Loc) (cells slots : Nat) (Qf : State → Prop) (ls : Array Slot), Cx E M p s m args meth c → Lo E ls M.2.2.1 lo →
      (∀ ls', Lo E ls' M.2.2.1 lo' → W p E.1 e R s m args below meth c H locs cells slots Qf (F0 m pc' ls' (st'.map (rv E)))) → W p E.1 e R s m args below meth c H locs cells slots Qf (F0 m pc ls (st.map (rv E))))
    (k : MW E M d mc ms pc' lo' st' h Q) : MW E M d mc ms pc lo st h Q := by
  intro p e R s m args below meth c H locs cells slots Qf ls C hR h1 h2 hS hV hL hE
  exact hs p e R s m args below meth c H locs cells slots Qf ls C hL (fun ls' hL' => k p e R s m args below meth c H locs cells slots Qf ls' C hR h1 h2 hS hV hL' hE)
/-- a local that is not needed any more -/
theorem mw_drop (i : Nat) (k : MW E M d mc ms pc (lo.set i none) st h Q) : MW E M d mc ms pc lo st h Q := by
  intro p e R s m args below meth c H locs cells slots Qf ls C hR h1 h2 hS hV hL hE
  refine k p e R s m args below meth c H locs cells slots Qf ls C hR h1 h2 hS hV ⟨hL.1, hL.2.1, fun j v hj => ?_⟩ hE
  by_cases hji : i = j
  · subst hji
    rw [List.getElem?_set] at hj
    split at hj
    · split at hj <;> cases hj
    · rename_i hne; exact absurd rfl hne
  · rw [List.getElem?_set_ne hji] at hj
    exact hL.2.2 j v hj
theorem mw_istore_n {k : Fin 4} {x : Int32} (hdg : decode M.2.1 pc = .ok (.istore_n k, 1)) (hn : (k : Nat) < M.2.2.1) (hp : pv lo (k : Nat) = true) (kk : MW E M d mc ms (pc + 1) (lo.set (k : Nat) (some (vi x))) st h Q) : MW E M d mc ms pc lo (vi x :: st) h Q := MW.gl (fun p e R s m args below meth c H locs cells slots Qf ls C hL k => lv_istore_n C.1 C.2.1 hdg rfl hL.has hn rfl (fun ls' h' => k ls' (Lo.set1 (v := vi x) rfl hp h'))) kk
theorem mw_lstore_n {k : Fin 4} {x : Int64} (hdg : decode M.2.1 pc = .ok (.lstore_n k, 1)) (hn : (k : Nat) + 1 < M.2.2.1) (hp : pv lo (k : Nat) = true) (kk : MW E M d mc ms (pc + 1) ((lo.set (k : Nat) (some (vl x))).set ((k : Nat) + 1) none) st h Q) : MW E M d mc ms pc lo (vl x :: st) h Q := MW.gl (fun p e R s m args below meth c H locs cells slots Qf ls C hL k => lv_lstore_n C.1 C.2.1 hdg rfl hL.has hn rfl (fun ls' h' => k ls' (Lo.set2 hp h'))) kk
theorem mw_astore_n {k : Fin 4} {x : Option Nat} (hdg : decode M.2.1 pc = .ok (.astore_n k, 1)) (hn : (k : Nat) < M.2.2.1) (hp : pv lo (k : Nat) = true) (kk : MW E M d mc ms (pc + 1) (lo.set (k : Nat) (some (vq x))) st h Q) : MW E M d mc ms pc lo (vq x :: st) h Q := by
  cases x with
  | none => exact MW.gl (fun p e R s m args below meth c H locs cells slots Qf ls C hL k => lv_astore_nN C.1 C.2.1 hdg rfl hL.has hn rfl (fun ls' h' => k ls' (Lo.set1 (v := vq none) rfl hp h'))) kk
  | some x => exact MW.gl (fun p e R s m args below meth c H locs cells slots Qf ls C hL k => lv_astore_n C.1 C.2.1 hdg rfl hL.has hn rfl (fun ls' h' => k ls' (Lo.set1 (v := vq (some x)) rfl hp h'))) kk
theorem mw_istore {i : Nat} {x : Int32} (hdg : decode M.2.1 pc = .ok (.istore i, 2)) (hn : i < M.2.2.1) (hp : pv lo i = true) (kk : MW E M d mc ms (pc + 2) (lo.set i (some (vi x))) st h Q) : MW E M d mc ms pc lo (vi x :: st) h Q := MW.gl (fun p e R s m args below meth c H locs cells slots Qf ls C hL k => lv_istore C.1 C.2.1 hdg hL.has hn rfl (fun ls' h' => k ls' (Lo.set1 (v := vi x) rfl hp h'))) kk
theorem mw_lstore {i : Nat} {x : Int64} (hdg : decode M.2.1 pc = .ok (.lstore i, 2)) (hn : i + 1 < M.2.2.1) (hp : pv lo i = true) (kk : MW E M d mc ms (pc + 2) ((lo.set i (some (vl x))).set (i + 1) none) st h Q) : MW E M d mc ms pc lo (vl x :: st) h Q := MW.gl (fun p e R s m args below meth c H locs cells slots Qf ls C hL k => lv_lstore C.1 C.2.1 hdg hL.has hn rfl (fun ls' h' => k ls' (Lo.set2 hp h'))) kk
theorem mw_astore {i : Nat} {x : Option Nat} (hdg : decode M.2.1 pc = .ok (.astore i, 2)) (hn : i < M.2.2.1) (hp : pv lo i = true) (kk : MW E M d mc ms (pc + 2) (lo.set i (some (vq x))) st h Q) : MW E M d mc ms pc lo (vq x :: st) h Q := by
  cases x with
  | none => exact MW.gl (fun p e R s m args below meth c H locs cells slots Qf ls C hL k => lv_astoreN C.1 C.2.1 hdg hL.has hn rfl (fun ls' h' => k ls' (Lo.set1 (v := vq none) rfl hp h'))) kk
  | some x => exact MW.gl (fun p e R s m args below meth c H locs cells slots Qf ls C hL k => lv_astore C.1 C.2.1 hdg hL.has hn rfl (fun ls' h' => k ls' (Lo.set1 (v := vq (some x)) rfl hp h'))) kk
theorem mw_iinc {i : Nat} {n : Int} {x v : Int32} (hdg : decode M.2.1 pc = .ok (.iinc i n, 3)) (hl : lo[i]? = some (some (vi x))) (hv : x + Int32.ofInt n = v) (hn : i < M.2.2.1) (hp : pv lo i = true) (kk : MW E M d mc ms (pc + 3) (lo.set i (some (vi v))) st h Q) : MW E M d mc ms pc lo st h Q := by
  obtain ⟨j, hj⟩ := List.getElem?_of_mem (lvl_of (E := E) hl)
  exact MW.gl (fun p e R s m args below meth c H locs cells slots Qf ls C hL k => lv_iinc C.1 C.2.1 hdg hL.has hj hv hn rfl (fun ls' h' => k ls' (Lo.set1 (v := vi v) rfl hp h'))) kk
end MwA
