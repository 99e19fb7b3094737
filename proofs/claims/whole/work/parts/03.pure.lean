/-! A small machine over pictures: values by their sort, a heap as functions; every rule below is one of the kit's rows, said of pictures. -/
/-- a value: an int, a long, or a reference (none: null) by the picture's own address -/
abbrev Vv : Type := Int32 ⊕ (Int64 ⊕ Option Nat)
abbrev vi (x : Int32) : Vv := .inl x
abbrev vl (x : Int64) : Vv := .inr (.inl x)
abbrev vq (x : Option Nat) : Vv := .inr (.inr x)
/-- the picture's heap: kinds and lengths by address; ints, longs, references by address and place -/
abbrev Hp : Type := List (Nat × Nat) × (Nat → Nat → Int32) × (Nat → Nat → Int64) × (Nat → Nat → Option Nat)
def hk (h : Hp) (a : Nat) : Option (Nat × Nat) := h.1[a]?
def hi (h : Hp) (a k : Nat) : Int32 := h.2.1 a k
def hj (h : Hp) (a k : Nat) : Int64 := h.2.2.1 a k
def hq (h : Hp) (a k : Nat) : Option Nat := h.2.2.2 a k
def up2 {α : Type} (f : Nat → Nat → α) (a k : Nat) (v : α) : Nat → Nat → α := fun b j => if b = a ∧ j = k then v else f b j
def upr {α : Type} (f : Nat → Nat → α) (a : Nat) (g : Nat → α) : Nat → Nat → α := fun b j => if b = a then g j else f b j
def si (h : Hp) (a k : Nat) (v : Int32) : Hp := (h.1, up2 h.2.1 a k v, h.2.2)
def sj (h : Hp) (a k : Nat) (v : Int64) : Hp := (h.1, h.2.1, up2 h.2.2.1 a k v, h.2.2.2)
def sq (h : Hp) (a k : Nat) (v : Option Nat) : Hp := (h.1, h.2.1, h.2.2.1, up2 h.2.2.2 a k v)
/-- a whole row of ints anew -/
def sr (h : Hp) (a : Nat) (g : Nat → Int32) : Hp := (h.1, upr h.2.1 a g, h.2.2)
/-- a new cell, all 0 and null, behind the others -/
def nw (h : Hp) (kd n : Nat) : Hp := (h.1 ++ [(kd, n)], upr h.2.1 h.1.length (fun _ => 0), upr h.2.2.1 h.1.length (fun _ => 0), upr h.2.2.2 h.1.length (fun _ => none))
/-- the first cell's real address, the old cells' addresses, the tables' numbers, the array classes, the old rows' lengths and ints -/
abbrev En : Type := Launch × Nat × (Nat → Nat) × va_G × (Nat → ClassId) × (Nat → Nat) × (Nat → Nat → Int32) × Option Nat
def eb (E : En) : Nat := E.2.1
def eo (E : En) : Nat → Nat := E.2.2.1
def eD (E : En) : va_G := E.2.2.2.1
def ec (E : En) : Nat → ClassId := E.2.2.2.2.1
def el (E : En) : Nat → Nat := E.2.2.2.2.2.1
def ex (E : En) : Nat → Nat → Int32 := E.2.2.2.2.2.2.1
def ez (E : En) : Option Nat := E.2.2.2.2.2.2.2
def ad (E : En) (a : Nat) : Nat := if a < 8 then eo E a else eb E + (a - 8)
def rv (E : En) : Vv → Value
  | .inl x => .int x
  | .inr (.inl x) => .long x
  | .inr (.inr x) => va_rf (x.map (ad E))
/-- of the classes' fields: 0 an int, 1 a long, 2 a reference -/
def fkt : List (List Nat) := [[2, 0, 2, 0, 2, 0], [0, 0, 0, 0, 0, 0, 0, 0, 2, 0, 0, 0], [2, 0, 0, 2, 2, 0, 0, 0, 2, 0, 0, 0, 0, 0], [0, 0, 2], [2, 2, 0, 0, 2, 2, 2, 2, 2, 0, 0, 2, 0, 0, 0, 1, 0], [2, 2, 2, 0, 2, 2, 2, 0, 0, 2, 2, 2], [0, 0, 2, 2, 0, 0, 0, 2, 2, 2, 2, 0], [2, 2, 2, 0, 2, 0, 0, 2, 2, 2, 2, 2, 1], [2, 2, 0, 0, 0, 0, 0, 0, 0, 0, 1, 2, 2, 2, 2, 2, 2, 2, 2, 2, 2, 2, 2, 2, 2, 0, 0, 0, 0, 0, 2, 2, 2, 2, 2, 2, 2, 2, 2, 2, 0, 0, 0, 2, 2, 2, 2, 2, 2, 0, 0, 0, 2, 2, 2, 0, 0, 0, 0, 2, 2, 2, 2, 0, 0, 2, 0, 2, 2, 0, 1]]
def fkd (ci k : Nat) : Nat := (fkt.getD ci []).getD k 0
def fva (E : En) (h : Hp) (ci a k : Nat) : Value := match fkd ci k with
  | 0 => .int (hi h a k)
  | 1 => .long (hj h a k)
  | _ => va_rf ((hq h a k).map (ad E))
def cnt (E : En) (h : Hp) (kd a : Nat) : (Nat → Int32) ⊕ (Nat → Int64) ⊕ (Nat → UInt32) ⊕ (Nat → UInt64) ⊕ (Nat → Option Nat) :=
  if kd = 11 then .inr (.inl (hj h a)) else if kd < 13 then .inl (hi h a) else .inr (.inr (.inr (.inr (fun k => (hq h a k).map (ad E)))))
def nfl (ci : Nat) : Nat := (fkt.getD ci []).length
def ce (E : En) (h : Hp) (x : Nat × Nat) (a : Nat) : va_E :=
  if x.1 < 9 then .inr (x.1, (List.range (nfl x.1)).map (fun k => fva E h x.1 a k)) else .inl (ec E x.1, x.2, cnt E h x.1 a)
/-- the real heap holds the picture -/
def Sm (E : En) (h : Hp) (H : Heap) : Prop := 8 ≤ h.1.length ∧ H.size = eb E + (h.1.length - 8) ∧ (∀ i, i < 8 → ∀ x, hk h i = some x → (x = (10, el E i) ∧ i < 3 ∧ ∀ k, hi h i k = ex E i k) ∨ 17 ≤ x.1) ∧ ∀ (a : Nat) (x : Nat × Nat), 8 ≤ a → hk h a = some x → x.1 < 17 → va_at (eD E) vwCl (ad E a, ce E h x a) H
def tyk (kd : Nat) : FieldType := match kd with
  | 9 => .byte
  | 10 => .int
  | 11 => .long
  | 12 => .boolean
  | 13 => .object RX0
  | 14 => .object RX1
  | 15 => .object RX3
  | _ => .object RX7
def tys (E : En) : List (ClassId × FieldType) := (List.range 8).map (fun i => (ec E (i + 9), tyk (i + 9)))
/-- the words that stay -/
def wG : List Cond := lw_tbl.filter goodWord
def isNest : Cond → Bool
  | .methodLinkNest _ _ _ _ => true
  | _ => false
def wN : List Cond := lw_tbl.filter isNest
abbrev Mi : Type := MethodName × ByteArray × Nat × Option FieldType
def AA (E : En) : Nat → Prop := fun q => eb E ≤ q
/-- the two texts, and their bytes -/
def tx0 : String := "counts  empty   weeks   back    days    chain   late    stop    interestwhen    or      and     not     base    overtimesales   travel  bonus   hours   total   week    place   term    habit   "
def tx1 : String := ";()<>=+-*/"
def by0 : List Int32 := [99, 111, 117, 110, 116, 115, 32, 32, 101, 109, 112, 116, 121, 32, 32, 32, 119, 101, 101, 107, 115, 32, 32, 32, 98, 97, 99, 107, 32, 32, 32, 32, 100, 97, 121, 115, 32, 32, 32, 32, 99, 104, 97, 105, 110, 32, 32, 32, 108, 97, 116, 101, 32, 32, 32, 32, 115, 116, 111, 112, 32, 32, 32, 32, 105, 110, 116, 101, 114, 101, 115, 116, 119, 104, 101, 110, 32, 32, 32, 32, 111, 114, 32, 32, 32, 32, 32, 32, 97, 110, 100, 32, 32, 32, 32, 32, 110, 111, 116, 32, 32, 32, 32, 32, 98, 97, 115, 101, 32, 32, 32, 32, 111, 118, 101, 114, 116, 105, 109, 101, 115, 97, 108, 101, 115, 32, 32, 32, 116, 114, 97, 118, 101, 108, 32, 32, 98, 111, 110, 117, 115, 32, 32, 32, 104, 111, 117, 114, 115, 32, 32, 32, 116, 111, 116, 97, 108, 32, 32, 32, 119, 101, 101, 107, 32, 32, 32, 32, 112, 108, 97, 99, 101, 32, 32, 32, 116, 101, 114, 109, 32, 32, 32, 32, 104, 97, 98, 105, 116, 32, 32, 32]
def by1 : List Int32 := [59, 40, 41, 60, 62, 61, 43, 45, 42, 47]
/-- the old cells: two static rows, two texts, and what the JDK's text methods look at -/
def Ol (E : En) (U : State) (H : Heap) : Prop :=
  va_Z RX2 "LEAST" "[I" (.ref (eo E 0)) (AA E) U H ∧ va_Z RX2 "MOST" "[I" (.ref (eo E 1)) (AA E) U H ∧
  vk_R RX2 107 tx0 (eo E 3) U ∧ vk_R RX2 96 tx1 (eo E 4) U ∧
  vk_S 2 [192, 10] [by0, by1] (fun i => eo E (3 + i)) (fun i => eo E (5 + i)) (AA E) U H ∧ va_Z "java/lang/String" "COMPACT_STRINGS" "Z" (.int 1) (AA E) U H ∧
  va_Z "jdk/internal/util/Preconditions" "SIOOBE_FORMATTER" "Ljava/util/function/BiFunction;" (va_rf ((ez E).map (ad E))) (AA E) U H
/-- what holds of the tables at every state -/
def Gd (E : En) (U : State) (H : Heap) : Prop := va_K (eD E) vwCl (tys E) U ∧ (∀ w ∈ wN, va_Nw w U) ∧ Ol E U H ∧ (∀ C ∈ [RX0, RX1, RX3, RX7], va_AO C U) ∧ ∀ i, i < 3 → va_T .int (eo E i) (el E i) (fun j => .int (ex E i j)) (AA E) U H
/-- where a method stands -/
def Cx (E : En) (M : Mi) (p : Program) (s : State) (m : MethodId) (args : Array Value) (meth : Method) (c : Code) : Prop :=
  p.tables.exec = Jvm.exec ∧ c.code = M.2.1 ∧ meth.sig.returnType = M.2.2.2 ∧ c.maxLocals = M.2.2.1 ∧ s.vm.findClass M.1.cls = some m.cls ∧ (∀ w ∈ wG, w.before args s = true) ∧ meth.locks = false ∧ (M.1.name = "<init>" → meth.name = "<init>") ∧ Gd E s s.heap ∧ eb E ≤ s.heap.size
/-- the locals hold what is listed -/
def Lo (E : En) (ls : Array Slot) (nL : Nat) (lo : List (Option Vv)) : Prop := ls.size = nL ∧ lv_wf ls ∧ ∀ (i : Nat) (v : Vv), lo[i]? = some (some v) → ls[i]? = some (.val (rv E v))
/-- a return with its value on the stack -/
def Rt (E : En) (M : Mi) (pc : Nat) (r : Option Vv) (st : List Value) : Prop :=
  (∃ v : Int32, r = some (vi v) ∧ decode M.2.1 pc = .ok (.ireturn, 1) ∧ st = [.int v] ∧ ∃ ty, M.2.2.2 = some ty ∧ narrow ty (.int v) = .int v) ∨
  (∃ v : Int64, r = some (vl v) ∧ decode M.2.1 pc = .ok (.lreturn, 1) ∧ st = [.long v] ∧ M.2.2.2 = some .long) ∨
  (∃ x : Option Nat, r = some (vq x) ∧ decode M.2.1 pc = .ok (.areturn, 1) ∧ st = [rv E (vq x)] ∧ ∃ rt, M.2.2.2 = some rt ∧ ((∃ n, rt = .object n) ∨ ∃ t, rt = .array t)) ∨
  (r = none ∧ decode M.2.1 pc = .ok (.return_, 1) ∧ st = [] ∧ M.2.2.2 = none)
def Rm (R : Room) (d : Nat) : Prop := d ≤ R.frames ∧ d * 64 ≤ R.locals
/-- from here the method returns, with an answer and a heap as Q says; d deep calls, mc cells and ms slots are enough -/
def MW (E : En) (M : Mi) (d mc ms pc : Nat) (lo : List (Option Vv)) (st : List Vv) (h : Hp) (Q : Option Vv → Hp → Prop) : Prop :=
  ∀ (p : Program) (e : Env) (R : Room) (s : State) (m : MethodId) (args : Array Value) (below : List Frame) (meth : Method) (c : Code) (H : Heap) (locs : List Loc) (cells slots : Nat) (Qf : State → Prop) (ls : Array Slot),
    Cx E M p s m args meth c → Rm R d → cells + mc ≤ R.cells → slots + ms ≤ R.slots → Sm E h H → va_S (AA E) s.heap H locs → Lo E ls M.2.2.1 lo →
    (∀ (r : Option Vv) (h' : Hp) (H' : Heap) (locs' : List Loc) (cells' slots' pc' : Nat) (ls' : Array Slot) (st' : List Value), Q r h' → Sm E h' H' → va_S (AA E) s.heap H' locs' → cells' ≤ cells + mc → slots' ≤ slots + ms → Rt E M pc' r st' →
      W p E.1 e R s m args below meth c H' locs' cells' slots' Qf (F0 m pc' ls' st')) →
    W p E.1 e R s m args below meth c H locs cells slots Qf (F0 m pc ls (st.map (rv E)))
