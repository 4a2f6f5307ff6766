/-! THE ABSTRACT HEAP: size, kinds (class or array, length), fields by number (64 * class + place) and address, rows by address and place -/
abbrev Hp : Type := Nat × (Nat → Nat × Nat) × (Nat → Nat → Int32) × (Nat → Nat → Int64) × (Nat → Nat → Option Nat) × (Nat → Nat → Int32) × (Nat → Nat → Int64) × (Nat → Nat → Option Nat)
def hZ (h : Hp) : Nat := h.1
def hK (h : Hp) : Nat → Nat × Nat := h.2.1
def hI (h : Hp) : Nat → Nat → Int32 := h.2.2.1
def hJ (h : Hp) : Nat → Nat → Int64 := h.2.2.2.1
def hR (h : Hp) : Nat → Nat → Option Nat := h.2.2.2.2.1
def hA (h : Hp) : Nat → Nat → Int32 := h.2.2.2.2.2.1
def hB (h : Hp) : Nat → Nat → Int64 := h.2.2.2.2.2.2.1
def hC (h : Hp) : Nat → Nat → Option Nat := h.2.2.2.2.2.2.2
def mkH (z : Nat) (k : Nat → Nat × Nat) (i : Nat → Nat → Int32) (j : Nat → Nat → Int64) (r : Nat → Nat → Option Nat) (a : Nat → Nat → Int32) (b : Nat → Nat → Int64) (c : Nat → Nat → Option Nat) : Hp := (z, k, i, j, r, a, b, c)
def up2 {α : Type} (F : Nat → Nat → α) (i j : Nat) (v : α) : Nat → Nat → α := va_up F i (va_up (F i) j v)
def w32 (x : Int) : Int := (x + 2147483648) % 4294967296 - 2147483648
def w64 (x : Int) : Int := (x + 9223372036854775808) % 18446744073709551616 - 9223372036854775808
def rg (x : Int) : Prop := -2147483648 ≤ x ∧ x < 2147483648
def rl (x : Int) : Prop := -9223372036854775808 ≤ x ∧ x < 9223372036854775808
def gI (h : Hp) (f a : Nat) : Int := (hI h f a).toInt
def gJ (h : Hp) (f a : Nat) : Int := (hJ h f a).toInt
def gR (h : Hp) (f a : Nat) : Option Nat := hR h f a
def gA (h : Hp) (a : Nat) : Nat → Int := fun i => (hA h a i).toInt
def gB (h : Hp) (a : Nat) : Nat → Int := fun i => (hB h a i).toInt
def gC (h : Hp) (a : Nat) : Nat → Option Nat := hC h a
def pI (h : Hp) (f a : Nat) (v : Int) : Hp := mkH (hZ h) (hK h) (up2 (hI h) f a (Int32.ofInt v)) (hJ h) (hR h) (hA h) (hB h) (hC h)
def pJ (h : Hp) (f a : Nat) (v : Int) : Hp := mkH (hZ h) (hK h) (hI h) (up2 (hJ h) f a (Int64.ofInt v)) (hR h) (hA h) (hB h) (hC h)
def pR (h : Hp) (f a : Nat) (v : Nat) : Hp := mkH (hZ h) (hK h) (hI h) (hJ h) (up2 (hR h) f a (some v)) (hA h) (hB h) (hC h)
def sA (h : Hp) (a : Nat) (i v : Int) : Hp := mkH (hZ h) (hK h) (hI h) (hJ h) (hR h) (up2 (hA h) a i.toNat (Int32.ofInt v)) (hB h) (hC h)
def sB (h : Hp) (a : Nat) (i v : Int) : Hp := mkH (hZ h) (hK h) (hI h) (hJ h) (hR h) (hA h) (up2 (hB h) a i.toNat (Int64.ofInt v)) (hC h)
def sC (h : Hp) (a : Nat) (i : Int) (v : Nat) : Hp := mkH (hZ h) (hK h) (hI h) (hJ h) (hR h) (hA h) (hB h) (up2 (hC h) a i.toNat (some v))
def nw (h : Hp) (kd len : Nat) : Hp := mkH (hZ h + 1) (va_up (hK h) (hZ h) (kd, len)) (fun f => va_up (hI h f) (hZ h) 0) (fun f => va_up (hJ h f) (hZ h) 0) (fun f => va_up (hR h f) (hZ h) none) (va_up (hA h) (hZ h) (fun _ => 0)) (va_up (hB h) (hZ h) (fun _ => 0)) (va_up (hC h) (hZ h) (fun _ => none))
/-- a guard, a name, a reference that is there -/
def gd {α : Type} (p : Prop) [Decidable p] (k : Option α) : Option α := if p then k else none
def lt {α β : Type} (v : α) (k : α → Option β) : Option β := k v
def nn {β : Type} (v : Option Nat) (k : Nat → Option β) : Option β := match v with | some q => k q | none => none
def bd {α β : Type} (v : Option α) (k : α → Option β) : Option β := match v with | some q => k q | none => none
theorem gd_some {α : Type} {p : Prop} [Decidable p] {k : Option α} {x : α} (h : gd p k = some x) : p ∧ k = some x := by
  unfold gd at h
  by_cases hp : p
  · rw [if_pos hp] at h; exact ⟨hp, h⟩
  · rw [if_neg hp] at h; cases h
theorem lt_some {α β : Type} {v : α} {k : α → Option β} {x : β} (h : lt v k = some x) : ∃ y, y = v ∧ k y = some x := ⟨v, rfl, h⟩
theorem nn_some {β : Type} {v : Option Nat} {k : Nat → Option β} {x : β} (h : nn v k = some x) : ∃ q, v = some q ∧ k q = some x := by
  cases v with
  | none => cases h
  | some q => exact ⟨q, rfl, h⟩
theorem bd_some {α β : Type} {v : Option α} {k : α → Option β} {x : β} (h : bd v k = some x) : ∃ q, v = some q ∧ k q = some x := by
  cases v with
  | none => cases h
  | some q => exact ⟨q, rfl, h⟩
abbrev inA (i : Int) (n : Nat) : Prop := 0 ≤ i ∧ i < (n : Int)
def fT (ci : Nat) : List Nat := match ci with
  | 0 => [0, 0, 0, 0, 0, 0, 0, 0, 0, 0]
  | 1 => [2, 2, 2, 0]
  | 2 => [2]
  | 3 => [2, 2, 0]
  | 4 => [2, 2, 2, 2, 2, 2, 0, 0, 2]
  | 5 => [2, 2, 2, 2, 2]
  | 6 => [2, 0, 0]
  | 7 => [2, 2, 0, 0]
  | 8 => [2, 2, 2, 2, 2, 2]
  | 9 => [2, 0, 0, 0, 0, 0, 0, 0]
  | 10 => [2, 0, 0]
  | 11 => [2, 2, 2, 2, 2, 2, 2, 2, 2, 2, 2, 2, 2, 2, 2, 0, 0, 0, 1, 1]
  | 12 => [0, 0, 1, 1, 2, 2, 2, 2, 0, 0, 0, 0, 0, 0, 0, 0, 0, 0, 0, 1, 2, 2, 0, 2, 2, 2, 0, 2, 2, 2, 2, 0, 0, 2, 2, 2, 0, 0, 0, 2, 2, 0, 2, 2, 0, 0, 2, 2]
  | _ => []
def fv (h : Hp) (ci a : Nat) (q : Nat × Nat) : Value := match q.1 with
  | 0 => .int (hI h (64 * ci + q.2) a)
  | 1 => .long (hJ h (64 * ci + q.2) a)
  | _ => va_rf (hR h (64 * ci + q.2) a)
def flds (h : Hp) (ci a : Nat) : List Value := (fT ci).zipIdx.map (fv h ci a)
def elt (h : Hp) (kd a : Nat) : (Nat → Int32) ⊕ (Nat → Int64) ⊕ (Nat → UInt32) ⊕ (Nat → UInt64) ⊕ (Nat → Option Nat) :=
  if kd = 22 then .inr (.inl (hB h a)) else if kd < 24 then .inl (hA h a) else .inr (.inr (.inr (.inr (hC h a))))
def cellOf (cy : Nat → ClassId) (h : Hp) (a : Nat) : va_E :=
  if (hK h a).1 < 20 then .inr ((hK h a).1, flds h (hK h a).1 a) else .inl (cy (hK h a).1, (hK h a).2, elt h (hK h a).1 a)
def tyOf (kd : Nat) : FieldType := match kd with
  | 20 => .byte
  | 21 => .int
  | 22 => .long
  | 23 => .boolean
  | 24 => .object "EchoJars$Jar"
  | 25 => .object "EchoJars$Mark"
  | 26 => .object "EchoJars$Row"
  | _ => .object "EchoJars$Tray"
def tysG (cy : Nat → ClassId) : List (ClassId × FieldType) := [(cy 20, tyOf 20), (cy 21, tyOf 21), (cy 22, tyOf 22), (cy 23, tyOf 23), (cy 24, tyOf 24), (cy 25, tyOf 25), (cy 26, tyOf 26), (cy 27, tyOf 27)]
theorem tysG_at {cy : Nat → ClassId} {kd : Nat} (h1 : 20 ≤ kd) (h2 : kd ≤ 27) : (tysG cy)[kd - 20]? = some (cy kd, tyOf kd) := by
  have : kd = 20 ∨ kd = 21 ∨ kd = 22 ∨ kd = 23 ∨ kd = 24 ∨ kd = 25 ∨ kd = 26 ∨ kd = 27 := by omega
  rcases this with rfl | rfl | rfl | rfl | rfl | rfl | rfl | rfl <;> rfl
def Rep (D : va_G) (cy : Nat → ClassId) (B : Nat) (h : Hp) (H : Heap) : Prop :=
  H.size = hZ h ∧ B ≤ hZ h ∧ ∀ a, (hK h a).1 ≠ 99 → B ≤ a ∧ a < hZ h ∧ va_at D vwCl (a, cellOf cy h a) H
/-- what a state's tables say, whatever its heap -/
def nwL : List (String × Nat × MethodName × String) := [("EchoJars", 9, ⟨"EchoJars$Tray", "<init>", "()V"⟩, "EchoJars"), ("EchoJars", 18, ⟨"EchoJars$Tape", "<init>", "()V"⟩, "EchoJars"), ("EchoJars$Shop", 26, ⟨"EchoJars$Jar", "<init>", "()V"⟩, "EchoJars"), ("EchoJars", 48, ⟨"EchoJars$Law", "<init>", "()V"⟩, "EchoJars"), ("EchoJars", 97, ⟨"EchoJars$Planner", "<init>", "()V"⟩, "EchoJars"), ("EchoJars$Tape", 128, ⟨"EchoJars", "within", "(JJJ)Z"⟩, "EchoJars"), ("EchoJars$LawReader", 17, ⟨"EchoJars$Law", "<init>", "()V"⟩, "EchoJars"), ("EchoJars$Tray", 38, ⟨"EchoJars", "within", "(JJJ)Z"⟩, "EchoJars"), ("EchoJars$Merger", 82, ⟨"EchoJars", "isIn", "(II)Z"⟩, "EchoJars"), ("EchoJars$Planner", 39, ⟨"EchoJars", "isIn", "(II)Z"⟩, "EchoJars"), ("EchoJars$Shop", 79, ⟨"EchoJars", "isIn", "(II)Z"⟩, "EchoJars")]
def KG (D : va_G) (cy : Nat → ClassId) (U : State) : Prop := va_K D vwCl (tysG cy) U ∧ (va_AO "EchoJars$Jar" U ∧ va_AO "EchoJars$Mark" U ∧ va_AO "EchoJars$Row" U ∧ va_AO "EchoJars$Tray" U) ∧ ∀ q ∈ nwL, va_Nw (.methodLinkNest q.1 q.2.1 q.2.2.1 q.2.2.2) U
theorem KG.warm {D : va_G} {cy : Nat → ClassId} {s U : State} (hW : s.WarmedH U.vm) (h : KG D cy s) : KG D cy U :=
  ⟨va_K.moved hW.alike h.1, ⟨va_AO.moved hW.alike h.2.1.1, va_AO.moved hW.alike h.2.1.2.1, va_AO.moved hW.alike h.2.1.2.2.1, va_AO.moved hW.alike h.2.1.2.2.2⟩, fun q hq => va_Nw.warmM hW (h.2.2 q hq)⟩
def strT : List (Nat × String × Nat × String × List Nat) := [(0, "EchoJars$ShopReader", 48, "sound", [115, 111, 117, 110, 100]), (1, "EchoJars$Tape", 72, "sound", [115, 111, 117, 110, 100]), (2, "EchoJars$Tape", 78, "jar", [106, 97, 114]), (3, "EchoJars$Tape", 80, "size", [115, 105, 122, 101]), (4, "EchoJars$Tape", 81, "leaks", [108, 101, 97, 107, 115]), (5, "EchoJars$Tape", 83, "head", [104, 101, 97, 100]), (6, "EchoJars$Tape", 85, "tail", [116, 97, 105, 108]), (7, "EchoJars$Tape", 87, "costs", [99, 111, 115, 116, 115]), (8, "EchoJars$Tape", 89, "worth", [119, 111, 114, 116, 104]), (9, "EchoJars$Tape", 91, "breaks", [98, 114, 101, 97, 107, 115]), (10, "EchoJars$Tape", 93, "fill", [102, 105, 108, 108]), (11, "EchoJars$Tape", 95, "of", [111, 102]), (12, "EchoJars$Tape", 97, "from", [102, 114, 111, 109]), (13, "EchoJars$Tape", 99, "on", [111, 110]), (14, "EchoJars$Tape", 101, "mix", [109, 105, 120]), (15, "EchoJars$Tape", 103, "with", [119, 105, 116, 104]), (16, "EchoJars$Tape", 105, "gives", [103, 105, 118, 101, 115]), (17, "EchoJars$Tape", 107, "any", [97, 110, 121]), (18, "EchoJars$Tape", 109, "same", [115, 97, 109, 101]), (19, "EchoJars$Tape", 111, "rest", [114, 101, 115, 116]), (20, "EchoJars$Tape", 113, "first", [102, 105, 114, 115, 116]), (21, "EchoJars$Tape", 115, "second", [115, 101, 99, 111, 110, 100]), (22, "EchoJars$ShopReader", 57, "jar", [106, 97, 114]), (23, "EchoJars$ShopReader", 99, "size", [115, 105, 122, 101]), (24, "EchoJars$ShopReader", 113, "leaks", [108, 101, 97, 107, 115]), (25, "EchoJars$ShopReader", 139, "head", [104, 101, 97, 100]), (26, "EchoJars$ShopReader", 141, "tail", [116, 97, 105, 108]), (27, "EchoJars$ShopReader", 124, "costs", [99, 111, 115, 116, 115]), (28, "EchoJars$ShopReader", 131, "worth", [119, 111, 114, 116, 104]), (29, "EchoJars$ShopReader", 135, "breaks", [98, 114, 101, 97, 107, 115]), (30, "EchoJars$ShopReader", 62, "fill", [102, 105, 108, 108]), (31, "EchoJars$ShopReader", 147, "of", [111, 102]), (32, "EchoJars$ShopReader", 149, "from", [102, 114, 111, 109]), (33, "EchoJars$ShopReader", 154, "on", [111, 110]), (34, "EchoJars$LawReader", 39, "mix", [109, 105, 120]), (35, "EchoJars$LawReader", 70, "any", [97, 110, 121]), (36, "EchoJars$LawReader", 82, "rest", [114, 101, 115, 116]), (37, "EchoJars$LawReader", 56, "with", [119, 105, 116, 104]), (38, "EchoJars$LawReader", 58, "gives", [103, 105, 118, 101, 115]), (39, "EchoJars$LawReader", 78, "first", [102, 105, 114, 115, 116]), (40, "EchoJars$LawReader", 80, "second", [115, 101, 99, 111, 110, 100])]
/-- the bytes of a text -/
def strB (t : List Nat) : Nat → Int32 := fun j => Int32.ofNat (t.getD j 0)
/-- the text constants: old cells, at addresses that cy tells (100 + i the String, 200 + i its row) -/
def KS (cy : Nat → ClassId) (B : Nat) (U : State) (H : Heap) : Prop :=
  (∀ q ∈ strT, vk_R q.2.1 q.2.2.1 q.2.2.2.1 (cy (100 + q.1)) U ∧ va_O "java/lang/String" (cy (100 + q.1)) (fun a => B ≤ a) U H ∧ va_OF "java/lang/String" "coder" "B" (.int 0) (cy (100 + q.1)) (fun a => B ≤ a) U H ∧ va_OF "java/lang/String" "value" "[B" (.ref (cy (200 + q.1))) (cy (100 + q.1)) (fun a => B ≤ a) U H ∧ va_T .byte (cy (200 + q.1)) q.2.2.2.2.length (fun j => .int (strB q.2.2.2.2 j)) (fun a => B ≤ a) U H) ∧
  va_Z "java/lang/String" "COMPACT_STRINGS" "Z" (.int 1) (fun a => B ≤ a) U H ∧
  ∃ v : Option Nat, va_Z "jdk/internal/util/Preconditions" "SIOOBE_FORMATTER" "Ljava/util/function/BiFunction;" (va_rf v) (fun a => B ≤ a) U H
theorem KS.go {cy : Nat → ClassId} {B : Nat} {s U : State} {H : Heap} (hW : s.WarmedH U.vm) (hq : ∀ a : Nat, a < s.heap.size → ¬ B ≤ a → H[a]? = s.heap[a]?) (h : KS cy B s s.heap) : KS cy B U H :=
  ⟨fun q hm => ⟨(h.1 q hm).1.warm hW, ((h.1 q hm).2.1.moved hW.alike).kept hq, ((h.1 q hm).2.2.1.moved hW.alike).kept hq, ((h.1 q hm).2.2.2.1.moved hW.alike).kept hq, ((h.1 q hm).2.2.2.2.moved hW.alike).kept hq⟩, (h.2.1.moved hW.alike).kept hq, h.2.2.elim fun v hv => ⟨v, (hv.moved hW.alike).kept hq⟩⟩
theorem KS.same {cy : Nat → ClassId} {B : Nat} {u U : State} (hvm : U.vm = u.vm) (hh : U.heap = u.heap) (h : KS cy B u u.heap) : KS cy B U U.heap := by
  have hA : u.vm.Alike U.vm := hvm ▸ Vm.Alike.refl u.vm
  rw [hh]
  exact ⟨fun q hm => ⟨(h.1 q hm).1.same hvm, (h.1 q hm).2.1.moved hA, (h.1 q hm).2.2.1.moved hA, (h.1 q hm).2.2.2.1.moved hA, (h.1 q hm).2.2.2.2.moved hA⟩, h.2.1.moved hA, h.2.2.elim fun v hv => ⟨v, hv.moved hA⟩⟩
def uT : List Cond := lw_tbl.filter goodWord
theorem uT_good {w : Cond} (h : w ∈ uT) : goodWord w = true := (List.mem_filter.mp h).2
theorem uT_in {w : Cond} {i : Nat} (h : (match lw_tbl[i]? with | some x => decide (x = w) && goodWord w | none => false) = true) : w ∈ uT := by
  cases hi : lw_tbl[i]? with
  | none => rw [hi] at h; cases h
  | some x =>
    rw [hi] at h
    obtain ⟨h1, h2⟩ := Bool.and_eq_true_iff.mp h
    have h1 := of_decide_eq_true h1
    subst h1
    exact List.mem_filter.mpr ⟨List.mem_of_getElem? hi, h2⟩
theorem uT_sub : ∀ w ∈ uT, w ∈ lw_tbl := fun _ h => (List.mem_filter.mp h).1
def CXd (D : va_G) (cy : Nat → ClassId) (B : Nat) (p : Program) (s : State) (m : MethodId) (args : Array Value) (c : Code) (cc : ByteArray) (own : String) (nL : Nat) : Prop :=
  p.tables.exec = Jvm.exec ∧ c.code = cc ∧ c.maxLocals = nL ∧ s.vm.findClass own = some m.cls ∧ (∀ w ∈ uT, w.before args s = true) ∧ KG D cy s ∧ B ≤ s.heap.size ∧ KS cy B s s.heap
def AWd (D : va_G) (cy : Nat → ClassId) (B : Nat) (p : Program) (l : Launch) (e : Env) (R : Room) (s : State) (m : MethodId) (args : Array Value) (below : List Frame) (meth : Method) (c : Code) (nL : Nat) (Q : State → Prop) (h : Hp) (k n pc : Nat) (lv : List (Nat × Value)) (st : List Value) : Prop :=
  ∀ (H : Heap) (locs : List Loc) (ls : Array Slot), Rep D cy B h H → va_S (fun q => B ≤ q) s.heap H locs → lv_has ls nL lv → W p l e R s m args below meth c H locs k n Q (F0 m pc ls st)
def PcD (D : va_G) (cy : Nat → ClassId) (B : Nat) (av : List Value) (h : Hp) : Array Value → State → Prop := fun v U => v = av.toArray ∧ Rep D cy B h U.heap ∧ KG D cy U ∧ KS cy B U U.heap
def QcD (D : va_G) (cy : Nat → ClassId) (B : Nat) (r : Option Value) (h' : Hp) : Array Value → State → Outcome → State → Prop := fun _ st o t => o = .returned r ∧ Rep D cy B h' t.heap ∧ va_F (fun q => B ≤ q) st t
def CT (D : va_G) (cy : Nat → ClassId) (B : Nat) (l : Launch) (y : MethodName) (cc : ByteArray) (nL : Nat) (ret : Option FieldType) (F L mc ms : Nat) (av : List Value) (h : Hp) (r : Option Value) (h' : Hp) : Prop :=
  Met l y (.code y cc nL ret :: uT) { frames := F, cells := mc, slots := ms, locals := L } (PcD D cy B av h) (QcD D cy B r h') mc ms (fun q => B ≤ q)
abbrev vI (x : Int) : Value := .int (Int32.ofInt x)
abbrev vJ (x : Int) : Value := .long (Int64.ofInt x)
abbrev MQr (D : va_G) (cy : Nat → ClassId) (B : Nat) (below : List Frame) (r : Option Value) (h' : Hp) (args : Array Value) (s : State) (mc ms : Nat) : State → Prop := MQ below (QcD D cy B r h') args s mc ms (fun q => B ≤ q)
theorem uT_goodIn {y : MethodName} {cc : ByteArray} {nL : Nat} {ret : Option FieldType} (h : Cond.code y cc nL ret ∈ uT) : GoodIn uT (.code y cc nL ret :: uT) := by
  intro w hw
  rcases List.mem_cons.mp hw with rfl | hw
  · exact ⟨h, good_of_word (uT_good h)⟩
  · exact ⟨hw, good_of_word (uT_good hw)⟩
set_option maxHeartbeats 1000000 in
theorem ct_intro {D : va_G} {cy : Nat → ClassId} {B : Nat} {l : Launch} {y : MethodName} {cc : ByteArray} {nL : Nat} {ret : Option FieldType} {F L mc ms : Nat} {av : List Value} {h : Hp} {r : Option Value} {h' : Hp} {own : String}
    (hy : plainName y.cls = true) (ho : y.cls = own) (hn : (lg_sl av).length ≤ nL)
    (body : ∀ (p : Program) (e : Env) (s : State) (m : MethodId) (args : Array Value) (below : List Frame) (meth : Method) (c : Code), CXd D cy B p s m args c cc own nL → meth.sig.returnType = ret → meth.locks = false → meth.name = y.name →
      AWd D cy B p l e { frames := F, cells := mc, slots := ms, locals := L } s m args below meth c nL (MQr D cy B below r h' args s mc ms) h 0 0 0 (lv_args 0 av) []) :
    CT D cy B l y cc nL ret F L mc ms av h r h' := by
  subst ho
  refine Met.ofW (cc := cc) (maxL := nL) (ret := ret) hy rfl ?_
  intro p e s m args below meth c s₁ Bd hml hv
  obtain ⟨rfl, hRep, hKG, hKS⟩ := hv
  have hts := atoms_spec (ws := .code y cc nL ret :: uT) Bd.pre
  have hl := lv_entry av hn
  rw [lg_entry_eq]
  exact body p e s m _ below meth c ⟨Bd.exec, Bd.bytes, hml, findClass_of_methodNamed Bd.named, fun w hw => hts w (List.mem_cons_of_mem _ hw), hKG, by rw [hRep.1]; exact hRep.2.1, hKS⟩ Bd.returns Bd.notSynchronized (name_of_methodNamed Bd.named Bd.method).1 s.heap [] _ hRep va_S.rf hl
