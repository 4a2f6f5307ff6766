section RETS
variable {D : va_G} {cy : Nat → ClassId} {B : Nat} {p : Program} {l : Launch} {e : Env} {R : Room} {s : State} {m : MethodId} {args : Array Value} {below : List Frame} {meth : Method} {c : Code} {nL : Nat} {Q : State → Prop} {h : Hp} {k n pc : Nat} {lv : List (Nat × Value)} {st : List Value} {cc : ByteArray} {own : String}

theorem aw_iret (X : CXd D cy B p s m args c cc own nL) {v : Int} {h' : Hp} {r : Option Value} (hr : meth.sig.returnType = some .int) (hlk : meth.locks = false) (eh : h' = h) (er : r = some (vI v)) (hd : decode cc pc = .ok (.ireturn, 1)) : AWd D cy B p l e R s m args below meth c nL (MQr D cy B below r h' args s k n) h k n pc lv [vI v] := fun H locs ls r1 r2 r3 => by
  subst eh
  subst er
  exact W.iret X.1 X.2.1 hr (fun t ht hW => ⟨rfl, by rw [ht]; exact r1, r2.F ht⟩) r2.2.2 hd hlk
theorem aw_zret (X : CXd D cy B p s m args c cc own nL) {v : Int} {h' : Hp} {r : Option Value} (hn : narrow .boolean (vI v) = vI v) (hr : meth.sig.returnType = some .boolean) (hlk : meth.locks = false) (eh : h' = h) (er : r = some (vI v)) (hd : decode cc pc = .ok (.ireturn, 1)) : AWd D cy B p l e R s m args below meth c nL (MQr D cy B below r h' args s k n) h k n pc lv [vI v] := fun H locs ls r1 r2 r3 => by
  subst eh
  subst er
  exact W.zret X.1 X.2.1 hr hn (fun t ht hW => ⟨rfl, by rw [ht]; exact r1, r2.F ht⟩) r2.2.2 hd hlk
theorem aw_lret (X : CXd D cy B p s m args c cc own nL) {v : Int} {h' : Hp} {r : Option Value} (hr : meth.sig.returnType = some .long) (hlk : meth.locks = false) (eh : h' = h) (er : r = some (vJ v)) (hd : decode cc pc = .ok (.lreturn, 1)) : AWd D cy B p l e R s m args below meth c nL (MQr D cy B below r h' args s k n) h k n pc lv [vJ v] := fun H locs ls r1 r2 r3 => by
  subst eh
  subst er
  exact W.lret X.1 X.2.1 hr (fun t ht hW => ⟨rfl, by rw [ht]; exact r1, r2.F ht⟩) r2.2.2 hd hlk
theorem aw_vret (X : CXd D cy B p s m args c cc own nL) {h' : Hp} {r : Option Value} (hr : meth.sig.returnType = none) (hlk : meth.locks = false) (eh : h' = h) (er : r = none) (hd : decode cc pc = .ok (.return_, 1)) : AWd D cy B p l e R s m args below meth c nL (MQr D cy B below r h' args s k n) h k n pc lv [] := fun H locs ls r1 r2 r3 => by
  subst eh
  subst er
  exact W.vret X.1 X.2.1 hr (fun t ht hW => ⟨rfl, by rw [ht]; exact r1, r2.F ht⟩) r2.2.2 hd hlk
theorem aw_aret (X : CXd D cy B p s m args c cc own nL) {v : Nat} {h' : Hp} {r : Option Value} {ty : FieldType} (hn : (∃ n, ty = .object n) ∨ ∃ t, ty = .array t) (hr : meth.sig.returnType = some ty) (hlk : meth.locks = false) (eh : h' = h) (er : r = some (.ref v)) (hd : decode cc pc = .ok (.areturn, 1)) : AWd D cy B p l e R s m args below meth c nL (MQr D cy B below r h' args s k n) h k n pc lv [.ref v] := fun H locs ls r1 r2 r3 => by
  subst eh
  subst er
  exact W.aret X.1 X.2.1 hr hn (Or.inr ⟨_, rfl⟩) (fun t ht hW => ⟨rfl, by rw [ht]; exact r1, r2.F ht⟩) r2.2.2 hd hlk
theorem aw_widen {k' n' : Nat} (h1 : k ≤ k') (h2 : n ≤ n') (kk : AWd D cy B p l e R s m args below meth c nL Q h k' n' pc lv st) : AWd D cy B p l e R s m args below meth c nL Q h k n pc lv st := fun H locs ls r1 r2 r3 => W.widen h1 h2 (kk H locs ls r1 r2 r3)
theorem aw_objInit (X : CXd D cy B p s m args c cc own nL) {i a : Nat} (hw1 : Cond.methodLink own i Lib.objectInit ∈ uT) (hw2 : Cond.instanceMethod Lib.objectInit ∈ uT) (hw3 : Cond.code Lib.objectInit ⟨#[0xb1]⟩ 1 none ∈ uT) (hf : 1 ≤ R.frames) (hlo : (st.map fun v => v.category).sum + 12 ≤ R.locals) (hd : decode cc pc = .ok (.invokespecial i, 3)) (kk : AWd D cy B p l e R s m args below meth c nL Q h k n (pc + 3) lv st) : AWd D cy B p l e R s m args below meth c nL Q h k n pc lv ((.ref a :: st)) := fun H locs ls r1 r2 r3 => by
  refine W.objInit X.1 X.2.1 X.2.2.2.1 (X.2.2.2.2.1 _ hw1) (X.2.2.2.2.1 _ hw2) (X.2.2.2.2.1 _ hw3) rfl (by rw [X.2.2.1]; exact r3.1) rfl hd hf (by show 2 * 0 + _ + 12 ≤ _; omega) ?_
  exact W.eq (g2 := F0 m (pc + 3) ls st) rfl (kk H locs ls r1 r2 r3)
theorem aw_lcmp (X : CXd D cy B p s m args c cc own nL) {a b : Int} (hd : decode cc pc = .ok (.lcmp, 1)) (kk : AWd D cy B p l e R s m args below meth c nL Q h k n (pc + 1) lv ((.int (lg_cmp (Int64.ofInt a) (Int64.ofInt b)) :: st))) : AWd D cy B p l e R s m args below meth c nL Q h k n pc lv ((vJ b :: vJ a :: st)) := fun H locs ls r1 r2 r3 => W.lcmp X.1 X.2.1 hd (kk H locs ls r1 r2 r3)
theorem lgc_lt {a b : Int} (ha : rl a) (hb : rl b) : lg_cmp (Int64.ofInt a) (Int64.ofInt b) < 0 ↔ a < b := by
  unfold lg_cmp
  have e1 : (Int64.ofInt a > Int64.ofInt b) ↔ b < a := ofJ_lt hb ha
  have e2 := ofJ_eq ha hb
  by_cases h1 : b < a
  · rw [if_pos (e1.mpr h1)]
    exact ⟨fun z => absurd z (by decide), fun z => by omega⟩
  · rw [if_neg (fun z => h1 (e1.mp z))]
    by_cases h2 : a = b
    · rw [if_pos (e2.mpr h2)]
      exact ⟨fun z => absurd z (by decide), fun z => by omega⟩
    · rw [if_neg (fun z => h2 (e2.mp z))]
      exact ⟨fun _ => by omega, fun _ => by decide⟩
theorem lgc_gt {a b : Int} (ha : rl a) (hb : rl b) : 0 < lg_cmp (Int64.ofInt a) (Int64.ofInt b) ↔ b < a := by
  unfold lg_cmp
  have e1 : (Int64.ofInt a > Int64.ofInt b) ↔ b < a := ofJ_lt hb ha
  have e2 := ofJ_eq ha hb
  by_cases h1 : b < a
  · rw [if_pos (e1.mpr h1)]
    exact ⟨fun _ => h1, fun _ => by decide⟩
  · rw [if_neg (fun z => h1 (e1.mp z))]
    by_cases h2 : a = b
    · rw [if_pos (e2.mpr h2)]
      exact ⟨fun z => absurd z (by decide), fun z => absurd z h1⟩
    · rw [if_neg (fun z => h2 (e2.mp z))]
      exact ⟨fun z => absurd z (by decide), fun z => absurd z h1⟩
theorem lgc_eq {a b : Int} (ha : rl a) (hb : rl b) : lg_cmp (Int64.ofInt a) (Int64.ofInt b) = 0 ↔ a = b := by
  unfold lg_cmp
  have e1 : (Int64.ofInt a > Int64.ofInt b) ↔ b < a := ofJ_lt hb ha
  have e2 := ofJ_eq ha hb
  by_cases h1 : b < a
  · rw [if_pos (e1.mpr h1)]
    exact ⟨fun z => absurd z (by decide), fun z => by omega⟩
  · rw [if_neg (fun z => h1 (e1.mp z))]
    by_cases h2 : a = b
    · rw [if_pos (e2.mpr h2)]
      exact ⟨fun _ => h2, fun _ => rfl⟩
    · rw [if_neg (fun z => h2 (e2.mp z))]
      exact ⟨fun z => absurd z (by decide), fun z => absurd z h2⟩
theorem aw_lc_eq (X : CXd D cy B p s m args c cc own nL) {a b : Int} {off : Int} {tgt : Nat} (ha : rl a) (hb : rl b) (hd0 : decode cc pc = .ok (.lcmp, 1)) (hd : decode cc (pc + 1) = .ok (.ifCond .eq off, 3)) (ht : ((pc + 1 : Nat) : Int) + off = (tgt : Int)) (kt : a = b → AWd D cy B p l e R s m args below meth c nL Q h k n tgt lv st) (kf : ¬ (a = b) → AWd D cy B p l e R s m args below meth c nL Q h k n (pc + 1 + 3) lv st) : AWd D cy B p l e R s m args below meth c nL Q h k n pc lv ((vJ b :: vJ a :: st)) := aw_lcmp X hd0 fun H locs ls r1 r2 r3 =>
  lv_if_eq X.1 X.2.1 hd ht (fun z => kt (by have l1 := lgc_lt ha hb; have l2 := lgc_gt ha hb; have l3 := lgc_eq ha hb; have q := z; simp only [Int32.le_iff_toInt_le, Int32.lt_iff_toInt_lt, Int32.toInt_zero, ← Int32.toInt_inj] at q l1 l2 l3; omega) H locs ls r1 r2 r3) (fun z => kf (by have l1 := lgc_lt ha hb; have l2 := lgc_gt ha hb; have l3 := lgc_eq ha hb; have q := z; simp only [Int32.le_iff_toInt_le, Int32.lt_iff_toInt_lt, Int32.toInt_zero, ← Int32.toInt_inj] at q l1 l2 l3; omega) H locs ls r1 r2 r3)
theorem aw_lc_ne (X : CXd D cy B p s m args c cc own nL) {a b : Int} {off : Int} {tgt : Nat} (ha : rl a) (hb : rl b) (hd0 : decode cc pc = .ok (.lcmp, 1)) (hd : decode cc (pc + 1) = .ok (.ifCond .ne off, 3)) (ht : ((pc + 1 : Nat) : Int) + off = (tgt : Int)) (kt : ¬ (a = b) → AWd D cy B p l e R s m args below meth c nL Q h k n tgt lv st) (kf : a = b → AWd D cy B p l e R s m args below meth c nL Q h k n (pc + 1 + 3) lv st) : AWd D cy B p l e R s m args below meth c nL Q h k n pc lv ((vJ b :: vJ a :: st)) := aw_lcmp X hd0 fun H locs ls r1 r2 r3 =>
  lv_if_ne X.1 X.2.1 hd ht (fun z => kt (by have l1 := lgc_lt ha hb; have l2 := lgc_gt ha hb; have l3 := lgc_eq ha hb; have q := z; simp only [Int32.le_iff_toInt_le, Int32.lt_iff_toInt_lt, Int32.toInt_zero, ← Int32.toInt_inj] at q l1 l2 l3; omega) H locs ls r1 r2 r3) (fun z => kf (by have l1 := lgc_lt ha hb; have l2 := lgc_gt ha hb; have l3 := lgc_eq ha hb; have q := z; simp only [Int32.le_iff_toInt_le, Int32.lt_iff_toInt_lt, Int32.toInt_zero, ← Int32.toInt_inj] at q l1 l2 l3; omega) H locs ls r1 r2 r3)
theorem aw_lc_lt (X : CXd D cy B p s m args c cc own nL) {a b : Int} {off : Int} {tgt : Nat} (ha : rl a) (hb : rl b) (hd0 : decode cc pc = .ok (.lcmp, 1)) (hd : decode cc (pc + 1) = .ok (.ifCond .lt off, 3)) (ht : ((pc + 1 : Nat) : Int) + off = (tgt : Int)) (kt : a < b → AWd D cy B p l e R s m args below meth c nL Q h k n tgt lv st) (kf : ¬ (a < b) → AWd D cy B p l e R s m args below meth c nL Q h k n (pc + 1 + 3) lv st) : AWd D cy B p l e R s m args below meth c nL Q h k n pc lv ((vJ b :: vJ a :: st)) := aw_lcmp X hd0 fun H locs ls r1 r2 r3 =>
  lv_if_lt X.1 X.2.1 hd ht (fun z => kt (by have l1 := lgc_lt ha hb; have l2 := lgc_gt ha hb; have l3 := lgc_eq ha hb; have q := z; simp only [Int32.le_iff_toInt_le, Int32.lt_iff_toInt_lt, Int32.toInt_zero, ← Int32.toInt_inj] at q l1 l2 l3; omega) H locs ls r1 r2 r3) (fun z => kf (by have l1 := lgc_lt ha hb; have l2 := lgc_gt ha hb; have l3 := lgc_eq ha hb; have q := z; simp only [Int32.le_iff_toInt_le, Int32.lt_iff_toInt_lt, Int32.toInt_zero, ← Int32.toInt_inj] at q l1 l2 l3; omega) H locs ls r1 r2 r3)
theorem aw_lc_ge (X : CXd D cy B p s m args c cc own nL) {a b : Int} {off : Int} {tgt : Nat} (ha : rl a) (hb : rl b) (hd0 : decode cc pc = .ok (.lcmp, 1)) (hd : decode cc (pc + 1) = .ok (.ifCond .ge off, 3)) (ht : ((pc + 1 : Nat) : Int) + off = (tgt : Int)) (kt : ¬ (a < b) → AWd D cy B p l e R s m args below meth c nL Q h k n tgt lv st) (kf : a < b → AWd D cy B p l e R s m args below meth c nL Q h k n (pc + 1 + 3) lv st) : AWd D cy B p l e R s m args below meth c nL Q h k n pc lv ((vJ b :: vJ a :: st)) := aw_lcmp X hd0 fun H locs ls r1 r2 r3 =>
  lv_if_ge X.1 X.2.1 hd ht (fun z => kt (by have l1 := lgc_lt ha hb; have l2 := lgc_gt ha hb; have l3 := lgc_eq ha hb; have q := z; simp only [Int32.le_iff_toInt_le, Int32.lt_iff_toInt_lt, Int32.toInt_zero, ← Int32.toInt_inj] at q l1 l2 l3; omega) H locs ls r1 r2 r3) (fun z => kf (by have l1 := lgc_lt ha hb; have l2 := lgc_gt ha hb; have l3 := lgc_eq ha hb; have q := z; simp only [Int32.le_iff_toInt_le, Int32.lt_iff_toInt_lt, Int32.toInt_zero, ← Int32.toInt_inj] at q l1 l2 l3; omega) H locs ls r1 r2 r3)
theorem aw_lc_gt (X : CXd D cy B p s m args c cc own nL) {a b : Int} {off : Int} {tgt : Nat} (ha : rl a) (hb : rl b) (hd0 : decode cc pc = .ok (.lcmp, 1)) (hd : decode cc (pc + 1) = .ok (.ifCond .gt off, 3)) (ht : ((pc + 1 : Nat) : Int) + off = (tgt : Int)) (kt : b < a → AWd D cy B p l e R s m args below meth c nL Q h k n tgt lv st) (kf : ¬ (b < a) → AWd D cy B p l e R s m args below meth c nL Q h k n (pc + 1 + 3) lv st) : AWd D cy B p l e R s m args below meth c nL Q h k n pc lv ((vJ b :: vJ a :: st)) := aw_lcmp X hd0 fun H locs ls r1 r2 r3 =>
  lv_if_gt X.1 X.2.1 hd ht (fun z => kt (by have l1 := lgc_lt ha hb; have l2 := lgc_gt ha hb; have l3 := lgc_eq ha hb; have q := z; simp only [Int32.le_iff_toInt_le, Int32.lt_iff_toInt_lt, Int32.toInt_zero, ← Int32.toInt_inj] at q l1 l2 l3; omega) H locs ls r1 r2 r3) (fun z => kf (by have l1 := lgc_lt ha hb; have l2 := lgc_gt ha hb; have l3 := lgc_eq ha hb; have q := z; simp only [Int32.le_iff_toInt_le, Int32.lt_iff_toInt_lt, Int32.toInt_zero, ← Int32.toInt_inj] at q l1 l2 l3; omega) H locs ls r1 r2 r3)
theorem aw_lc_le (X : CXd D cy B p s m args c cc own nL) {a b : Int} {off : Int} {tgt : Nat} (ha : rl a) (hb : rl b) (hd0 : decode cc pc = .ok (.lcmp, 1)) (hd : decode cc (pc + 1) = .ok (.ifCond .le off, 3)) (ht : ((pc + 1 : Nat) : Int) + off = (tgt : Int)) (kt : ¬ (b < a) → AWd D cy B p l e R s m args below meth c nL Q h k n tgt lv st) (kf : b < a → AWd D cy B p l e R s m args below meth c nL Q h k n (pc + 1 + 3) lv st) : AWd D cy B p l e R s m args below meth c nL Q h k n pc lv ((vJ b :: vJ a :: st)) := aw_lcmp X hd0 fun H locs ls r1 r2 r3 =>
  lv_if_le X.1 X.2.1 hd ht (fun z => kt (by have l1 := lgc_lt ha hb; have l2 := lgc_gt ha hb; have l3 := lgc_eq ha hb; have q := z; simp only [Int32.le_iff_toInt_le, Int32.lt_iff_toInt_lt, Int32.toInt_zero, ← Int32.toInt_inj] at q l1 l2 l3; omega) H locs ls r1 r2 r3) (fun z => kf (by have l1 := lgc_lt ha hb; have l2 := lgc_gt ha hb; have l3 := lgc_eq ha hb; have q := z; simp only [Int32.le_iff_toInt_le, Int32.lt_iff_toInt_lt, Int32.toInt_zero, ← Int32.toInt_inj] at q l1 l2 l3; omega) H locs ls r1 r2 r3)
theorem rep_new {h : Hp} {H H1 : Heap} {kd len : Nat} (r : Rep D cy B h H) (z1 : H1.size = H.size + 1) (o1 : ∀ q : Nat, q < H.size → H1[q]? = H[q]?) (hkd : kd ≠ 99) (ha : va_at D vwCl (hZ h, cellOf cy (nw h kd len) (hZ h)) H1) : Rep D cy B (nw h kd len) H1 := by
  obtain ⟨r1, r2, r3⟩ := r
  refine ⟨by rw [z1, r1]; rfl, Nat.le_succ_of_le r2, fun b hb => ?_⟩
  by_cases eb : b = hZ h
  · subst eb
    exact ⟨r2, Nat.lt_succ_self _, ha⟩
  · have hk : hK (nw h kd len) b = hK h b := by show va_up (hK h) (hZ h) (kd, len) b = _; unfold va_up; rw [if_neg eb]
    rw [hk] at hb
    obtain ⟨q1, q2, q3⟩ := r3 b hb
    refine ⟨q1, Nat.lt_succ_of_lt q2, ?_⟩
    have hc : cellOf cy (nw h kd len) b = cellOf cy h b := by
      have u : ∀ {α : Type} (F : Nat → α) (w : α), va_up F (hZ h) w b = F b := fun F w => by unfold va_up; rw [if_neg eb]
      unfold cellOf
      rw [hk, flds_same (h := h) (h' := nw h kd len) (b := b) (fun f => u _ _) (fun f => u _ _) (fun f => u _ _), elt_same (h := h) (h' := nw h kd len) (b := b) (u _ _) (u _ _) (u _ _)]
    rw [hc]
    exact q3.kept (o1 b (by rw [r1]; exact q2))
theorem nw_z {h : Hp} {kd len : Nat} {α : Type} {F : Nat → α} {w : α} : va_up F (hZ h) w (hZ h) = w := by unfold va_up; rw [if_pos rfl]
theorem nw_k {h : Hp} {kd len : Nat} : hK (nw h kd len) (hZ h) = (kd, len) := nw_z (h := h) (kd := kd) (len := len)
theorem va_S.new {A : Nat → Prop} {H0 H H1 : Heap} {locs : List Loc} (hS : va_S A H0 H locs) (z1 : H1.size = H.size + 1) (o1 : ∀ q : Nat, q < H.size → H1[q]? = H[q]?) : va_S A H0 H1 locs :=
  ⟨Nat.le_trans hS.1 (by omega), fun x h1 h2 => (o1 x (Nat.lt_of_lt_of_le h1 hS.1)).trans (hS.2.1 x h1 h2), hS.2.2⟩
def dfl : List Nat → List Value := fun l => l.map fun t => match t with
  | 0 => Value.int 0
  | 1 => Value.long 0
  | _ => Value.null
theorem flds_new {h : Hp} {ci : Nat} : flds (nw h ci 0) ci (hZ h) = dfl (fT ci) := by
  refine List.ext_getElem? fun j => ?_
  unfold dfl
  rw [List.getElem?_map]
  cases hj : (fT ci)[j]? with
  | none =>
    have hl := List.getElem?_eq_none_iff.mp hj
    rw [List.getElem?_eq_none_iff.mpr (by rw [flds_len]; exact hl)]
    rfl
  | some u =>
    rw [flds_at hj]
    have u0 : ∀ {α : Type} (F : Nat → α) (w : α), va_up F (hZ h) w (hZ h) = w := fun F w => by unfold va_up; rw [if_pos rfl]
    rcases u with _ | _ | u
    · exact congrArg (fun x => some (Value.int x)) (u0 _ _)
    · exact congrArg (fun x => some (Value.long x)) (u0 _ _)
    · exact congrArg (fun x => some (va_rf x)) (u0 _ _)
set_option maxHeartbeats 1000000 in
theorem aw_new (X : CXd D cy B p s m args c cc own nL) {C : String} {T : u_T} {N ci i : Nat} {h' : Hp} (hin : ∀ w ∈ u_ws C T N, w ∈ uT) (ty0 : Nat → FieldType) (hty : ∀ k, k < N → parseFieldDescriptor (T k).2.2.1 = some (ty0 k)) (hc : vwCl[ci]? = some (C, T, N)) (hlt : ci < 20) (hfs : ∀ j, j < N → defaultValue (ty0 j) = vp_V (dfl (fT ci)) j) (hw1 : Cond.classLink own i C ∈ uT) (hw2 : Cond.instantiable C N ∈ uT) (hw3 : Cond.initialized C ∈ uT) (hcells : k + 1 ≤ R.cells) (hslots : n + N ≤ R.slots) (eh : h' = nw h ci 0) (hd : decode cc pc = .ok (.new i, 3)) (kk : AWd D cy B p l e R s m args below meth c nL Q h' (k + 1) (n + N) (pc + 3) lv ((.ref (hZ h) :: st))) : AWd D cy B p l e R s m args below meth c nL Q h k n pc lv st := fun H locs ls r1 r2 r3 => by
  subst eh
  obtain ⟨hx, hb, -, hown, hts, hKG, -⟩ := X
  have hinT := hin
  have hKn := hKG.1.1 ci _ hc
  refine W.newcK hx hb hown (hts _ hw1) (hts _ hw2) (hts _ hw3) rfl hd hcells hslots hKn.2.1 r1.1 fun H1 kC hkC e1 z1 o1 => ?_
  rw [← r1.1] at z1 o1
  refine kk H1 locs ls (rep_new r1 z1 o1 (by omega) ?_) (r2.new z1 o1) r3
  rw [cell_obj (by rw [nw_k]) hlt]
  exact ⟨_, hc, (u_born ty0 hts hinT hKn hkC e1 hty).to (fun j hj => by rw [hfs j hj, flds_new])⟩
theorem elt_new {h : Hp} {kd len : Nat} : elt (nw h kd len) kd (hZ h) = (if kd = 22 then .inr (.inl (fun _ => 0)) else if kd < 24 then .inl (fun _ => 0) else .inr (.inr (.inr (.inr (fun _ => none))))) := by
  have u0 : ∀ {α : Type} (F : Nat → α) (w : α), va_up F (hZ h) w (hZ h) = w := fun F w => by unfold va_up; rw [if_pos rfl]
  unfold elt
  rw [show hA (nw h kd len) (hZ h) = (fun _ => 0) from u0 _ _, show hB (nw h kd len) (hZ h) = (fun _ => 0) from u0 _ _, show hC (nw h kd len) (hZ h) = (fun _ => none) from u0 _ _]
set_option maxHeartbeats 1000000 in
theorem aw_newa (X : CXd D cy B p s m args c cc own nL) {atype : ArrayType} {kd : Nat} {len : Int} {h' : Hp} (N1 cb : Nat) (hN1 : len.toNat = N1) (hcb : componentBytes (newarray.typeOf atype) = cb) (h1 : 20 ≤ kd) (h2 : kd ≤ 23) (hty : newarray.typeOf atype = tyOf kd) (hw : Cond.arrayClass (newarray.typeOf atype) ∈ uT) (hrg : rg len) (g : 0 ≤ len) (hdef : ∀ cA : ClassId, vp_cell cA (len.toNat, if kd = 22 then .inr (.inl (fun _ => 0)) else if kd < 24 then .inl (fun _ => 0) else .inr (.inr (.inr (.inr (fun _ => none))))) = arrV cA len.toNat (fun _ => defaultValue (newarray.typeOf atype))) (hbytes : N1 * cb ≤ 536870912) (hcells : k + 1 ≤ R.cells) (hslots : n + N1 ≤ R.slots) (eh : h' = nw h kd N1) (hd : decode cc pc = .ok (.newarray atype, 2)) (kk : AWd D cy B p l e R s m args below meth c nL Q h' (k + 1) (n + N1) (pc + 2) lv ((.ref (hZ h) :: st))) : AWd D cy B p l e R s m args below meth c nL Q h k n pc lv ((vI len :: st)) := fun H locs ls r1 r2 r3 => by
  subst eh
  subst hN1
  subst hcb
  refine va_newaK X.1 X.2.1 (X.2.2.2.2.1 _ hw) rfl hd rfl (by rw [Int32.lt_iff_toInt_lt, ti_of hrg]; simp; omega) (idx_nat hrg) hbytes hcells hslots r1.1 fun H1 cA e1 z1 o1 hAr hNm => ?_
  rw [← r1.1] at z1 o1
  refine kk H1 locs ls (rep_new r1 z1 o1 (by omega) ?_) (r2.new z1 o1) r3
  have hcA : cA = cy kd := by
    have h3 := (X.2.2.2.2.2.1.1.2 (kd - 20) _ (tysG_at h1 (by omega))).2
    have : s.vm.findClass ("[" ++ (tyOf kd).toString) = some (cy kd) := by
      have : kd = 20 ∨ kd = 21 ∨ kd = 22 ∨ kd = 23 := by omega
      rcases this with rfl | rfl | rfl | rfl <;> exact h3
    rw [← hty, hNm] at this
    exact Option.some.inj this
  subst hcA
  rw [cell_arr (kd := kd) (by rw [nw_k]) h1, nw_k, elt_new]
  show H1[hZ h]? = some (vp_cell _ _)
  rw [hdef]
  exact e1
set_option maxHeartbeats 1000000 in
theorem aw_newq (X : CXd D cy B p s m args c cc own nL) {C : String} {i kd : Nat} {len : Int} {h' : Hp} (N1 : Nat) (hN1 : len.toNat = N1) (h1 : 24 ≤ kd) (h2 : kd ≤ 27) (hty : tyOf kd = .object C) (hw : Cond.classLink own i C ∈ uT) (hao : KG D cy s → va_AO C s) (hrg : rg len) (g : 0 ≤ len) (hbytes : N1 * 4 ≤ 536870912) (hcells : k + 1 ≤ R.cells) (hslots : n + N1 ≤ R.slots) (eh : h' = nw h kd N1) (hd : decode cc pc = .ok (.anewarray i, 3)) (kk : AWd D cy B p l e R s m args below meth c nL Q h' (k + 1) (n + N1) (pc + 3) lv ((.ref (hZ h) :: st))) : AWd D cy B p l e R s m args below meth c nL Q h k n pc lv ((vI len :: st)) := fun H locs ls r1 r2 r3 => by
  subst eh
  subst hN1
  have hnn : (Int32.ofInt len).toNatClampNeg = len.toNat := idx_nat hrg
  refine W.anew X.1 X.2.1 X.2.2.2.1 (X.2.2.2.2.1 _ hw) (va_AO.use (hao X.2.2.2.2.2.1)) rfl hd rfl (by rw [Int32.lt_iff_toInt_lt, ti_of hrg]; simp; omega) (by rw [hnn]; exact hbytes) hcells (by rw [hnn]; exact hslots) fun cA kA comp f1 f2 f3 f4 => ?_
  rw [hnn]
  generalize hH1 : H.push ({ cls := cA, slots := Array.replicate len.toNat .null, vm := .none } : Cell) = H1
  have z1 : H1.size = H.size + 1 := by rw [← hH1, Array.size_push]
  have e1 : H1[H.size]? = some (arrV cA len.toNat (fun _ => .null)) := by rw [← hH1, Array.getElem?_push_size, ← arrV_new]
  have o1 : ∀ q : Nat, q < H.size → H1[q]? = H[q]? := fun q hq => by rw [← hH1, Array.getElem?_push, if_neg (Nat.ne_of_lt hq)]
  have hcA : cA = cy kd := by
    have h3 := (X.2.2.2.2.2.1.1.2 (kd - 20) _ (tysG_at (by omega) h2)).2
    rw [hty] at h3
    obtain ⟨kA', comp', g1, g2, g3, g4⟩ := h3
    rw [f1] at g4
    exact Option.some.inj g4
  subst hcA
  have hs : H.size = hZ h := r1.1
  rw [hs] at e1 ⊢
  refine kk H1 locs ls (rep_new r1 z1 o1 (by omega) ?_) (r2.new z1 o1) r3
  rw [cell_arr (kd := kd) (by rw [nw_k]) (by omega), nw_k, elt_new, if_neg (by omega), if_neg (by omega)]
  show H1[hZ h]? = some (vp_cell _ _)
  rw [vp_cell_q]
  exact e1
set_option maxHeartbeats 1000000 in
theorem aw_aast (X : CXd D cy B p s m args c cc own nL) {a kd ci v : Nat} {i : Int} {r : vw_C} {h' : Hp} (g : (hK h a).1 = kd) (h1 : 24 ≤ kd) (h2 : kd ≤ 27) (hty : tyOf kd = .object r.1) (gv : (hK h v).1 = ci) (hc : vwCl[ci]? = some r) (hlt : ci < 20) (hi : rg i) (g2 : inA i (hK h a).2) (eh : h' = sC h a i v) (hd : decode cc pc = .ok (.aastore, 1)) (kk : AWd D cy B p l e R s m args below meth c nL Q h' k n (pc + 1) lv st) : AWd D cy B p l e R s m args below meth c nL Q h k n pc lv ((.ref v :: vI i :: .ref a :: st)) := fun H locs ls r1 r2 r3 => by
  subst eh
  have hin := idx_in hi g2
  have hP := rep_arr r1 g (by omega) (by omega)
  rw [elt_r h1] at hP
  have hB9 : B ≤ a := (r1.2.2 a (by rw [g]; omega)).1
  have hlt9 : (Int32.ofInt i).toNatClampNeg < (hK h a).2 := Nat.not_le.mp fun q => hin (Or.inr q)
  have h0 : ¬ Int32.ofInt i < 0 := fun q => hin (Or.inl q)
  have hK9 := X.2.2.2.2.2.1.1
  obtain ⟨r', hr', cellV, g1, g22, g3, -⟩ := rep_obj r1 gv hlt 0 _ rfl
  have hcls := (hK9.1 ci r hc).2
  have h3 := (hK9.2 (kd - 20) _ (tysG_at (by omega) h2)).2
  rw [hty] at h3
  obtain ⟨kA, comp, k1, k2, k3, -⟩ := h3
  have hcomp : comp = D.1 ci := Option.some.inj (k3.symm.trans hcls.1)
  subst hcomp
  obtain ⟨kC, hkC, -⟩ := hcls.2
  refine W.aast X.1 X.2.1 (hP 0 _ rfl) (fun q h => by cases h) (fun h => by cases h) k1 k2 rfl hkC ⟨h0, by show _ < (arrV _ _ _).slots.size; rw [arrV_size]; exact hlt9⟩ g1 (fun q h => by rw [g3] at h; cases h) (by rw [g22]; exact hkC) (by rw [g22]; exact va_assign hcls) rfl rfl hd fun H1 e1 z oq => ?_
  refine kk H1 _ ls (rep_upd (a := a) (h' := sC h a i v) r1 z oq rfl rfl (fun b hb => cell_same (h := h) (h' := sC h a i v) (b := b) rfl (flds_same (fun _ => rfl) (fun _ => rfl) (fun _ => rfl)) (fun kd => elt_same (h := h) (h' := sC h a i v) (b := b) rfl rfl (up2_a hb) kd)) ?_) (r2.put z oq hB9) r3
  rw [cell_arr (show (hK (sC h a i v) a).1 = kd from g) (by omega), elt_r h1]
  show H1[a]? = some (vp_cell (cy kd) ((hK h a).2, .inr (.inr (.inr (.inr (up2 (hC h) a i.toNat (some v) a))))))
  rw [e1, up2_s]
  rw [vp_cell_q, vp_cell_q, arrV_store, idx_nat hi]
  congr 2
  funext q
  by_cases hq : q = i.toNat
  · subst hq
    simp [updV, va_up, va_rf]
  · simp [updV, va_up, hq]
end RETS
