section CALLS
variable {D : va_G} {cy : Nat → ClassId} {B : Nat} {p : Program} {l : Launch} {e : Env} {R : Room} {s : State} {m : MethodId} {args : Array Value} {below : List Frame} {meth : Method} {c : Code} {nL : Nat} {Q : State → Prop} {h : Hp} {k n pc : Nat} {lv : List (Nat × Value)} {st : List Value} {cc : ByteArray} {own : String}

theorem KG.same {u U : State} (hvm : u.vm = U.vm) (hK : KG D cy u) : KG D cy U :=
  have hA : u.vm.Alike U.vm := hvm ▸ Vm.Alike.refl u.vm
  ⟨va_K.moved hA hK.1, ⟨va_AO.moved hA hK.2.1.1, va_AO.moved hA hK.2.1.2.1, va_AO.moved hA hK.2.1.2.2.1, va_AO.moved hA hK.2.1.2.2.2⟩, fun q hq => va_Nw.same rfl hvm (hK.2.2 q hq)⟩
theorem pc_blind {av : List Value} : FrameBlind (PcD D cy B av h) := fun _ U g mk q => ⟨q.1, q.2.1, KG.same (u := U) (U := U.calling g mk _) rfl q.2.2.1, KS.same (u := U) (U := U.calling g mk _) rfl rfl q.2.2.2⟩
theorem aw_run {mc ms : Nat} {rest st0 : List Value} {r : Option Value} {h' : Hp} {av : Array Value} (hrun : ∀ (H : Heap) (locs : List Loc) (ls : Array Slot), Rep D cy B h H → va_S (fun q => B ≤ q) s.heap H locs → lv_has ls nL lv → va_Run p l e R s m args below meth c H locs k n mc ms (F0 m pc ls st0) rest (QcD D cy B r h' av) (fun q => B ≤ q)) (kk : AWd D cy B p l e R s m args below meth c nL Q h' (k + mc) (n + ms) (pc + 3) lv ((r.toList ++ rest))) : AWd D cy B p l e R s m args below meth c nL Q h k n pc lv st0 := fun H locs ls r1 r2 r3 T hT X9 => by
  obtain ⟨v, st₀, t, T', L, h0, X', hL, e1, e2, ⟨hv, hrep, hz, hk⟩, stp⟩ := hrun H locs ls r1 r2 r3 T hT X9
  cases hv
  rw [h0] at hz hk
  obtain ⟨t2, a1, b1⟩ := kk T'.heap (locs ++ L) ls (by rw [e1]; exact hrep)
    ⟨Nat.le_trans r2.1 (by rw [e1]; exact hz), fun q h1 h2 => by rw [e1, hk q (Nat.lt_of_lt_of_le h1 r2.1) h2]; exact r2.2.1 q h1 h2, fun q hq => by
      rcases List.mem_append.mp hq with h | h
      · exact r2.2.2 q h
      · exact hL q h⟩ r3 T' rfl X'
  exact ⟨t2, stp t2 a1, b1⟩
/-- a method by its words: its name, its code's place in the tables -/
def mw (y : MethodName) (bytes : ByteArray) (maxL : Nat) (ret : Option FieldType) (np : Nat) : Prop := Cond.code y bytes maxL ret ∈ uT ∧ Cond.initialized y.cls ∈ uT ∧ (y.cls ≠ "java/lang/invoke/MethodHandle" ∧ y.cls ≠ "java/lang/invoke/VarHandle") ∧ (parseMethodDescriptor y.desc).map (fun d => d.parameters.length) = some np
variable {y : MethodName} {bytes : ByteArray} {maxL np mc ms F L index : Nat} {ret : Option FieldType} {As rest : List Value} {r : Option Value} {h' : Hp}
theorem cb_of (X : CXd D cy B p s m args c cc own nL) (hm : mw y bytes maxL ret np) (hl : Cond.methodLink own index y ∈ uT) (hR : F + 1 ≤ R.frames ∧ 8 + (maxL + 11) + L ≤ R.locals) : CallB R s args own index y bytes maxL ret (.code y bytes maxL ret :: uT) { frames := F, cells := mc, slots := ms, locals := L } mc ms np :=
  callB_of np X.2.2.2.2.1 (uT_goodIn hm.1) rfl rfl rfl (X.2.2.2.2.1 _ hm.2.1) (X.2.2.2.2.1 _ hl) ⟨hm.2.2.1.1, hm.2.2.1.2, hm.2.2.2⟩ hR
theorem cn_of (X : CXd D cy B p s m args c cc own nL) {host : String} (hm : mw y bytes maxL ret np) (hl : (own, index, y, host) ∈ nwL) (hR : F + 1 ≤ R.frames ∧ 8 + (maxL + 11) + L ≤ R.locals) : va_CN R s args own index y host bytes maxL ret (.code y bytes maxL ret :: uT) { frames := F, cells := mc, slots := ms, locals := L } mc ms np :=
  va_cnB np X.2.2.2.2.1 (uT_goodIn hm.1) rfl rfl rfl (X.2.2.2.2.2.1.2.2 _ hl) (X.2.2.2.2.1 _ hm.2.1) ⟨hm.2.2.1.1, hm.2.2.1.2, hm.2.2.2⟩ hR
theorem cf_of (X : CXd D cy B p s m args c cc own nL) : CallFix p m c cc nL s args uT own := ⟨X.1, X.2.1, X.2.2.1, X.2.2.2.1, X.2.2.2.2.1⟩
theorem aw_invV (X : CXd D cy B p s m args c cc own nL) {b ci : Nat} {C : String} {T : u_T} {N : Nat} (hM : CT D cy B l y bytes maxL ret F L mc ms (.ref b :: As) h r h') (hm : mw y bytes maxL ret np) (hl : Cond.methodLink own index y ∈ uT) (hi : Cond.instanceMethod y ∈ uT) (hs : Cond.selects C y y ∈ uT) (g : (hK h b).1 = ci) (hc : vwCl[ci]? = some (C, T, N)) (hlt : ci < 20) (hn : As.length = np) (hR : F + 1 ≤ R.frames ∧ 8 + (maxL + 11) + L ≤ R.locals) (hst : As.reverse ++ .ref b :: rest = st) (hcat : (rest.map fun v => v.category).sum ≤ 8) (hroom : k + mc ≤ R.cells ∧ n + ms ≤ R.slots) (hd : decode cc pc = .ok (.invokevirtual index, 3)) (kk : AWd D cy B p l e R s m args below meth c nL Q h' (k + mc) (n + ms) (pc + 3) lv ((r.toList ++ rest))) : AWd D cy B p l e R s m args below meth c nL Q h k n pc lv st :=
  aw_run (fun H locs ls r1 r2 r3 => va_runV (As := As) (rest := rest) (cf_of X) hM ⟨cb_of X hm hl hR, X.2.2.2.2.1 _ hi, X.2.2.2.2.1 _ hs⟩ ⟨pc_blind, va_recv (ci := ci) (q0 := 0) (fs := flds h ci b) (a := b) X.2.2.2.2.2.1.1 (rep_obj r1 g hlt) hc rfl, fun U hU hW => ⟨rfl, by rw [hU]; exact r1, KG.warm hW X.2.2.2.2.2.1, by rw [hU]; exact KS.go hW r2.2.1 X.2.2.2.2.2.2.2⟩⟩ rfl hn r3.1 hst.symm (lv_room hcat) hd hroom) kk
theorem aw_invI (X : CXd D cy B p s m args c cc own nL) {b : Nat} (hM : CT D cy B l y bytes maxL none F L mc ms (.ref b :: As) h r h') (hm : mw y bytes maxL none np) (hl : Cond.methodLink own index y ∈ uT) (hi : Cond.instanceMethod y ∈ uT) (hy1 : y.name = "<init>") (hn : As.length = np) (hR : F + 1 ≤ R.frames ∧ 8 + (maxL + 11) + L ≤ R.locals) (hst : As.reverse ++ .ref b :: rest = st) (hcat : (rest.map fun v => v.category).sum ≤ 8) (hroom : k + mc ≤ R.cells ∧ n + ms ≤ R.slots) (hd : decode cc pc = .ok (.invokespecial index, 3)) (kk : AWd D cy B p l e R s m args below meth c nL Q h' (k + mc) (n + ms) (pc + 3) lv ((r.toList ++ rest))) : AWd D cy B p l e R s m args below meth c nL Q h k n pc lv st :=
  aw_run (fun H locs ls r1 r2 r3 => va_runI (As := As) (rest := rest) (cf_of X) hM ⟨cb_of X hm hl hR, hy1, X.2.2.2.2.1 _ hi⟩ ⟨pc_blind, fun U hU hW => ⟨rfl, by rw [hU]; exact r1, KG.warm hW X.2.2.2.2.2.1, by rw [hU]; exact KS.go hW r2.2.1 X.2.2.2.2.2.2.2⟩⟩ rfl hn r3.1 hst.symm (lv_room hcat) hd hroom) kk
theorem aw_invIN (X : CXd D cy B p s m args c cc own nL) {b : Nat} {host : String} (hM : CT D cy B l y bytes maxL none F L mc ms (.ref b :: As) h r h') (hm : mw y bytes maxL none np) (hl : (own, index, y, host) ∈ nwL) (hi : Cond.instanceMethod y ∈ uT) (hy1 : y.name = "<init>") (hn : As.length = np) (hR : F + 1 ≤ R.frames ∧ 8 + (maxL + 11) + L ≤ R.locals) (hst : As.reverse ++ .ref b :: rest = st) (hcat : (rest.map fun v => v.category).sum ≤ 8) (hroom : k + mc ≤ R.cells ∧ n + ms ≤ R.slots) (hd : decode cc pc = .ok (.invokespecial index, 3)) (kk : AWd D cy B p l e R s m args below meth c nL Q h' (k + mc) (n + ms) (pc + 3) lv ((r.toList ++ rest))) : AWd D cy B p l e R s m args below meth c nL Q h k n pc lv st :=
  aw_run (fun H locs ls r1 r2 r3 => va_runIN (As := As) (rest := rest) (cf_of X) hM ⟨cn_of X hm hl hR, hy1, X.2.2.2.2.1 _ hi⟩ ⟨pc_blind, fun U hU hW => ⟨rfl, by rw [hU]; exact r1, KG.warm hW X.2.2.2.2.2.1, by rw [hU]; exact KS.go hW r2.2.1 X.2.2.2.2.2.2.2⟩⟩ rfl hn r3.1 hst.symm (lv_room hcat) hd hroom) kk
theorem aw_invS (X : CXd D cy B p s m args c cc own nL) (hM : CT D cy B l y bytes maxL ret F L mc ms As h r h') (hm : mw y bytes maxL ret np) (hl : Cond.methodLink own index y ∈ uT) (hi : Cond.static y ∈ uT) (hn : As.length = np) (hR : F + 1 ≤ R.frames ∧ 8 + (maxL + 11) + L ≤ R.locals) (hst : As.reverse ++ rest = st) (hcat : (rest.map fun v => v.category).sum ≤ 8) (hroom : k + mc ≤ R.cells ∧ n + ms ≤ R.slots) (hd : decode cc pc = .ok (.invokestatic index, 3)) (kk : AWd D cy B p l e R s m args below meth c nL Q h' (k + mc) (n + ms) (pc + 3) lv ((r.toList ++ rest))) : AWd D cy B p l e R s m args below meth c nL Q h k n pc lv st :=
  aw_run (fun H locs ls r1 r2 r3 => va_runS (As := As) (rest := rest) (cf_of X) hM ⟨cb_of X hm hl hR, X.2.2.2.2.1 _ hi⟩ ⟨pc_blind, fun U hU hW => ⟨rfl, by rw [hU]; exact r1, KG.warm hW X.2.2.2.2.2.1, by rw [hU]; exact KS.go hW r2.2.1 X.2.2.2.2.2.2.2⟩⟩ rfl hn r3.1 hst.symm (lv_room hcat) hd hroom) kk
theorem aw_invSN (X : CXd D cy B p s m args c cc own nL) {host : String} (hM : CT D cy B l y bytes maxL ret F L mc ms As h r h') (hm : mw y bytes maxL ret np) (hl : (own, index, y, host) ∈ nwL) (hi : Cond.static y ∈ uT) (hn : As.length = np) (hR : F + 1 ≤ R.frames ∧ 8 + (maxL + 11) + L ≤ R.locals) (hst : As.reverse ++ rest = st) (hcat : (rest.map fun v => v.category).sum ≤ 8) (hroom : k + mc ≤ R.cells ∧ n + ms ≤ R.slots) (hd : decode cc pc = .ok (.invokestatic index, 3)) (kk : AWd D cy B p l e R s m args below meth c nL Q h' (k + mc) (n + ms) (pc + 3) lv ((r.toList ++ rest))) : AWd D cy B p l e R s m args below meth c nL Q h k n pc lv st :=
  aw_run (fun H locs ls r1 r2 r3 => va_runSN (As := As) (rest := rest) (cf_of X) hM ⟨cn_of X hm hl hR, X.2.2.2.2.1 _ hi, trivial⟩ ⟨pc_blind, fun U hU hW => ⟨rfl, by rw [hU]; exact r1, KG.warm hW X.2.2.2.2.2.1, by rw [hU]; exact KS.go hW r2.2.1 X.2.2.2.2.2.2.2⟩⟩ rfl hn r3.1 hst.symm (lv_room hcat) hd hroom) kk
/-- Math.min, Math.max -/
theorem aw_mmin (X : CXd D cy B p s m args c cc own nL) {a b : Int} {i : Nat} (ha : rg a) (hb : rg b) (hw1 : Cond.methodLink own i Lib.Math.min.name ∈ uT) (hw2 : Cond.static Lib.Math.min.name ∈ uT) (hw3 : Cond.initialized "java/lang/Math" ∈ uT) (hw4 : Cond.code Lib.Math.min.name Lib.Math.min.code 2 (some .int) ∈ uT) (hf : 1 ≤ R.frames) (hlo : (st.map fun v => v.category).sum + 13 ≤ R.locals) (hc : k ≤ R.cells) (hs : n ≤ R.slots) (hd : decode cc pc = .ok (.invokestatic i, 3)) (kk : AWd D cy B p l e R s m args below meth c nL Q h k n (pc + 3) lv ((vI (min a b) :: st))) : AWd D cy B p l e R s m args below meth c nL Q h k n pc lv ((vI b :: vI a :: st)) := fun H locs ls r1 r2 r3 =>
  va_mmin X.1 X.2.1 (by rw [X.2.2.1, r3.1]) X.2.2.2.1 (X.2.2.2.2.1 _ hw1) (X.2.2.2.2.1 _ hw2) (X.2.2.2.2.1 _ hw3) (X.2.2.2.2.1 _ hw4) hf hlo hc hs hd (by
    have q := kk H locs ls r1 r2 r3
    have e9 : Int32.ofInt (min a b) = if Int32.ofInt b < Int32.ofInt a then Int32.ofInt b else Int32.ofInt a := by
      by_cases z : b < a
      · rw [if_pos ((ofI_lt hb ha).mpr z), Int.min_eq_right (by omega)]
      · rw [if_neg (fun w => z ((ofI_lt hb ha).mp w)), Int.min_eq_left (by omega)]
    unfold vI at q
    rw [e9] at q
    exact q)
theorem aw_mmax (X : CXd D cy B p s m args c cc own nL) {a b : Int} {i : Nat} (ha : rg a) (hb : rg b) (hw1 : Cond.methodLink own i Lib.Math.max.name ∈ uT) (hw2 : Cond.static Lib.Math.max.name ∈ uT) (hw3 : Cond.initialized "java/lang/Math" ∈ uT) (hw4 : Cond.code Lib.Math.max.name Lib.Math.max.code 2 (some .int) ∈ uT) (hf : 1 ≤ R.frames) (hlo : (st.map fun v => v.category).sum + 13 ≤ R.locals) (hc : k ≤ R.cells) (hs : n ≤ R.slots) (hd : decode cc pc = .ok (.invokestatic i, 3)) (kk : AWd D cy B p l e R s m args below meth c nL Q h k n (pc + 3) lv ((vI (max a b) :: st))) : AWd D cy B p l e R s m args below meth c nL Q h k n pc lv ((vI b :: vI a :: st)) := fun H locs ls r1 r2 r3 =>
  va_mmax X.1 X.2.1 (by rw [X.2.2.1, r3.1]) X.2.2.2.1 (X.2.2.2.2.1 _ hw1) (X.2.2.2.2.1 _ hw2) (X.2.2.2.2.1 _ hw3) (X.2.2.2.2.1 _ hw4) hf hlo hc hs hd (by
    have q := kk H locs ls r1 r2 r3
    have e9 : Int32.ofInt (max a b) = if Int32.ofInt a < Int32.ofInt b then Int32.ofInt b else Int32.ofInt a := by
      by_cases z : a < b
      · rw [if_pos ((ofI_lt ha hb).mpr z), Int.max_eq_right (by omega)]
      · rw [if_neg (fun w => z ((ofI_lt ha hb).mp w)), Int.max_eq_left (by omega)]
    unfold vI at q
    rw [e9] at q
    exact q)
end CALLS
