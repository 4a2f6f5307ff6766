theorem hdef20 (N : Nat) (cA : ClassId) : vp_cell cA (N, if 20 = 22 then .inr (.inl (fun _ => 0)) else if 20 < 24 then .inl (fun _ => 0) else .inr (.inr (.inr (.inr (fun _ => none))))) = arrV cA N (fun _ => defaultValue (newarray.typeOf .byte)) := rfl
theorem hdef21 (N : Nat) (cA : ClassId) : vp_cell cA (N, if 21 = 22 then .inr (.inl (fun _ => 0)) else if 21 < 24 then .inl (fun _ => 0) else .inr (.inr (.inr (.inr (fun _ => none))))) = arrV cA N (fun _ => defaultValue (newarray.typeOf .int)) := rfl
theorem hdef22 (N : Nat) (cA : ClassId) : vp_cell cA (N, if 22 = 22 then .inr (.inl (fun _ => 0)) else if 22 < 24 then .inl (fun _ => 0) else .inr (.inr (.inr (.inr (fun _ => none))))) = arrV cA N (fun _ => defaultValue (newarray.typeOf .long)) := rfl
theorem hdef23 (N : Nat) (cA : ClassId) : vp_cell cA (N, if 23 = 22 then .inr (.inl (fun _ => 0)) else if 23 < 24 then .inl (fun _ => 0) else .inr (.inr (.inr (.inr (fun _ => none))))) = arrV cA N (fun _ => defaultValue (newarray.typeOf .boolean)) := rfl
def labs (a : Int) : Int := (if 0 < Int64.ofInt a then Int64.ofInt a else -Int64.ofInt a).toInt
def cpB (h : Hp) (a0 : Nat) (sp : Int) (a : Nat) (dp len : Int) : Hp := mkH (hZ h) (hK h) (hI h) (hJ h) (hR h) (hA h) (va_up (hB h) a (va_cpy (hB h a0) (hB h a) sp.toNat dp.toNat len.toNat)) (hC h)
theorem kp_cp {h h1 : Hp} {a0 a : Nat} {sp dp len : Int} (e : h1 = cpB h a0 sp a dp len) : hK h1 = hK h := by rw [e]; rfl
section SPEC
variable {D : va_G} {cy : Nat → ClassId} {B : Nat} {p : Program} {l : Launch} {e : Env} {R : Room} {s : State} {m : MethodId} {args : Array Value} {below : List Frame} {meth : Method} {c : Code} {nL : Nat} {Q : State → Prop} {h : Hp} {k n pc : Nat} {lv : List (Nat × Value)} {st : List Value} {cc : ByteArray} {own : String}

theorem aw_labs (X : CXd D cy B p s m args c cc own nL) {a : Int} {i : Nat} (hw1 : Cond.methodLink own i Lib.MathLoose.abs_long.x ∈ uT) (hw2 : Cond.static Lib.MathLoose.abs_long.x ∈ uT) (hw3 : Cond.initialized "java/lang/Math" ∈ uT) (hw4 : Cond.code Lib.MathLoose.abs_long.x Lib.MathLoose.abs_long.code 2 (some .long) ∈ uT) (hf : 1 ≤ R.frames) (hlo : (st.map fun v => v.category).sum + 13 ≤ R.locals) (hc : k ≤ R.cells) (hs : n ≤ R.slots) (hd : decode cc pc = .ok (.invokestatic i, 3)) (kk : AWd D cy B p l e R s m args below meth c nL Q h k n (pc + 3) lv ((vJ (labs a) :: st))) : AWd D cy B p l e R s m args below meth c nL Q h k n pc lv ((vJ a :: st)) := fun H locs ls r1 r2 r3 =>
  va_mabs_long X.1 X.2.1 (by rw [X.2.2.1, r3.1]) X.2.2.2.1 (X.2.2.2.2.1 _ hw1) (X.2.2.2.2.1 _ hw2) (X.2.2.2.2.1 _ hw3) (X.2.2.2.2.1 _ hw4) hf hlo hc hs hd (by
    have q := kk H locs ls r1 r2 r3
    unfold labs at q
    rw [vJ_ti] at q
    exact q)
set_option maxHeartbeats 2000000 in
theorem aw_copyl (X : CXd D cy B p s m args c cc own nL) {i a0 a : Nat} {sp dp len : Int} {h' : Hp} (g0 : (hK h a0).1 = 22) (g1 : (hK h a).1 = 22) (q1 : rg sp) (q2 : rg dp) (q3 : rg len) (gg : 0 ≤ sp ∧ 0 ≤ dp ∧ 0 ≤ len ∧ sp + len ≤ ((hK h a0).2 : Int) ∧ dp + len ≤ ((hK h a).2 : Int)) (hw1 : Cond.methodLink own i arraycopyName ∈ uT) (hw0 : Cond.native arraycopyName ∈ uT) (hw2 : Cond.static arraycopyName ∈ uT) (hw3 : Cond.initialized "java/lang/System" ∈ uT) (hf : 1 ≤ R.frames) (hlo : (st.map fun v => v.category).sum + (nativeFrameWords "java/lang/System" "arraycopy" 5 + 11) ≤ R.locals) (eh : h' = cpB h a0 sp a dp len) (hd : decode cc pc = .ok (.invokestatic i, 3)) (kk : AWd D cy B p l e R s m args below meth c nL Q h' k n (pc + 3) lv st) : AWd D cy B p l e R s m args below meth c nL Q h k n pc lv ((vI len :: vI dp :: .ref a :: vI sp :: .ref a0 :: st)) := fun H locs ls r1 r2 r3 => by
  subst eh
  have hB9 : B ≤ a := (r1.2.2 a (by rw [g1]; omega)).1
  have hc0 := rep_arr r1 g0 (by omega) (by omega) 0 _ rfl
  have hc1 := rep_arr r1 g1 (by omega) (by omega) 0 _ rfl
  have nz : ∀ {x : Int}, rg x → 0 ≤ x → ¬ Int32.ofInt x < 0 := fun hx h0 z => by rw [Int32.lt_iff_toInt_lt, ti_of hx] at z; simp at z; omega
  intro T hT X9
  obtain ⟨-, k0, hk0, cm0, hkk0⟩ := (X.2.2.2.2.2.1.1.2 2 _ rfl).1 (hK h a0).2 (fun j => .long (hB h a0 j))
  obtain ⟨-, k1, hk1, cm1, hkk1⟩ := (X.2.2.2.2.2.1.1.2 2 _ rfl).1 (hK h a).2 (fun j => .long (hB h a j))
  obtain ⟨vm', X', step⟩ := X9.arraycopy X.1 X.2.2.2.1 (X.2.2.2.2.1 _ hw1) (X.2.2.2.2.1 _ hw0) (X.2.2.2.2.1 _ hw2) (X.2.2.2.2.1 _ hw3) (src := a0) (dst := a) (cs := vp_cell (cy 22) ((hK h a0).2, .inr (.inl (hB h a0)))) (cd := vp_cell (cy 22) ((hK h a).2, .inr (.inl (hB h a)))) (srcPos := Int32.ofInt sp) (destPos := Int32.ofInt dp) (n := Int32.ofInt len) (by rw [hT]; exact hc0) (by rw [hT]; exact hc1)
    (fun _ h => by cases h) (fun _ h => by cases h) (fun h => by cases h) (fun h => by cases h) hk0 hk1 hkk0 hkk1 (by simp [tyOf, refKind]) (nz q1 gg.1) (nz q2 gg.2.1) (nz q3 gg.2.2.1)
    (by rw [ti_of q1, ti_of q3]; show ¬ _ > ((arrV (cy 22) (hK h a0).2 (fun j => .long (hB h a0 j))).slots.size : Int); rw [arrV_size]; omega)
    (by rw [ti_of q2, ti_of q3]; show ¬ _ > ((arrV (cy 22) (hK h a).2 (fun j => .long (hB h a j))).slots.size : Int); rw [arrV_size]; omega)
    (fun vm₁ _ i hi => by
      rw [idx_nat q3] at hi
      rw [idx_nat q1]
      have e : (vp_cell (cy 22) ((hK h a0).2, .inr (.inl (hB h a0)))).slots.getD (sp.toNat + i) .null = .long (hB h a0 (sp.toNat + i)) := by
        show (arrV (cy 22) (hK h a0).2 (fun j => .long (hB h a0 j))).slots.getD _ _ = _
        rw [Array.getD_eq_getD_getElem?, arrV_read _ _ (by omega)]
        rfl
      refine ⟨?_, ?_⟩
      · rw [e]
        rfl
      · rw [e]
        exact trivial)
    (g := F0 m pc ls (vI len :: vI dp :: .ref a :: vI sp :: .ref a0 :: st)) rfl (by rw [X.2.2.1, r3.1]) (rest := st) rfl (by rw [X.2.1]; exact hd) hf (by show 2 * 0 + _ + _ ≤ _; omega)
  have e1 : copied (vp_cell (cy 22) ((hK h a0).2, .inr (.inl (hB h a0)))) (vp_cell (cy 22) ((hK h a).2, .inr (.inl (hB h a)))) (Int32.ofInt sp) (Int32.ofInt dp) (Int32.ofInt len) = vp_cell (cy 22) ((hK h a).2, .inr (.inl (va_cpy (hB h a0) (hB h a) sp.toNat dp.toNat len.toNat))) := by
    have q : copied (vp_cell (cy 22) ((hK h a0).2, .inr (.inl (hB h a0)))) (vp_cell (cy 22) ((hK h a).2, .inr (.inl (hB h a)))) (Int32.ofInt sp) (Int32.ofInt dp) (Int32.ofInt len) = vp_cell (cy 22) ((hK h a).2, .inr (.inl (va_cpy (hB h a0) (hB h a) (Int32.ofInt sp).toNatClampNeg (Int32.ofInt dp).toNatClampNeg (Int32.ofInt len).toNatClampNeg))) := va_copied (fun z => .long z) (cy 22) (cy 22) (hB h a0) (hB h a) (by rw [idx_nat q1, idx_nat q3]; omega)
    rw [idx_nat q1, idx_nat q2, idx_nat q3] at q
    exact q
  rw [e1] at X' step
  generalize hcl : vp_cell (cy 22) ((hK h a).2, .inr (.inl (va_cpy (hB h a0) (hB h a) sp.toNat dp.toNat len.toNat))) = cl at X' step
  have hl : a < H.size := (Array.getElem?_eq_some_iff.mp hc1).1
  have hheap : ((T.setVm vm').setCell a cl).heap = H.setIfInBounds a cl := by rw [← hT]; rfl
  have oq : ∀ q : Nat, q ≠ a → (H.setIfInBounds a cl)[q]? = H[q]? := fun q hq => by simp [Array.getElem?_setIfInBounds, Ne.symm hq]
  obtain ⟨t, a1, b1⟩ := kk _ _ ls (rep_upd (a := a) (h' := cpB h a0 sp a dp len) r1 (by simp) oq rfl rfl (fun b hb => cell_same (h := h) (h' := cpB h a0 sp a dp len) (b := b) rfl (flds_same (fun _ => rfl) (fun _ => rfl) (fun _ => rfl)) (fun kd => elt_same (h := h) (h' := cpB h a0 sp a dp len) (b := b) rfl (show va_up (hB h) a _ b = hB h b by unfold va_up; rw [if_neg hb]) rfl kd)) (by
      rw [cell_arr (show (hK (cpB h a0 sp a dp len) a).1 = 22 from g1) (by omega)]
      show (H.setIfInBounds a cl)[a]? = some (vp_cell (cy 22) ((hK h a).2, .inr (.inl (va_up (hB h) a (va_cpy (hB h a0) (hB h a) sp.toNat dp.toNat len.toNat) a))))
      rw [show va_up (hB h) a (va_cpy (hB h a0) (hB h a) sp.toNat dp.toNat len.toNat) a = va_cpy (hB h a0) (hB h a) sp.toNat dp.toNat len.toNat by unfold va_up; rw [if_pos rfl], hcl]
      simp [Array.getElem?_setIfInBounds, hl])) ⟨by simp; exact r2.1, fun q z1 z2 => by
      rw [oq q (fun e => z2 (by rw [e]; exact hB9))]
      exact r2.2.1 q z1 z2, fun q hq => by
      rcases List.mem_append.mp hq with h | h
      · exact r2.2.2 q h
      · obtain ⟨z, -, hz⟩ := List.mem_map.mp h
        rw [← hz]
        exact hB9⟩ r3 _ hheap X'
  exact ⟨t, step t a1, b1⟩
end SPEC
