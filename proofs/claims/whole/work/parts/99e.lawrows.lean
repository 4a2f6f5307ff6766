section LAWROWS
variable {D : va_G} {cy : Nat → ClassId} {B : Nat} {p : Program} {l : Launch} {e : Env} {R : Room} {s : State} {m : MethodId} {args : Array Value} {below : List Frame} {meth : Method} {c : Code} {nL : Nat} {Q : State → Prop} {h : Hp} {k n pc : Nat} {lv : List (Nat × Value)} {st : List Value} {cc : ByteArray} {own : String}
/-- the script: L ints at the old cell b -/
def LSc (s : State) (B b L : Nat) (xs : Nat → Int32) : Prop := va_X b L xs s s.heap ∧ b < s.heap.size ∧ b < B ∧ L ≤ 3072
def sx (xs : Nat → Int32) (i j : Nat) : Int := (xs (i + j)).toInt
theorem sx_rg {xs : Nat → Int32} {i j : Nat} : rg (sx xs i j) := ti_rg _
abbrev LVs (b X0 i : Nat) : List (Nat × Value) := [(3, vI (i : Int)), (0, .ref b), (1, .ref X0), (2, .ref (X0 + 121))]
theorem rg_nat {q : Nat} (h : q < 2147483648) : rg (q : Int) := by unfold rg; omega
theorem aw_sld (X : CXd D cy B p s m args c cc own nL) {b L q : Nat} {xs : Nat → Int32} (S : LSc s B b L xs) (hq : q < L) (hd : decode cc pc = .ok (.iaload, 1)) (kk : AWd D cy B p l e R s m args below meth c nL Q h k n (pc + 1) lv (vI (xs q).toInt :: st)) : AWd D cy B p l e R s m args below meth c nL Q h k n pc lv (vI (q : Int) :: .ref b :: st) := fun H locs ls r1 r2 r3 => by
  have hl := S.2.2.2
  have hr : rg (q : Int) := rg_nat (by omega)
  refine va_sld X.1 X.2.1 S.1 S.2.1 (Nat.not_le.mpr S.2.2.1) r2 (idx_in hr ⟨by omega, by omega⟩) hd ?_
  have z := kk H locs ls r1 r2 r3
  rw [idx_nat hr, Int.toNat_natCast]
  rw [vI_ti] at z
  exact z
theorem aw_sclen (X : CXd D cy B p s m args c cc own nL) {b L : Nat} {xs : Nat → Int32} (S : LSc s B b L xs) (hd : decode cc pc = .ok (.arraylength, 1)) (kk : AWd D cy B p l e R s m args below meth c nL Q h k n (pc + 1) lv (vI (L : Int) :: st)) : AWd D cy B p l e R s m args below meth c nL Q h k n pc lv (.ref b :: st) := fun H locs ls r1 r2 r3 => by
  refine va_slen X.1 X.2.1 S.1 S.2.1 (Nat.not_le.mpr S.2.2.1) r2 hd ?_
  have z := kk H locs ls r1 r2 r3
  unfold vI at z
  rw [Int32.ofInt_eq_ofNat] at z
  exact z
theorem aw_word (X : CXd D cy B p s m args c cc own nL) {b X0 L i : Nat} {xs : Nat → Int32} (S : LSc s B b L xs) (hi : i + 6 ≤ L) (j : Nat) (hj : j ≤ 5) {jx : Int} (ej : jx = (j : Int)) (d0 : decode cc pc = .ok (.aload_n 0, 1)) (d1 : decode cc (pc + 1) = .ok (.iload_n 3, 1)) (d2 : decode cc (pc + 2) = .ok (.iconst jx, 1)) (d3 : decode cc (pc + 3) = .ok (.iadd, 1)) (d4 : decode cc (pc + 4) = .ok (.iaload, 1)) (kk : AWd D cy B p l e R s m args below meth c nL Q h k n (pc + 5) (LVs b X0 i) (vI (sx xs i j) :: st)) : AWd D cy B p l e R s m args below meth c nL Q h k n pc (LVs b X0 i) st := by
  subst ej
  have hl := S.2.2.2
  refine aw_aload_n X d0 1 rfl ?_
  refine aw_iload_n X d1 0 rfl ?_
  refine aw_iconst X d2 ?_
  refine aw_iadd X d3 ?_
  have e : w32 ((i : Int) + (j : Int)) = ((i + j : Nat) : Int) := by rw [w32_id (by omega) (by omega)]; omega
  rw [e]
  exact aw_sld X S (by omega) d4 kk
theorem lw_rm {k n a b : Nat} (h : k + a ≤ 600000 ∧ n + b ≤ 7302250) : k + a ≤ room_1.cells ∧ n + b ≤ room_1.slots := h
end LAWROWS
