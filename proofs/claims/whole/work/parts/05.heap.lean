theorem flds_at {h : Hp} {ci a k t : Nat} (hk : (fT ci)[k]? = some t) : (flds h ci a)[k]? = some (fv h ci a (t, k)) := by
  unfold flds
  rw [List.getElem?_map, List.getElem?_zipIdx, hk]
  simp
theorem flds_len {h : Hp} {ci a : Nat} : (flds h ci a).length = (fT ci).length := by unfold flds; simp
theorem up2_ne {α : Type} {F : Nat → Nat → α} {i j i' j' : Nat} {v : α} (h : i' ≠ i ∨ j' ≠ j) : up2 F i j v i' j' = F i' j' := by
  unfold up2 va_up
  by_cases hi : i' = i
  · subst hi
    rw [if_pos rfl]
    rcases h with h | h
    · exact absurd rfl h
    · rw [if_neg h]
  · rw [if_neg hi]
theorem up2_eq {α : Type} {F : Nat → Nat → α} {i j : Nat} {v : α} : up2 F i j v i j = v := by simp [up2, va_up]
/-- a heap that holds the same but for one cell -/
theorem rep_upd {D : va_G} {cy : Nat → ClassId} {B : Nat} {h h' : Hp} {H H1 : Heap} {a : Nat} (r : Rep D cy B h H) (e2 : H1.size = H.size) (e3 : ∀ q : Nat, q ≠ a → H1[q]? = H[q]?) (hz : hZ h' = hZ h) (hk : hK h' = hK h) (hc : ∀ b, b ≠ a → cellOf cy h' b = cellOf cy h b) (ha : va_at D vwCl (a, cellOf cy h' a) H1) : Rep D cy B h' H1 := by
  obtain ⟨r1, r2, r3⟩ := r
  refine ⟨by rw [e2, r1, hz], by rw [hz]; exact r2, fun b hb => ?_⟩
  rw [hk] at hb
  obtain ⟨q1, q2, q3⟩ := r3 b hb
  refine ⟨q1, by rw [hz]; exact q2, ?_⟩
  by_cases e : b = a
  · subst e; exact ha
  · rw [hc b e]; exact q3.kept (e3 b e)
theorem cell_obj {cy : Nat → ClassId} {h : Hp} {a ci : Nat} (g : (hK h a).1 = ci) (hc : ci < 20) : cellOf cy h a = .inr (ci, flds h ci a) := by
  unfold cellOf; rw [g, if_pos hc]
theorem cell_arr {cy : Nat → ClassId} {h : Hp} {a kd : Nat} (g : (hK h a).1 = kd) (hc : 20 ≤ kd) : cellOf cy h a = .inl (cy kd, (hK h a).2, elt h kd a) := by
  unfold cellOf; rw [g, if_neg (by omega)]
theorem rep_obj {D : va_G} {cy : Nat → ClassId} {B : Nat} {h : Hp} {H : Heap} {a ci : Nat} (r : Rep D cy B h H) (g : (hK h a).1 = ci) (hc : ci < 20) : va_P D vwCl [(a, .inr (ci, flds h ci a))] H := by
  intro k q hk
  have q3 := (r.2.2 a (by rw [g]; omega)).2.2
  rw [cell_obj g hc] at q3
  cases k with
  | zero => cases hk; exact q3
  | succ k => cases hk
theorem rep_arr {D : va_G} {cy : Nat → ClassId} {B : Nat} {h : Hp} {H : Heap} {a kd : Nat} (r : Rep D cy B h H) (g : (hK h a).1 = kd) (hc : 20 ≤ kd) (hd : kd < 99) : va_P D vwCl [(a, .inl (cy kd, (hK h a).2, elt h kd a))] H := by
  intro k q hk
  have q3 := (r.2.2 a (by rw [g]; omega)).2.2
  rw [cell_arr g hc] at q3
  cases k with
  | zero => cases hk; exact q3
  | succ k => cases hk
theorem elt_i {h : Hp} {kd a : Nat} (h1 : kd = 20 ∨ kd = 21 ∨ kd = 23) : elt h kd a = .inl (hA h a) := by rcases h1 with rfl | rfl | rfl <;> rfl
theorem elt_r {h : Hp} {kd a : Nat} (h1 : 24 ≤ kd) : elt h kd a = .inr (.inr (.inr (.inr (hC h a)))) := by unfold elt; rw [if_neg (by omega), if_neg (by omega)]
theorem idx_in {i : Int} {n : Nat} (hi : rg i) (g : inA i n) : vp_in (Int32.ofInt i) n := by
  have h0 := ti_of hi
  intro z
  rcases z with z | z
  · rw [Int32.lt_iff_toInt_lt, h0] at z
    simp at z
    omega
  · have : (Int32.ofInt i).toNatClampNeg = i.toNat := by unfold Int32.toNatClampNeg; rw [h0]
    rw [this] at z
    have := g.1; have := g.2
    omega
theorem idx_nat {i : Int} (hi : rg i) : (Int32.ofInt i).toNatClampNeg = i.toNat := by unfold Int32.toNatClampNeg; rw [ti_of hi]
section HEAPROWS
variable {D : va_G} {cy : Nat → ClassId} {B : Nat} {p : Program} {l : Launch} {e : Env} {R : Room} {s : State} {m : MethodId} {args : Array Value} {below : List Frame} {meth : Method} {c : Code} {nL : Nat} {Q : State → Prop} {h : Hp} {k n pc : Nat} {lv : List (Nat × Value)} {st : List Value} {cc : ByteArray} {own : String}
/-- one heap for another: what holds of one holds of the other -/
theorem aw_heap {h' : Hp} (eh : h' = h) (kk : AWd D cy B p l e R s m args below meth c nL Q h' k n pc lv st) : AWd D cy B p l e R s m args below meth c nL Q h k n pc lv st := eh ▸ kk
theorem aw_st {st' : List Value} (es : st' = st) (kk : AWd D cy B p l e R s m args below meth c nL Q h k n pc lv st') : AWd D cy B p l e R s m args below meth c nL Q h k n pc lv st := es ▸ kk
theorem aw_sub (ks : List Nat) {lv' : List (Nat × Value)} (hl : lv_pick lv ks = lv') (kk : AWd D cy B p l e R s m args below meth c nL Q h k n pc lv' st) : AWd D cy B p l e R s m args below meth c nL Q h k n pc lv st := fun H locs ls r1 r2 r3 => kk H locs ls r1 r2 (lv_sub r3 ks hl)
theorem aw_pc {pc' : Nat} (ep : pc = pc') (kk : AWd D cy B p l e R s m args below meth c nL Q h k n pc' lv st) : AWd D cy B p l e R s m args below meth c nL Q h k n pc lv st := ep ▸ kk
theorem aw_get (X : CXd D cy B p s m args c cc own nL) {C : String} {T : u_T} {N ci i a t : Nat} {v : Value} (hin : ∀ w ∈ u_ws C T N, w ∈ uT) (hc : vwCl[ci]? = some (C, T, N)) (hlt : ci < 20) (f : Nat) (hf : f < N) (g : (hK h a).1 = ci) (ht : (fT ci)[f]? = some t) (hv : fv h ci a (t, f) = v) (hw : Cond.fieldLink own i C (T f).2.1 (T f).2.2.1 ∈ uT) (hdecl : (T f).1 = C) (hd : decode cc pc = .ok (.getfield i, 3)) (kk : AWd D cy B p l e R s m args below meth c nL Q h k n (pc + 3) lv ((v :: st))) : AWd D cy B p l e R s m args below meth c nL Q h k n pc lv ((.ref a :: st)) := fun H locs ls r1 r2 r3 =>
  va_get (Ts := uT) (D := D) (cl := vwCl) (tys := tysG cy) (ci := ci) (C := C) (T := T) (N := N) (ref := C) X.1 X.2.1 X.2.2.2.2.1 hin X.2.2.2.1 X.2.2.2.2.2.1.1 (rep_obj r1 g hlt) 0 rfl hc f hf (X.2.2.2.2.1 _ hw) (by rw [hdecl]; exact fun _ h9 => h9) (by rw [flds_at ht, hv]) hd (kk H locs ls r1 r2 r3)
set_option maxHeartbeats 1000000 in
theorem aw_putg (X : CXd D cy B p s m args c cc own nL) {C : String} {T : u_T} {N ci i a : Nat} {v : Value} {ty : FieldType} {h' : Hp} (hin : ∀ w ∈ u_ws C T N, w ∈ uT) (ty0 : Nat → FieldType) (hty : ∀ k, k < N → parseFieldDescriptor (T k).2.2.1 = some (ty0 k)) (hnm : ∀ a, a < N → ∀ b, b < N → a ≠ b → (T a).2.1 ≠ (T b).2.1) (hc : vwCl[ci]? = some (C, T, N)) (hlt : ci < 20) (f : Nat) (hf : f < N) (hlen : N = (fT ci).length) (g : (hK h a).1 = ci) (hw : Cond.fieldLink own i C (T f).2.1 (T f).2.2.1 ∈ uT) (hdecl : (T f).1 = C) (hfin : (T f).2.2.2 = false ∨ ((T f).2.2.2 = true ∧ meth.name = "<init>" ∧ C = own)) (hd9 : parseFieldDescriptor (T f).2.2.1 = some ty) (hn : narrow ty v = v) (hfit : fits ty v = true)
    (hz : hZ h' = hZ h) (hk : hK h' = hK h) (hcell : ∀ b, b ≠ a → cellOf cy h' b = cellOf cy h b) (hset : flds h' ci a = (flds h ci a).set f v) (hd : decode cc pc = .ok (.putfield i, 3)) (kk : AWd D cy B p l e R s m args below meth c nL Q h' k n (pc + 3) lv st) : AWd D cy B p l e R s m args below meth c nL Q h k n pc lv ((v :: .ref a :: st)) := fun H locs ls r1 r2 r3 => by
  obtain ⟨hx, hb, -, hown, hts, hKG, -⟩ := X
  have hinT := hin
  have hap := va_apart (own := own) hts hinT ty0 hty hnm hKG.1 hc
  have hP := rep_obj r1 g hlt
  obtain ⟨r, h1, cell, q1, q2, q3, q4⟩ := hP 0 _ rfl
  have hr : r = (C, T, N) := Option.some.inj (h1.symm.trans hc)
  subst hr
  obtain ⟨hS, hfc, kC, hkC, hkind⟩ := hKG.1.1 ci _ hc
  obtain ⟨cf, kf, fi, fd, hi, hsl⟩ := hS f hf
  have hlay := hts _ (hinT _ (u_in_lay hf))
  have hst := (u_facts hfc hkC (u_lays hts hinT hf) hi).1
  have hA : B ≤ a := (r1.2.2 a (by rw [g]; omega)).1
  have hi' : s.fieldFound? C (T f).2.1 (T f).2.2.1 = some (cf, kf, fi, fd) := by rw [← hi, hdecl]
  have fin : ∀ (H' : Heap), H'[a]? = some (cell.setSlot fd.slot v) → H'.size = H.size → (∀ q, q ≠ a → H'[q]? = H[q]?) → W p l e R s m args below meth c H' (locs ++ [⟨a, fd.slot⟩]) k n Q (F0 m (pc + 3) ls st) := by
    intro H' e1 e2 e3
    refine kk H' _ ls (rep_upd r1 e2 e3 hz hk hcell ?_) (r2.put e2 e3 hA) r3
    rw [cell_obj (by rw [hk]; exact g) hlt, hset]
    rw [hsl] at e1
    exact ⟨_, hc, t_OB.to (V := updV (vp_V (flds h ci a)) f v) ⟨_, e1, q2, q3, t_set q4 hap hf v⟩ (fun j _ => vp_updV_set (by rw [flds_len, ← hlen]; exact hf) v j)⟩
  have hslot : fd.slot < cell.slots.size := by rw [hsl]; exact k2_hasslot (q4 f hf)
  rcases hfin with hfin | ⟨hfin, hin2, ho⟩
  · unfold u_lay at hlay
    rw [if_neg (by rw [hfin]; decide)] at hlay
    have h6 := u_store hfc hkC hkind hlay hi hd9 hn hfit
    exact W.putK hx hb (f := fd) ⟨hown, hts _ hw, ⟨_, _, _, hi'⟩, hst⟩ (by rw [q2]; exact h6) q1 q3 hslot rfl rfl hd fin
  · unfold u_lay at hlay
    rw [if_pos hfin] at hlay
    have hcf : m.cls = cf := by
      obtain ⟨_, _, c', _, _, _, -, -, hf', -, -, -, hown2, -⟩ := Cond.laysFinal_spec hlay
      have e1 : c' = cf := by have := hi.symm.trans hf'; simp at this; exact this.1.symm
      rw [hdecl, ho] at hown2
      rw [← e1]; exact Option.some.inj (hown.symm.trans hown2)
    have h6 := u_fits hfc hkC hkind (Or.inr hlay) hi hd9 hn hfit
    exact W.putFinK hx hb hown (hts _ hw) hi' hst hcf hin2 (by rw [q2]; exact h6) q1 q3 hslot rfl rfl hd fin
end HEAPROWS

