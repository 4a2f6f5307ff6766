theorem fid_ne {ci f : Nat} {j : Nat} (h : j ≠ f) : 64 * ci + j ≠ 64 * ci + f := by omega
theorem flds_ext {h h' : Hp} {ci f a t : Nat} {v : Value} (ht : (fT ci)[f]? = some t) (h1 : fv h' ci a (t, f) = v) (h2 : ∀ (j u : Nat), j ≠ f → fv h' ci a (u, j) = fv h ci a (u, j)) : flds h' ci a = (flds h ci a).set f v := by
  refine List.ext_getElem? fun j => ?_
  by_cases e : f = j
  · subst e
    rw [flds_at ht, h1, List.getElem?_set_self (by rw [flds_len]; exact (List.getElem?_eq_some_iff.mp ht).1)]
  · rw [List.getElem?_set_ne e]
    cases hj : (fT ci)[j]? with
    | none =>
      have hl := List.getElem?_eq_none_iff.mp hj
      rw [List.getElem?_eq_none_iff.mpr (by rw [flds_len]; exact hl), List.getElem?_eq_none_iff.mpr (by rw [flds_len]; exact hl)]
    | some u => rw [flds_at hj, flds_at hj, h2 j u (Ne.symm e)]
theorem cell_same {cy : Nat → ClassId} {h h' : Hp} {b : Nat} (hk : hK h' = hK h) (h1 : ∀ (ci : Nat), flds h' ci b = flds h ci b) (h2 : ∀ kd, elt h' kd b = elt h kd b) : cellOf cy h' b = cellOf cy h b := by
  unfold cellOf; rw [hk, h1, h2]
theorem flds_same {h h' : Hp} {b : Nat} (h1 : ∀ f, hI h' f b = hI h f b) (h2 : ∀ f, hJ h' f b = hJ h f b) (h3 : ∀ f, hR h' f b = hR h f b) (ci : Nat) : flds h' ci b = flds h ci b := by
  unfold flds
  congr 1
  funext q
  unfold fv
  rw [h1, h2, h3]
theorem elt_same {h h' : Hp} {b : Nat} (h1 : hA h' b = hA h b) (h2 : hB h' b = hB h b) (h3 : hC h' b = hC h b) (kd : Nat) : elt h' kd b = elt h kd b := by
  unfold elt; rw [h1, h2, h3]
theorem up2_a {α : Type} {F : Nat → Nat → α} {i j b : Nat} {v : α} (h : b ≠ i) : up2 F i j v b = F b := by
  unfold up2 va_up; rw [if_neg h]
theorem up2_s {α : Type} {F : Nat → Nat → α} {i j : Nat} {v : α} : up2 F i j v i = va_up (F i) j v := by
  unfold up2; simp [va_up]
section PUTS
variable {D : va_G} {cy : Nat → ClassId} {B : Nat} {p : Program} {l : Launch} {e : Env} {R : Room} {s : State} {m : MethodId} {args : Array Value} {below : List Frame} {meth : Method} {c : Code} {nL : Nat} {Q : State → Prop} {h : Hp} {k n pc : Nat} {lv : List (Nat × Value)} {st : List Value} {cc : ByteArray} {own : String}

theorem aw_putI (X : CXd D cy B p s m args c cc own nL) {C : String} {T : u_T} {N ci i a : Nat} {h' : Hp} (hin : ∀ w ∈ u_ws C T N, w ∈ uT) (ty0 : Nat → FieldType) (hty : ∀ k, k < N → parseFieldDescriptor (T k).2.2.1 = some (ty0 k)) (hnm : ∀ a, a < N → ∀ b, b < N → a ≠ b → (T a).2.1 ≠ (T b).2.1) (hc : vwCl[ci]? = some (C, T, N)) (hlt : ci < 20) (f : Nat) (hf : f < N) (hlen : N = (fT ci).length) (g : (hK h a).1 = ci) (hw : Cond.fieldLink own i C (T f).2.1 (T f).2.2.1 ∈ uT) (hdecl : (T f).1 = C) (hfin : (T f).2.2.2 = false ∨ ((T f).2.2.2 = true ∧ meth.name = "<init>" ∧ C = own)) {v : Int} (hd9 : parseFieldDescriptor (T f).2.2.1 = some .int) (ht : (fT ci)[f]? = some 0) (eh : h' = pI h (64 * ci + f) a v) (hd : decode cc pc = .ok (.putfield i, 3)) (kk : AWd D cy B p l e R s m args below meth c nL Q h' k n (pc + 3) lv st) : AWd D cy B p l e R s m args below meth c nL Q h k n pc lv ((vI v :: .ref a :: st)) := by
  subst eh
  refine aw_putg (h' := pI h (64 * ci + f) a v) X hin ty0 hty hnm hc hlt f hf hlen g hw hdecl hfin hd9 rfl rfl rfl rfl (fun b hb => ?_) ?_ hd kk
  · exact cell_same rfl (flds_same (fun f2 => up2_ne (Or.inr hb)) (fun f2 => rfl) (fun f2 => rfl)) (fun kd => elt_same rfl rfl rfl kd)
  · refine flds_ext ht ?_ (fun j u hj => ?_)
    · show Value.int (up2 (hI h) (64 * ci + f) a (Int32.ofInt v) (64 * ci + f) a) = _
      rw [up2_eq]
    · have e2 : ∀ {α : Type} (F : Nat → Nat → α) (w : α), up2 F (64 * ci + f) a w (64 * ci + j) a = F (64 * ci + j) a := fun F w => up2_ne (Or.inl (fid_ne hj))
      unfold fv
      rcases u with _ | _ | u
      · exact congrArg Value.int (e2 _ _)
      · rfl
      · rfl
theorem aw_putJ (X : CXd D cy B p s m args c cc own nL) {C : String} {T : u_T} {N ci i a : Nat} {h' : Hp} (hin : ∀ w ∈ u_ws C T N, w ∈ uT) (ty0 : Nat → FieldType) (hty : ∀ k, k < N → parseFieldDescriptor (T k).2.2.1 = some (ty0 k)) (hnm : ∀ a, a < N → ∀ b, b < N → a ≠ b → (T a).2.1 ≠ (T b).2.1) (hc : vwCl[ci]? = some (C, T, N)) (hlt : ci < 20) (f : Nat) (hf : f < N) (hlen : N = (fT ci).length) (g : (hK h a).1 = ci) (hw : Cond.fieldLink own i C (T f).2.1 (T f).2.2.1 ∈ uT) (hdecl : (T f).1 = C) (hfin : (T f).2.2.2 = false ∨ ((T f).2.2.2 = true ∧ meth.name = "<init>" ∧ C = own)) {v : Int} (hd9 : parseFieldDescriptor (T f).2.2.1 = some .long) (ht : (fT ci)[f]? = some 1) (eh : h' = pJ h (64 * ci + f) a v) (hd : decode cc pc = .ok (.putfield i, 3)) (kk : AWd D cy B p l e R s m args below meth c nL Q h' k n (pc + 3) lv st) : AWd D cy B p l e R s m args below meth c nL Q h k n pc lv ((vJ v :: .ref a :: st)) := by
  subst eh
  refine aw_putg (h' := pJ h (64 * ci + f) a v) X hin ty0 hty hnm hc hlt f hf hlen g hw hdecl hfin hd9 rfl rfl rfl rfl (fun b hb => ?_) ?_ hd kk
  · exact cell_same rfl (flds_same (fun f2 => rfl) (fun f2 => up2_ne (Or.inr hb)) (fun f2 => rfl)) (fun kd => elt_same rfl rfl rfl kd)
  · refine flds_ext ht ?_ (fun j u hj => ?_)
    · show Value.long (up2 (hJ h) (64 * ci + f) a (Int64.ofInt v) (64 * ci + f) a) = _
      rw [up2_eq]
    · have e2 : ∀ {α : Type} (F : Nat → Nat → α) (w : α), up2 F (64 * ci + f) a w (64 * ci + j) a = F (64 * ci + j) a := fun F w => up2_ne (Or.inl (fid_ne hj))
      unfold fv
      rcases u with _ | _ | u
      · rfl
      · exact congrArg Value.long (e2 _ _)
      · rfl
theorem aw_putR (X : CXd D cy B p s m args c cc own nL) {C : String} {T : u_T} {N ci i a : Nat} {h' : Hp} (hin : ∀ w ∈ u_ws C T N, w ∈ uT) (ty0 : Nat → FieldType) (hty : ∀ k, k < N → parseFieldDescriptor (T k).2.2.1 = some (ty0 k)) (hnm : ∀ a, a < N → ∀ b, b < N → a ≠ b → (T a).2.1 ≠ (T b).2.1) (hc : vwCl[ci]? = some (C, T, N)) (hlt : ci < 20) (f : Nat) (hf : f < N) (hlen : N = (fT ci).length) (g : (hK h a).1 = ci) (hw : Cond.fieldLink own i C (T f).2.1 (T f).2.2.1 ∈ uT) (hdecl : (T f).1 = C) (hfin : (T f).2.2.2 = false ∨ ((T f).2.2.2 = true ∧ meth.name = "<init>" ∧ C = own)) {v : Nat} {ty : FieldType} (hd9 : parseFieldDescriptor (T f).2.2.1 = some ty) (hn : narrow ty (.ref v) = .ref v) (hfit : fits ty (.ref v) = true) (ht : (fT ci)[f]? = some 2) (eh : h' = pR h (64 * ci + f) a v) (hd : decode cc pc = .ok (.putfield i, 3)) (kk : AWd D cy B p l e R s m args below meth c nL Q h' k n (pc + 3) lv st) : AWd D cy B p l e R s m args below meth c nL Q h k n pc lv ((.ref v :: .ref a :: st)) := by
  subst eh
  refine aw_putg (h' := pR h (64 * ci + f) a v) X hin ty0 hty hnm hc hlt f hf hlen g hw hdecl hfin hd9 hn hfit rfl rfl (fun b hb => ?_) ?_ hd kk
  · exact cell_same rfl (flds_same (fun f2 => rfl) (fun f2 => rfl) (fun f2 => up2_ne (Or.inr hb))) (fun kd => elt_same rfl rfl rfl kd)
  · refine flds_ext ht ?_ (fun j u hj => ?_)
    · show va_rf (up2 (hR h) (64 * ci + f) a (some v) (64 * ci + f) a) = _
      rw [up2_eq]; rfl
    · have e2 : ∀ {α : Type} (F : Nat → Nat → α) (w : α), up2 F (64 * ci + f) a w (64 * ci + j) a = F (64 * ci + j) a := fun F w => up2_ne (Or.inl (fid_ne hj))
      unfold fv
      rcases u with _ | _ | u
      · rfl
      · rfl
      · exact congrArg va_rf (e2 _ _)
theorem aw_iald (X : CXd D cy B p s m args c cc own nL) {a : Nat} {i : Int} (g : (hK h a).1 = 21) (hi : rg i) (g2 : inA i (hK h a).2) (hd : decode cc pc = .ok (.iaload, 1)) (kk : AWd D cy B p l e R s m args below meth c nL Q h k n (pc + 1) lv ((vI (gA h a i.toNat) :: st))) : AWd D cy B p l e R s m args below meth c nL Q h k n pc lv ((vI i :: .ref a :: st)) := fun H locs ls r1 r2 r3 =>
  va_iald (D := D) (cl := vwCl) X.1 X.2.1 X.2.2.2.2.2.1.1 (rep_arr r1 g (by omega) (by omega)) 0 1 (a := a) (cA := cy 21) (n := (hK h a).2) (f := hA h a) rfl rfl (idx_in hi g2) hd (by have q := kk H locs ls r1 r2 r3; rw [idx_nat hi]; unfold gA at q; rw [vI_ti] at q; exact q)
theorem aw_bald (X : CXd D cy B p s m args c cc own nL) {a : Nat} {i : Int} (g : (hK h a).1 = 20) (hi : rg i) (g2 : inA i (hK h a).2) (hd : decode cc pc = .ok (.baload, 1)) (kk : AWd D cy B p l e R s m args below meth c nL Q h k n (pc + 1) lv ((vI (gA h a i.toNat) :: st))) : AWd D cy B p l e R s m args below meth c nL Q h k n pc lv ((vI i :: .ref a :: st)) := fun H locs ls r1 r2 r3 =>
  va_bald (D := D) (cl := vwCl) X.1 X.2.1 X.2.2.2.2.2.1.1 (rep_arr r1 g (by omega) (by omega)) 0 0 (a := a) (cA := cy 20) (n := (hK h a).2) (f := hA h a) rfl rfl (idx_in hi g2) hd (by have q := kk H locs ls r1 r2 r3; rw [idx_nat hi]; unfold gA at q; rw [vI_ti] at q; exact q)
theorem aw_zald (X : CXd D cy B p s m args c cc own nL) {a : Nat} {i : Int} (g : (hK h a).1 = 23) (hi : rg i) (g2 : inA i (hK h a).2) (hd : decode cc pc = .ok (.baload, 1)) (kk : AWd D cy B p l e R s m args below meth c nL Q h k n (pc + 1) lv ((vI (gA h a i.toNat) :: st))) : AWd D cy B p l e R s m args below meth c nL Q h k n pc lv ((vI i :: .ref a :: st)) := fun H locs ls r1 r2 r3 =>
  va_zald (D := D) (cl := vwCl) X.1 X.2.1 X.2.2.2.2.2.1.1 (rep_arr r1 g (by omega) (by omega)) 0 3 (a := a) (cA := cy 23) (n := (hK h a).2) (f := hA h a) rfl rfl (idx_in hi g2) hd (by have q := kk H locs ls r1 r2 r3; rw [idx_nat hi]; unfold gA at q; rw [vI_ti] at q; exact q)
theorem aw_lald (X : CXd D cy B p s m args c cc own nL) {a : Nat} {i : Int} (g : (hK h a).1 = 22) (hi : rg i) (g2 : inA i (hK h a).2) (hd : decode cc pc = .ok (.laload, 1)) (kk : AWd D cy B p l e R s m args below meth c nL Q h k n (pc + 1) lv ((vJ (gB h a i.toNat) :: st))) : AWd D cy B p l e R s m args below meth c nL Q h k n pc lv ((vI i :: .ref a :: st)) := fun H locs ls r1 r2 r3 =>
  va_lald (D := D) (cl := vwCl) X.1 X.2.1 X.2.2.2.2.2.1.1 (rep_arr r1 g (by omega) (by omega)) 0 2 (a := a) (cA := cy 22) (n := (hK h a).2) (f := hB h a) rfl rfl (idx_in hi g2) hd (by have q := kk H locs ls r1 r2 r3; rw [idx_nat hi]; unfold gB at q; rw [vJ_ti] at q; exact q)
theorem aw_aald (X : CXd D cy B p s m args c cc own nL) {a kd q9 : Nat} {i : Int} {C : String} (g : (hK h a).1 = kd) (h1 : 24 ≤ kd) (h2 : kd ≤ 27) (hC9 : tyOf kd = .object C) (hi : rg i) (g2 : inA i (hK h a).2) (g3 : gC h a i.toNat = some q9) (hd : decode cc pc = .ok (.aaload, 1)) (kk : AWd D cy B p l e R s m args below meth c nL Q h k n (pc + 1) lv ((.ref q9 :: st))) : AWd D cy B p l e R s m args below meth c nL Q h k n pc lv ((vI i :: .ref a :: st)) := fun H locs ls r1 r2 r3 => by
  have hP := rep_arr r1 g (by omega) (by omega)
  rw [elt_r h1] at hP
  refine va_aldq (D := D) (cl := vwCl) X.1 X.2.1 X.2.2.2.2.2.1.1 hP 0 (kd - 20) (a := a) (cA := cy kd) (n := (hK h a).2) (f := hC h a) rfl (by rw [tysG_at (by omega) h2, hC9]) (idx_in hi g2) hd ?_
  rw [idx_nat hi]
  unfold gC at g3
  rw [g3]
  exact kk H locs ls r1 r2 r3
theorem aw_alen (X : CXd D cy B p s m args c cc own nL) {a kd : Nat} (g : (hK h a).1 = kd) (h1 : 20 ≤ kd) (h2 : kd ≤ 27) (hd : decode cc pc = .ok (.arraylength, 1)) (kk : AWd D cy B p l e R s m args below meth c nL Q h k n (pc + 1) lv ((vI ((hK h a).2 : Int) :: st))) : AWd D cy B p l e R s m args below meth c nL Q h k n pc lv ((.ref a :: st)) := fun H locs ls r1 r2 r3 =>
  va_alen (D := D) (cl := vwCl) (tys := tysG cy) X.1 X.2.1 X.2.2.2.2.2.1.1 (rep_arr r1 g h1 (by omega)) 0 (kd - 20) (a := a) rfl (tysG_at h1 h2) (by rw [← Int32.ofInt_eq_ofNat]) hd (kk H locs ls r1 r2 r3)

set_option maxHeartbeats 1000000 in
theorem aw_iast (X : CXd D cy B p s m args c cc own nL) {a : Nat} {i v : Int} {h' : Hp} (g : (hK h a).1 = 21) (hi : rg i) (g2 : inA i (hK h a).2) (eh : h' = sA h a i v) (hd : decode cc pc = .ok (.iastore, 1)) (kk : AWd D cy B p l e R s m args below meth c nL Q h' k n (pc + 1) lv st) : AWd D cy B p l e R s m args below meth c nL Q h k n pc lv ((vI v :: vI i :: .ref a :: st)) := fun H locs ls r1 r2 r3 => by
  subst eh
  have hP := rep_arr r1 g (by omega) (by omega)
  have hB9 : B ≤ a := (r1.2.2 a (by rw [g]; omega)).1
  refine W.iast X.1 X.2.1 (hP 0 _ rfl) ((X.2.2.2.2.2.1.1.2 1 _ rfl).1 (hK h a).2 (fun j => .int (hA h a j))) (fun q => by cases q) (by show ¬ (Int32.ofInt i < 0 ∨ (arrV _ _ _).slots.size ≤ _); rw [arrV_size]; exact idx_in hi g2) rfl rfl hd fun H1 e1 z oq => ?_
  refine kk H1 _ ls (rep_upd (a := a) (h' := sA h a i v) r1 z oq rfl rfl (fun b hb => cell_same rfl (flds_same (fun _ => rfl) (fun _ => rfl) (fun _ => rfl)) (fun kd => elt_same (h := h) (h' := sA h a i v) (b := b) (up2_a hb) rfl rfl kd)) ?_) (r2.put z oq hB9) r3
  rw [cell_arr (show (hK (sA h a i v) a).1 = 21 from g) (by omega)]
  show H1[a]? = some (vp_cell (cy 21) ((hK h a).2, .inl (up2 (hA h) a i.toNat (Int32.ofInt v) a)))
  rw [e1, up2_s]
  show some ((vp_cell (cy 21) ((hK h a).2, .inl (hA h a))).setSlot _ _) = _
  rw [vp_cell_i, vp_cell_i, arrV_store, idx_nat hi]
  congr 2
  funext q
  by_cases hq : q = i.toNat
  · subst hq
    simp [updV, va_up]
  · simp [updV, va_up, hq]
set_option maxHeartbeats 1000000 in
theorem aw_bast (X : CXd D cy B p s m args c cc own nL) {a : Nat} {i v : Int} {h' : Hp} (g : (hK h a).1 = 20) (hi : rg i) (g2 : inA i (hK h a).2) (hv : narrow .byte (vI v) = vI v) (eh : h' = sA h a i v) (hd : decode cc pc = .ok (.bastore, 1)) (kk : AWd D cy B p l e R s m args below meth c nL Q h' k n (pc + 1) lv st) : AWd D cy B p l e R s m args below meth c nL Q h k n pc lv ((vI v :: vI i :: .ref a :: st)) := fun H locs ls r1 r2 r3 => by
  subst eh
  have hP := rep_arr r1 g (by omega) (by omega)
  have hB9 : B ≤ a := (r1.2.2 a (by rw [g]; omega)).1
  refine W.bast X.1 X.2.1 (hP 0 _ rfl) ((X.2.2.2.2.2.1.1.2 0 _ rfl).1 (hK h a).2 (fun j => .int (hA h a j))) (fun q => by cases q) (by show ¬ (Int32.ofInt i < 0 ∨ (arrV _ _ _).slots.size ≤ _); rw [arrV_size]; exact idx_in hi g2) rfl rfl hd fun H1 e1 z oq => ?_
  refine kk H1 _ ls (rep_upd (a := a) (h' := sA h a i v) r1 z oq rfl rfl (fun b hb => cell_same rfl (flds_same (fun _ => rfl) (fun _ => rfl) (fun _ => rfl)) (fun kd => elt_same (h := h) (h' := sA h a i v) (b := b) (up2_a hb) rfl rfl kd)) ?_) (r2.put z oq hB9) r3
  rw [cell_arr (show (hK (sA h a i v) a).1 = 20 from g) (by omega)]
  show H1[a]? = some (vp_cell (cy 20) ((hK h a).2, .inl (up2 (hA h) a i.toNat (Int32.ofInt v) a)))
  rw [e1, up2_s]
  show some ((vp_cell (cy 20) ((hK h a).2, .inl (hA h a))).setSlot _ _) = _
  rw [vp_cell_i, vp_cell_i, arrV_store, idx_nat hi]
  congr 2
  funext q
  by_cases hq : q = i.toNat
  · subst hq
    simp [updV, va_up, hv]
  · simp [updV, va_up, hq]
set_option maxHeartbeats 1000000 in
theorem aw_zast (X : CXd D cy B p s m args c cc own nL) {a : Nat} {i v : Int} {h' : Hp} (g : (hK h a).1 = 23) (hi : rg i) (g2 : inA i (hK h a).2) (hv : narrow .boolean (vI v) = vI v) (eh : h' = sA h a i v) (hd : decode cc pc = .ok (.bastore, 1)) (kk : AWd D cy B p l e R s m args below meth c nL Q h' k n (pc + 1) lv st) : AWd D cy B p l e R s m args below meth c nL Q h k n pc lv ((vI v :: vI i :: .ref a :: st)) := fun H locs ls r1 r2 r3 => by
  subst eh
  have hP := rep_arr r1 g (by omega) (by omega)
  have hB9 : B ≤ a := (r1.2.2 a (by rw [g]; omega)).1
  refine W.zast X.1 X.2.1 (hP 0 _ rfl) ((X.2.2.2.2.2.1.1.2 3 _ rfl).1 (hK h a).2 (fun j => .int (hA h a j))) (fun q => by cases q) (by show ¬ (Int32.ofInt i < 0 ∨ (arrV _ _ _).slots.size ≤ _); rw [arrV_size]; exact idx_in hi g2) rfl rfl hd fun H1 e1 z oq => ?_
  refine kk H1 _ ls (rep_upd (a := a) (h' := sA h a i v) r1 z oq rfl rfl (fun b hb => cell_same rfl (flds_same (fun _ => rfl) (fun _ => rfl) (fun _ => rfl)) (fun kd => elt_same (h := h) (h' := sA h a i v) (b := b) (up2_a hb) rfl rfl kd)) ?_) (r2.put z oq hB9) r3
  rw [cell_arr (show (hK (sA h a i v) a).1 = 23 from g) (by omega)]
  show H1[a]? = some (vp_cell (cy 23) ((hK h a).2, .inl (up2 (hA h) a i.toNat (Int32.ofInt v) a)))
  rw [e1, up2_s]
  show some ((vp_cell (cy 23) ((hK h a).2, .inl (hA h a))).setSlot _ _) = _
  rw [vp_cell_i, vp_cell_i, arrV_store, idx_nat hi]
  congr 2
  funext q
  by_cases hq : q = i.toNat
  · subst hq
    simp [updV, va_up, hv]
  · simp [updV, va_up, hq]
set_option maxHeartbeats 1000000 in
theorem aw_last (X : CXd D cy B p s m args c cc own nL) {a : Nat} {i v : Int} {h' : Hp} (g : (hK h a).1 = 22) (hi : rg i) (g2 : inA i (hK h a).2) (eh : h' = sB h a i v) (hd : decode cc pc = .ok (.lastore, 1)) (kk : AWd D cy B p l e R s m args below meth c nL Q h' k n (pc + 1) lv st) : AWd D cy B p l e R s m args below meth c nL Q h k n pc lv ((vJ v :: vI i :: .ref a :: st)) := fun H locs ls r1 r2 r3 => by
  subst eh
  have hP := rep_arr r1 g (by omega) (by omega)
  have hB9 : B ≤ a := (r1.2.2 a (by rw [g]; omega)).1
  refine W.last X.1 X.2.1 (hP 0 _ rfl) ((X.2.2.2.2.2.1.1.2 2 _ rfl).1 (hK h a).2 (fun j => .long (hB h a j))) (fun q => by cases q) (by show ¬ (Int32.ofInt i < 0 ∨ (arrV _ _ _).slots.size ≤ _); rw [arrV_size]; exact idx_in hi g2) rfl rfl hd fun H1 e1 z oq => ?_
  refine kk H1 _ ls (rep_upd (a := a) (h' := sB h a i v) r1 z oq rfl rfl (fun b hb => cell_same rfl (flds_same (fun _ => rfl) (fun _ => rfl) (fun _ => rfl)) (fun kd => elt_same (h := h) (h' := sB h a i v) (b := b) rfl (up2_a hb) rfl kd)) ?_) (r2.put z oq hB9) r3
  rw [cell_arr (show (hK (sB h a i v) a).1 = 22 from g) (by omega)]
  show H1[a]? = some (vp_cell (cy 22) ((hK h a).2, .inr (.inl (up2 (hB h) a i.toNat (Int64.ofInt v) a))))
  rw [e1, up2_s]
  show some ((vp_cell (cy 22) ((hK h a).2, .inr (.inl (hB h a)))).setSlot _ _) = _
  rw [vp_cell_l, vp_cell_l, arrV_store, idx_nat hi]
  congr 2
  funext q
  by_cases hq : q = i.toNat
  · subst hq
    simp [updV, va_up]
  · simp [updV, va_up, hq]
end PUTS
