def FU : Nat := 1000000
theorem it_t {α : Type} {c : Prop} [Decidable c] {A B x : α} (z : c) (hf : (if c then A else B) = x) : A = x := by rw [if_pos z] at hf; exact hf
theorem it_f {α : Type} {c : Prop} [Decidable c] {A B x : α} (z : ¬ c) (hf : (if c then A else B) = x) : B = x := by rw [if_neg z] at hf; exact hf
theorem ite_app {α β : Type} {c : Prop} [Decidable c] (f : α → β) (a b : α) : (if c then f a else f b) = f (if c then a else b) := by split <;> rfl
def bd2 {α β γ : Type} (v : Option (α × β)) (k : α → β → Option γ) : Option γ := match v with | some q => k q.1 q.2 | none => none
theorem bd2_some {α β γ : Type} {v : Option (α × β)} {k : α → β → Option γ} {x : γ} (h : bd2 v k = some x) : ∃ a b, v = some (a, b) ∧ k a b = some x := by
  cases v with
  | none => cases h
  | some q => exact ⟨q.1, q.2, rfl, h⟩
theorem rg_lit {x : Int} (h : (decide (-2147483648 ≤ x) && decide (x < 2147483648)) = true) : rg x := by
  obtain ⟨h1, h2⟩ := Bool.and_eq_true_iff.mp h
  exact ⟨of_decide_eq_true h1, of_decide_eq_true h2⟩
theorem rl_lit {x : Int} (h : (decide (-9223372036854775808 ≤ x) && decide (x < 9223372036854775808)) = true) : rl x := by
  obtain ⟨h1, h2⟩ := Bool.and_eq_true_iff.mp h
  exact ⟨of_decide_eq_true h1, of_decide_eq_true h2⟩
theorem gI_rg {h : Hp} {f a : Nat} : rg (gI h f a) := ti_rg _
theorem gJ_rl {h : Hp} {f a : Nat} : rl (gJ h f a) := tj_rl _
theorem gA_rg {h : Hp} {a i : Nat} : rg (gA h a i) := ti_rg _
theorem gB_rl {h : Hp} {a i : Nat} : rl (gB h a i) := tj_rl _
theorem rg_01 {x : Int} (h : x = 0 ∨ x = 1) : rg x := by rcases h with rfl | rfl <;> exact rg_lit rfl
theorem b2i_01 {p : Prop} [Decidable p] : (if p then (1 : Int) else 0) = 0 ∨ (if p then (1 : Int) else 0) = 1 := by by_cases h : p <;> simp [h]
theorem nar_z {x : Int} (h : x = 0 ∨ x = 1) : narrow .boolean (vI x) = vI x := by rcases h with rfl | rfl <;> rfl
theorem kp_I {h h1 : Hp} {f a : Nat} {v : Int} (e : h1 = pI h f a v) : hK h1 = hK h := by rw [e]; rfl
theorem kp_J {h h1 : Hp} {f a : Nat} {v : Int} (e : h1 = pJ h f a v) : hK h1 = hK h := by rw [e]; rfl
theorem kp_R {h h1 : Hp} {f a v : Nat} (e : h1 = pR h f a v) : hK h1 = hK h := by rw [e]; rfl
theorem kp_A {h h1 : Hp} {a : Nat} {i v : Int} (e : h1 = sA h a i v) : hK h1 = hK h := by rw [e]; rfl
theorem kp_B {h h1 : Hp} {a : Nat} {i v : Int} (e : h1 = sB h a i v) : hK h1 = hK h := by rw [e]; rfl
theorem kp_C {h h1 : Hp} {a v : Nat} {i : Int} (e : h1 = sC h a i v) : hK h1 = hK h := by rw [e]; rfl
theorem kc {h h1 : Hp} {q x : Nat} (e : hK h1 = hK h) (g : (hK h q).1 = x) : (hK h1 q).1 = x := by rw [e]; exact g
theorem kd {h h1 : Hp} {q x : Nat} (e : hK h1 = hK h) (g : (hK h1 q).1 = x) : (hK h q).1 = x := by rw [← e]; exact g
theorem tby_nar (v : Int) : narrow .byte (vI (tby v)) = vI (tby v) := by
  unfold tby; rw [vI_ti]
  show Value.int _ = Value.int _
  congr 1
  rw [← Int32.toInt_inj]
  simp
/-- the facts of a c-method: its object, its row -/
def MI1 (h : Hp) (t a : Nat) : Prop := (hK h t).1 = 12 ∧ gR h 788 t = some a ∧ hK h a = (21, 1850)
theorem mi_k {h : Hp} {t a : Nat} (gm : MI1 h t a) : (hK h a).1 = 21 := by rw [gm.2.2]
theorem mi_b {h : Hp} {t a : Nat} {i : Int} (gm : MI1 h t a) (g : inA i 1850) : inA i (hK h a).2 := by rw [gm.2.2]; exact g
theorem rg_len {n : Nat} (g : (n : Int) < 2147483648) : rg (n : Int) := by unfold rg; omega
section ROWS2
variable {D : va_G} {cy : Nat → ClassId} {B : Nat} {p : Program} {l : Launch} {e : Env} {R : Room} {s : State} {m : MethodId} {args : Array Value} {below : List Frame} {meth : Method} {c : Code} {nL : Nat} {Q : State → Prop} {h : Hp} {k n pc : Nat} {lv : List (Nat × Value)} {st : List Value} {cc : ByteArray} {own : String}

theorem aw_lv {lv' : List (Nat × Value)} (hl : lv = lv') (kk : AWd D cy B p l e R s m args below meth c nL Q h k n pc lv' st) : AWd D cy B p l e R s m args below meth c nL Q h k n pc lv st := hl ▸ kk
theorem aw_topI {x y : Int} (ex : y = x) (kk : AWd D cy B p l e R s m args below meth c nL Q h k n pc lv ((vI y :: st))) : AWd D cy B p l e R s m args below meth c nL Q h k n pc lv ((vI x :: st)) := ex ▸ kk
theorem aw_topJ {x y : Int} (ex : y = x) (kk : AWd D cy B p l e R s m args below meth c nL Q h k n pc lv ((vJ y :: st))) : AWd D cy B p l e R s m args below meth c nL Q h k n pc lv ((vJ x :: st)) := ex ▸ kk
theorem aw_topA {x y : Nat} (ex : y = x) (kk : AWd D cy B p l e R s m args below meth c nL Q h k n pc lv ((.ref y :: st))) : AWd D cy B p l e R s m args below meth c nL Q h k n pc lv ((.ref x :: st)) := ex ▸ kk
theorem aw_kn {k' n' : Nat} (ek : k = k') (en : n = n') (kk : AWd D cy B p l e R s m args below meth c nL Q h k' n' pc lv st) : AWd D cy B p l e R s m args below meth c nL Q h k n pc lv st := by subst ek; subst en; exact kk
theorem aw_ret1 {k' n' : Nat} {v : Value} (ek : k = k') (en : n = n') (kk : AWd D cy B p l e R s m args below meth c nL Q h k' n' pc lv ((v :: st))) : AWd D cy B p l e R s m args below meth c nL Q h k n pc lv (((some v).toList ++ st)) := by subst ek; subst en; exact kk
theorem aw_ret0 {k' n' : Nat} (ek : k = k') (en : n = n') (kk : AWd D cy B p l e R s m args below meth c nL Q h k' n' pc lv st) : AWd D cy B p l e R s m args below meth c nL Q h k n pc lv (((none : Option Value).toList ++ st)) := by subst ek; subst en; exact kk
theorem aw_iteT {q : Prop} [Decidable q] {x y : Int} (z : q) (kk : AWd D cy B p l e R s m args below meth c nL Q h k n pc lv ((vI (if q then x else y) :: st))) : AWd D cy B p l e R s m args below meth c nL Q h k n pc lv ((vI x :: st)) := by rw [if_pos z] at kk; exact kk
theorem aw_iteF {q : Prop} [Decidable q] {x y : Int} (z : ¬ q) (kk : AWd D cy B p l e R s m args below meth c nL Q h k n pc lv ((vI (if q then x else y) :: st))) : AWd D cy B p l e R s m args below meth c nL Q h k n pc lv ((vI y :: st)) := by rw [if_neg z] at kk; exact kk
theorem aw_getI (X : CXd D cy B p s m args c cc own nL) {C : String} {T : u_T} {N i a : Nat} (ci f fid : Nat) (hin : ∀ w ∈ u_ws C T N, w ∈ uT) (hc : vwCl[ci]? = some (C, T, N)) (hlt : ci < 20) (hf : f < N) (g : (hK h a).1 = ci) (ht : (fT ci)[f]? = some 0) (hw : Cond.fieldLink own i C (T f).2.1 (T f).2.2.1 ∈ uT) (hdecl : (T f).1 = C) (e9 : 64 * ci + f = fid) (hd : decode cc pc = .ok (.getfield i, 3)) (kk : AWd D cy B p l e R s m args below meth c nL Q h k n (pc + 3) lv ((vI (gI h fid a) :: st))) : AWd D cy B p l e R s m args below meth c nL Q h k n pc lv ((.ref a :: st)) := aw_get X hin hc hlt f hf g ht (by subst e9; exact (vI_ti _).symm) hw hdecl hd kk
theorem aw_getJ (X : CXd D cy B p s m args c cc own nL) {C : String} {T : u_T} {N i a : Nat} (ci f fid : Nat) (hin : ∀ w ∈ u_ws C T N, w ∈ uT) (hc : vwCl[ci]? = some (C, T, N)) (hlt : ci < 20) (hf : f < N) (g : (hK h a).1 = ci) (ht : (fT ci)[f]? = some 1) (hw : Cond.fieldLink own i C (T f).2.1 (T f).2.2.1 ∈ uT) (hdecl : (T f).1 = C) (e9 : 64 * ci + f = fid) (hd : decode cc pc = .ok (.getfield i, 3)) (kk : AWd D cy B p l e R s m args below meth c nL Q h k n (pc + 3) lv ((vJ (gJ h fid a) :: st))) : AWd D cy B p l e R s m args below meth c nL Q h k n pc lv ((.ref a :: st)) := aw_get X hin hc hlt f hf g ht (by subst e9; exact (vJ_ti _).symm) hw hdecl hd kk
theorem aw_getR (X : CXd D cy B p s m args c cc own nL) {C : String} {T : u_T} {N i a q9 : Nat} (ci f fid : Nat) (hin : ∀ w ∈ u_ws C T N, w ∈ uT) (hc : vwCl[ci]? = some (C, T, N)) (hlt : ci < 20) (hf : f < N) (g : (hK h a).1 = ci) (ht : (fT ci)[f]? = some 2) (hw : Cond.fieldLink own i C (T f).2.1 (T f).2.2.1 ∈ uT) (hdecl : (T f).1 = C) (e9 : 64 * ci + f = fid) (g9 : gR h fid a = some q9) (hd : decode cc pc = .ok (.getfield i, 3)) (kk : AWd D cy B p l e R s m args below meth c nL Q h k n (pc + 3) lv ((.ref q9 :: st))) : AWd D cy B p l e R s m args below meth c nL Q h k n pc lv ((.ref a :: st)) := aw_get X hin hc hlt f hf g ht (by subst e9; show va_rf (gR h (64 * ci + f) a) = _; rw [g9]; rfl) hw hdecl hd kk
theorem aw_setI (X : CXd D cy B p s m args c cc own nL) {C : String} {T : u_T} {N i a : Nat} {h' : Hp} (ci f fid : Nat) (hin : ∀ w ∈ u_ws C T N, w ∈ uT) (ty0 : Nat → FieldType) (hty : ∀ k, k < N → parseFieldDescriptor (T k).2.2.1 = some (ty0 k)) (hnm : ∀ a, a < N → ∀ b, b < N → a ≠ b → (T a).2.1 ≠ (T b).2.1) (hc : vwCl[ci]? = some (C, T, N)) (hlt : ci < 20) (hf : f < N) (hlen : N = (fT ci).length) (g : (hK h a).1 = ci) (hw : Cond.fieldLink own i C (T f).2.1 (T f).2.2.1 ∈ uT) (hdecl : (T f).1 = C) (hfin : (T f).2.2.2 = false ∨ ((T f).2.2.2 = true ∧ meth.name = "<init>" ∧ C = own)) (e9 : 64 * ci + f = fid) {v : Int} (hd9 : parseFieldDescriptor (T f).2.2.1 = some .int) (ht : (fT ci)[f]? = some 0) (eh : h' = pI h fid a v) (hd : decode cc pc = .ok (.putfield i, 3)) (kk : AWd D cy B p l e R s m args below meth c nL Q h' k n (pc + 3) lv st) : AWd D cy B p l e R s m args below meth c nL Q h k n pc lv ((vI v :: .ref a :: st)) := by subst e9; exact aw_putI X hin ty0 hty hnm hc hlt f hf hlen g hw hdecl hfin hd9 ht eh hd kk
theorem aw_setJ (X : CXd D cy B p s m args c cc own nL) {C : String} {T : u_T} {N i a : Nat} {h' : Hp} (ci f fid : Nat) (hin : ∀ w ∈ u_ws C T N, w ∈ uT) (ty0 : Nat → FieldType) (hty : ∀ k, k < N → parseFieldDescriptor (T k).2.2.1 = some (ty0 k)) (hnm : ∀ a, a < N → ∀ b, b < N → a ≠ b → (T a).2.1 ≠ (T b).2.1) (hc : vwCl[ci]? = some (C, T, N)) (hlt : ci < 20) (hf : f < N) (hlen : N = (fT ci).length) (g : (hK h a).1 = ci) (hw : Cond.fieldLink own i C (T f).2.1 (T f).2.2.1 ∈ uT) (hdecl : (T f).1 = C) (hfin : (T f).2.2.2 = false ∨ ((T f).2.2.2 = true ∧ meth.name = "<init>" ∧ C = own)) (e9 : 64 * ci + f = fid) {v : Int} (hd9 : parseFieldDescriptor (T f).2.2.1 = some .long) (ht : (fT ci)[f]? = some 1) (eh : h' = pJ h fid a v) (hd : decode cc pc = .ok (.putfield i, 3)) (kk : AWd D cy B p l e R s m args below meth c nL Q h' k n (pc + 3) lv st) : AWd D cy B p l e R s m args below meth c nL Q h k n pc lv ((vJ v :: .ref a :: st)) := by subst e9; exact aw_putJ X hin ty0 hty hnm hc hlt f hf hlen g hw hdecl hfin hd9 ht eh hd kk
theorem aw_setR (X : CXd D cy B p s m args c cc own nL) {C : String} {T : u_T} {N i a : Nat} {h' : Hp} (ci f fid : Nat) (hin : ∀ w ∈ u_ws C T N, w ∈ uT) (ty0 : Nat → FieldType) (hty : ∀ k, k < N → parseFieldDescriptor (T k).2.2.1 = some (ty0 k)) (hnm : ∀ a, a < N → ∀ b, b < N → a ≠ b → (T a).2.1 ≠ (T b).2.1) (hc : vwCl[ci]? = some (C, T, N)) (hlt : ci < 20) (hf : f < N) (hlen : N = (fT ci).length) (g : (hK h a).1 = ci) (hw : Cond.fieldLink own i C (T f).2.1 (T f).2.2.1 ∈ uT) (hdecl : (T f).1 = C) (hfin : (T f).2.2.2 = false ∨ ((T f).2.2.2 = true ∧ meth.name = "<init>" ∧ C = own)) (e9 : 64 * ci + f = fid) {v : Nat} {ty : FieldType} (hd9 : parseFieldDescriptor (T f).2.2.1 = some ty) (hn : narrow ty (.ref v) = .ref v) (hfit : fits ty (.ref v) = true) (ht : (fT ci)[f]? = some 2) (eh : h' = pR h fid a v) (hd : decode cc pc = .ok (.putfield i, 3)) (kk : AWd D cy B p l e R s m args below meth c nL Q h' k n (pc + 3) lv st) : AWd D cy B p l e R s m args below meth c nL Q h k n pc lv ((.ref v :: .ref a :: st)) := by subst e9; exact aw_putR X hin ty0 hty hnm hc hlt f hf hlen g hw hdecl hfin hd9 hn hfit ht eh hd kk
theorem aw_tblIn (X : CXd D cy B p s m args c cc own nL) {dflt lo hi : Int} {offs : Array Int} {len : Nat} {a : Int} {off : Int} {tgt : Nat} (v : Int) (ha : rg a) (ev : a = v) (h1 : ¬ v < lo) (h2 : ¬ hi < v) (ho : offs[(v - lo).toNat]? = some off) (ht : (pc : Int) + off = (tgt : Int)) (hd : decode cc pc = .ok (.tableswitch dflt lo hi offs, len)) (kk : AWd D cy B p l e R s m args below meth c nL Q h k n tgt lv st) : AWd D cy B p l e R s m args below meth c nL Q h k n pc lv ((vI a :: st)) := fun H locs ls r1 r2 r3 => by
  subst ev
  exact lv_tableIn X.1 X.2.1 hd (by rw [ti_of ha]; exact h1) (by rw [ti_of ha]; exact h2) (by rw [ti_of ha]; exact ho) ht (kk H locs ls r1 r2 r3)
theorem aw_tblOut (X : CXd D cy B p s m args c cc own nL) {dflt lo hi : Int} {offs : Array Int} {len : Nat} {a : Int} {tgt : Nat} (ha : rg a) (h1 : a < lo ∨ hi < a) (ht : (pc : Int) + dflt = (tgt : Int)) (hd : decode cc pc = .ok (.tableswitch dflt lo hi offs, len)) (kk : AWd D cy B p l e R s m args below meth c nL Q h k n tgt lv st) : AWd D cy B p l e R s m args below meth c nL Q h k n pc lv ((vI a :: st)) := fun H locs ls r1 r2 r3 => lv_tableOut X.1 X.2.1 hd (by rw [ti_of ha]; exact h1) ht (kk H locs ls r1 r2 r3)
end ROWS2
