/-! MERGED ROWS: words, their order, the orders of the parts -/
def gtL (w : List Int) (k : Nat) : Int := w.getD k 0
set_option maxHeartbeats 200000 in
theorem gtL_0 {a : Int} {w : List Int} : gtL (a :: w) 0 = a := rfl
set_option maxHeartbeats 200000 in
theorem gtL_s {a : Int} {w : List Int} {k : Nat} : gtL (a :: w) (k + 1) = gtL w k := by unfold gtL; simp
set_option maxHeartbeats 200000 in
theorem gtL_l {p s : List Int} {k : Nat} (h : k < p.length) : gtL (p ++ s) k = gtL p k := by
  induction p generalizing k with
  | nil => exact absurd h (by simp)
  | cons a p ih =>
    cases k with
    | zero => rfl
    | succ k =>
      rw [List.cons_append, gtL_s, gtL_s]
      exact ih (by simpa using h)
set_option maxHeartbeats 200000 in
theorem gtL_r {p s : List Int} {k : Nat} : gtL (p ++ s) (p.length + k) = gtL s k := by
  induction p with
  | nil => show gtL s (0 + k) = gtL s k; rw [Nat.zero_add]
  | cons a p ih =>
    rw [List.cons_append, List.length_cons, show p.length + 1 + k = p.length + k + 1 by omega, gtL_s, ih]
set_option maxHeartbeats 200000 in
theorem gtL_ext {p s : List Int} (e : p.length = s.length) (h : ∀ k, k < p.length → gtL p k = gtL s k) : p = s := by
  induction p generalizing s with
  | nil =>
    cases s with
    | nil => rfl
    | cons b s => simp at e
  | cons a p ih =>
    cases s with
    | nil => simp at e
    | cons b s =>
      have h0 : a = b := h 0 (by simp)
      have e2 : p.length = s.length := by simpa using e
      rw [h0, ih e2 (fun k hk => by
        have := h (k + 1) (by simpa using hk)
        rw [gtL_s, gtL_s] at this
        exact this)]
def sgm (sz : Nat → Nat) (L : Nat → Int → Int) (j o : Nat) : List Int := (List.range (sz j - o)).map (fun k => L j ((o + k : Nat) : Int))
set_option maxHeartbeats 200000 in
theorem sgm_len {sz : Nat → Nat} {L : Nat → Int → Int} {j o : Nat} : (sgm sz L j o).length = sz j - o := by unfold sgm; simp
set_option maxHeartbeats 200000 in
theorem sgm_gt {sz : Nat → Nat} {L : Nat → Int → Int} {j o k : Nat} (h : k < sz j - o) : gtL (sgm sz L j o) k = L j ((o + k : Nat) : Int) := by
  unfold gtL sgm
  simp [List.getD_eq_getElem?_getD, h]
def lxB : List Int → List Int → Bool
  | a :: x, b :: y => if a = b then lxB x y else decide (a < b)
  | [], _ => false
  | _ :: _, [] => false
def bet (w v : List Int) : Bool := if w.length = v.length then lxB w v else decide (w.length < v.length)
set_option maxHeartbeats 200000 in
theorem lxB_c {a b : Int} {x y : List Int} : lxB (a :: x) (b :: y) = if a = b then lxB x y else decide (a < b) := by rw [lxB]
set_option maxHeartbeats 200000 in
theorem lx_tr {a b c : List Int} (h1 : a.length = b.length) (h2 : b.length = c.length) (q1 : lxB a b = false) (q2 : lxB b c = false) : lxB a c = false := by
  induction a generalizing b c with
  | nil => rw [lxB]
  | cons x a ih =>
    cases b with
    | nil => simp at h1
    | cons y b =>
      cases c with
      | nil => simp at h2
      | cons z c =>
        rw [lxB_c] at q1 q2 ⊢
        have e1 : a.length = b.length := by simpa using h1
        have e2 : b.length = c.length := by simpa using h2
        by_cases p1 : x = y
        · rw [if_pos p1] at q1
          by_cases p2 : y = z
          · rw [if_pos p2] at q2
            rw [if_pos (p1.trans p2)]
            exact ih e1 e2 q1 q2
          · rw [if_neg p2] at q2
            have := of_decide_eq_false q2
            rw [if_neg (by omega)]
            exact decide_eq_false (by omega)
        · rw [if_neg p1] at q1
          have := of_decide_eq_false q1
          by_cases p2 : y = z
          · rw [if_neg (by omega)]
            exact decide_eq_false (by omega)
          · rw [if_neg p2] at q2
            have := of_decide_eq_false q2
            rw [if_neg (by omega)]
            exact decide_eq_false (by omega)
set_option maxHeartbeats 200000 in
theorem lx_as {a b : List Int} (q : lxB a b = true) : lxB b a = false := by
  induction a generalizing b with
  | nil => rw [lxB] at q; cases q
  | cons x a ih =>
    cases b with
    | nil => rw [lxB]
    | cons y b =>
      rw [lxB_c] at q ⊢
      by_cases p : x = y
      · rw [if_pos p] at q
        rw [if_pos p.symm]
        exact ih q
      · rw [if_neg p] at q
        have := of_decide_eq_true q
        rw [if_neg (fun z => p z.symm)]
        exact decide_eq_false (by omega)
set_option maxHeartbeats 200000 in
theorem lx_eq {a b : List Int} (h : a.length = b.length) (q1 : lxB a b = false) (q2 : lxB b a = false) : a = b := by
  induction a generalizing b with
  | nil =>
    cases b with
    | nil => rfl
    | cons y b => simp at h
  | cons x a ih =>
    cases b with
    | nil => simp at h
    | cons y b =>
      rw [lxB_c] at q1 q2
      by_cases p : x = y
      · rw [if_pos p] at q1
        rw [if_pos p.symm] at q2
        rw [p, ih (by simpa using h) q1 q2]
      · rw [if_neg p] at q1
        rw [if_neg (fun z => p z.symm)] at q2
        have := of_decide_eq_false q1
        have := of_decide_eq_false q2
        omega
set_option maxHeartbeats 200000 in
theorem lx_rf (a : List Int) : lxB a a = false := by
  cases q : lxB a a with
  | false => rfl
  | true => have := lx_as q; rw [q] at this; cases this
set_option maxHeartbeats 200000 in
theorem bet_rf (a : List Int) : bet a a = false := by unfold bet; rw [if_pos rfl]; exact lx_rf a
set_option maxHeartbeats 200000 in
theorem bet_tr {a b c : List Int} (q1 : bet a b = false) (q2 : bet b c = false) : bet a c = false := by
  unfold bet at q1 q2 ⊢
  by_cases p1 : a.length = b.length
  · rw [if_pos p1] at q1
    by_cases p2 : b.length = c.length
    · rw [if_pos p2] at q2
      rw [if_pos (p1.trans p2)]
      exact lx_tr p1 p2 q1 q2
    · rw [if_neg p2] at q2
      have := of_decide_eq_false q2
      rw [if_neg (by omega)]
      exact decide_eq_false (by omega)
  · rw [if_neg p1] at q1
    have := of_decide_eq_false q1
    by_cases p2 : b.length = c.length
    · rw [if_neg (by omega)]
      exact decide_eq_false (by omega)
    · rw [if_neg p2] at q2
      have := of_decide_eq_false q2
      rw [if_neg (by omega)]
      exact decide_eq_false (by omega)
set_option maxHeartbeats 200000 in
theorem bet_as {a b : List Int} (q : bet a b = true) : bet b a = false := by
  unfold bet at q ⊢
  by_cases p : a.length = b.length
  · rw [if_pos p] at q
    rw [if_pos p.symm]
    exact lx_as q
  · rw [if_neg p] at q
    have := of_decide_eq_true q
    rw [if_neg (by omega)]
    exact decide_eq_false (by omega)
set_option maxHeartbeats 200000 in
theorem bet_eq {a b : List Int} (q1 : bet a b = false) (q2 : bet b a = false) : a = b := by
  unfold bet at q1 q2
  by_cases p : a.length = b.length
  · rw [if_pos p] at q1
    rw [if_pos p.symm] at q2
    exact lx_eq p q1 q2
  · rw [if_neg p] at q1
    rw [if_neg (fun z => p z.symm)] at q2
    have := of_decide_eq_false q1
    have := of_decide_eq_false q2
    omega
/-- what may follow: u is used, l stands last -/
def Cmp (n : Nat) (sz : Nat → Nat) (L : Nat → Int → Int) (ov : Nat → Nat → Nat) : Nat → Nat → Nat → List Int → Prop
  | 0, _, _, r => r = []
  | d + 1, u, l, r => ∃ j, j < n ∧ u.testBit j = false ∧ ∃ r', r = sgm sz L j (ov l j) ++ r' ∧ Cmp n sz L ov d (u ||| 2 ^ j) j r'
def updW (b : Option (List Int)) (w : List Int) : Option (List Int) :=
  match b with
  | none => some w
  | some v => if bet w v then some w else some v
def lp (f : Option (List Int) → Nat → Option (List Int)) : Nat → Option (List Int) → Option (List Int)
  | 0, b => b
  | k + 1, b => f (lp f k b) k
/-- the search over all orders: the best so far -/
def mgf (n : Nat) (sz : Nat → Nat) (L : Nat → Int → Int) (ov : Nat → Nat → Nat) : Nat → Nat → Nat → List Int → Option (List Int) → Option (List Int)
  | 0, _, _, pre, b => updW b pre
  | d + 1, u, l, pre, b => lp (fun b j => if u.testBit j then b else mgf n sz L ov d (u ||| 2 ^ j) j (pre ++ sgm sz L j (ov l j)) b) n b
def leq (b : Option (List Int)) (w : List Int) : Prop := ∃ x, b = some x ∧ bet w x = false
set_option maxHeartbeats 200000 in
theorem updW_ok (b : Option (List Int)) (w : List Int) : (∀ v, leq b v → leq (updW b w) v) ∧ leq (updW b w) w ∧ (updW b w = b ∨ updW b w = some w) := by
  cases b with
  | none =>
    refine ⟨fun v hv => ?_, ⟨w, rfl, bet_rf w⟩, Or.inr rfl⟩
    obtain ⟨x, h1, h2⟩ := hv
    cases h1
  | some v =>
    show (∀ y, leq (some v) y → leq (if bet w v then some w else some v) y) ∧ leq (if bet w v then some w else some v) w ∧ ((if bet w v then some w else some v) = some v ∨ (if bet w v then some w else some v) = some w)
    cases q : bet w v with
    | true =>
      rw [if_pos rfl]
      refine ⟨fun y hy => ?_, ⟨w, rfl, bet_rf w⟩, Or.inr rfl⟩
      obtain ⟨x, h1, h2⟩ := hy
      cases h1
      exact ⟨w, rfl, bet_tr h2 (bet_as q)⟩
    | false => exact ⟨fun y hy => hy, ⟨v, rfl, q⟩, Or.inl rfl⟩
set_option maxHeartbeats 200000 in
theorem lp_ok {f : Option (List Int) → Nat → Option (List Int)} {Q : Nat → List Int → Prop} (hf : ∀ b j, (∀ v, leq b v → leq (f b j) v) ∧ (∀ w, Q j w → leq (f b j) w) ∧ (f b j = b ∨ ∃ w, Q j w ∧ f b j = some w)) (b : Option (List Int)) : ∀ m,
    (∀ v, leq b v → leq (lp f m b) v) ∧ (∀ j w, j < m → Q j w → leq (lp f m b) w) ∧ (lp f m b = b ∨ ∃ j w, j < m ∧ Q j w ∧ lp f m b = some w) := by
  intro m
  induction m with
  | zero => exact ⟨fun v hv => hv, fun j w hj => absurd hj (by omega), Or.inl rfl⟩
  | succ m ih =>
    obtain ⟨h1, h2, h3⟩ := ih
    obtain ⟨g1, g2, g3⟩ := hf (lp f m b) m
    show (∀ v, leq b v → leq (f (lp f m b) m) v) ∧ (∀ j w, j < m + 1 → Q j w → leq (f (lp f m b) m) w) ∧ (f (lp f m b) m = b ∨ ∃ j w, j < m + 1 ∧ Q j w ∧ f (lp f m b) m = some w)
    refine ⟨fun v hv => g1 v (h1 v hv), fun j w hj q => ?_, ?_⟩
    · rcases Nat.lt_succ_iff_lt_or_eq.mp hj with y | y
      · exact g1 w (h2 j w y q)
      · rw [y] at q; exact g2 w q
    · rcases g3 with g3 | ⟨w, w1, w2⟩
      · rw [g3]
        rcases h3 with h3 | ⟨j, w, w0, w1, w2⟩
        · exact Or.inl h3
        · exact Or.inr ⟨j, w, by omega, w1, w2⟩
      · exact Or.inr ⟨m, w, by omega, w1, w2⟩
set_option maxHeartbeats 200000 in
theorem mgf_ok {n : Nat} {sz : Nat → Nat} {L : Nat → Int → Int} {ov : Nat → Nat → Nat} : ∀ (d u l : Nat) (pre : List Int) (b : Option (List Int)),
    (∀ v, leq b v → leq (mgf n sz L ov d u l pre b) v) ∧ (∀ r, Cmp n sz L ov d u l r → leq (mgf n sz L ov d u l pre b) (pre ++ r)) ∧ (mgf n sz L ov d u l pre b = b ∨ ∃ r, Cmp n sz L ov d u l r ∧ mgf n sz L ov d u l pre b = some (pre ++ r)) := by
  intro d
  induction d with
  | zero =>
    intro u l pre b
    obtain ⟨h1, h2, h3⟩ := updW_ok b pre
    refine ⟨h1, fun r hr => ?_, ?_⟩
    · have hr : r = [] := hr
      rw [hr, List.append_nil]; exact h2
    · rcases h3 with h3 | h3
      · exact Or.inl h3
      · exact Or.inr ⟨[], rfl, by rw [List.append_nil]; exact h3⟩
  | succ d ih =>
    intro u l pre b
    obtain ⟨h1, h2, h3⟩ := lp_ok (f := fun b j => if u.testBit j then b else mgf n sz L ov d (u ||| 2 ^ j) j (pre ++ sgm sz L j (ov l j)) b) (Q := fun j w => u.testBit j = false ∧ ∃ r', w = pre ++ (sgm sz L j (ov l j) ++ r') ∧ Cmp n sz L ov d (u ||| 2 ^ j) j r') (fun b j => by
      cases q : u.testBit j with
      | true => exact ⟨fun v hv => by rw [if_pos rfl]; exact hv, fun w hw => absurd hw.1 (by simp), Or.inl (by rw [if_pos rfl])⟩
      | false =>
        obtain ⟨g1, g2, g3⟩ := ih (u ||| 2 ^ j) j (pre ++ sgm sz L j (ov l j)) b
        show (∀ v, leq b v → leq (mgf n sz L ov d (u ||| 2 ^ j) j (pre ++ sgm sz L j (ov l j)) b) v) ∧ (∀ w, _ → leq (mgf n sz L ov d (u ||| 2 ^ j) j (pre ++ sgm sz L j (ov l j)) b) w) ∧ (mgf n sz L ov d (u ||| 2 ^ j) j (pre ++ sgm sz L j (ov l j)) b = b ∨ ∃ w, _ ∧ mgf n sz L ov d (u ||| 2 ^ j) j (pre ++ sgm sz L j (ov l j)) b = some w)
        refine ⟨g1, fun w hw => ?_, ?_⟩
        · obtain ⟨-, r', w1, w2⟩ := hw
          rw [w1, ← List.append_assoc]
          exact g2 r' w2
        · rcases g3 with g3 | ⟨r', w1, w2⟩
          · exact Or.inl g3
          · exact Or.inr ⟨pre ++ (sgm sz L j (ov l j) ++ r'), ⟨rfl, r', rfl, w1⟩, by rw [w2, List.append_assoc]⟩) b n
    refine ⟨h1, fun r hr => ?_, ?_⟩
    · obtain ⟨j, j1, j2, r', j3, j4⟩ := hr
      rw [j3]
      exact h2 j _ j1 ⟨j2, r', rfl, j4⟩
    · rcases h3 with h3 | ⟨j, w, w1, ⟨w2, r', w3, w4⟩, w5⟩
      · exact Or.inl h3
      · exact Or.inr ⟨sgm sz L j (ov l j) ++ r', ⟨j, w1, w2, r', rfl, w4⟩, by rw [← w3]; exact w5⟩
set_option maxHeartbeats 200000 in
/-- the search finds the one least word -/
theorem mgf_is {n : Nat} {sz : Nat → Nat} {L : Nat → Int → Int} {ov : Nat → Nat → Nat} {d u l : Nat} {w : List Int} (hw : Cmp n sz L ov d u l w) (m : ∀ r, Cmp n sz L ov d u l r → bet r w = false) : mgf n sz L ov d u l [] none = some w := by
  obtain ⟨-, h2, h3⟩ := mgf_ok (n := n) (sz := sz) (L := L) (ov := ov) d u l [] none
  obtain ⟨x, x1, x2⟩ := h2 w hw
  rcases h3 with h3 | ⟨r, r1, r2⟩
  · rw [h3] at x1; cases x1
  · rw [r2]
    rw [r2] at x1
    cases x1
    exact congrArg some (bet_eq (m r r1) x2)
