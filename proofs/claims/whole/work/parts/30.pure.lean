/-! THE PURE SIDE: helpers: guards, heap reads behind writes, loops -/
theorem gd_T {α : Type} {i : Decidable True} (k : Option α) : @gd α True i k = k := by unfold gd; exact if_pos trivial
theorem gd_pos {α : Type} {p : Prop} [Decidable p] (h : p) (k : Option α) : gd p k = k := by unfold gd; rw [if_pos h]
theorem nn_s {β : Type} (q : Nat) (k : Nat → Option β) : nn (some q) k = k q := rfl
theorem bd_s {α β : Type} (q : α) (k : α → Option β) : bd (some q) k = k q := rfl
theorem bd2_s {α β γ : Type} (a : α) (b : β) (k : α → β → Option γ) : bd2 (some (a, b)) k = k a b := rfl
theorem lt_d {α β : Type} (v : α) (k : α → Option β) : lt v k = k v := rfl
theorem nn_e {β : Type} {v : Option Nat} {q : Nat} (h : v = some q) (k : Nat → Option β) : nn v k = k q := by rw [h]; rfl
theorem bd_e {α β : Type} {v : Option α} {q : α} (h : v = some q) (k : α → Option β) : bd v k = k q := by rw [h]; rfl
theorem bd2_e {α β γ : Type} {v : Option (α × β)} {a : α} {b : β} (h : v = some (a, b)) (k : α → β → Option γ) : bd2 v k = k a b := by rw [h]; rfl
theorem w32_lo (x : Int) : -2147483648 ≤ w32 x := (w32_rg x).1
theorem w32_hi (x : Int) : w32 x < 2147483648 := (w32_rg x).2
theorem w32_of {x : Int} (h : rg x) : w32 x = x := w32_id h.1 h.2
theorem w64_of {x : Int} (h : rl x) : w64 x = x := w64_id h.1 h.2
theorem i32_ti (x : Int) : (Int32.ofInt x).toInt = w32 x := by rw [← of_w32, ti_of (w32_rg x)]
theorem up2_same {α : Type} (F : Nat → Nat → α) (i j : Nat) (v : α) : up2 F i j v i j = v := by simp [up2, va_up]
theorem up2_if {α : Type} (F : Nat → Nat → α) (i j x y : Nat) (v : α) : up2 F i j v x y = if x = i ∧ y = j then v else F x y := by
  unfold up2 va_up
  by_cases h1 : x = i
  · subst h1
    by_cases h2 : y = j
    · simp [h2]
    · simp [h2]
  · simp [h1]
/-! kinds, sizes behind writes -/
theorem hK_pI (h : Hp) (f a : Nat) (v : Int) : hK (pI h f a v) = hK h := rfl
theorem hK_pJ (h : Hp) (f a : Nat) (v : Int) : hK (pJ h f a v) = hK h := rfl
theorem hK_pR (h : Hp) (f a v : Nat) : hK (pR h f a v) = hK h := rfl
theorem hK_sA (h : Hp) (a : Nat) (i v : Int) : hK (sA h a i v) = hK h := rfl
theorem hK_sB (h : Hp) (a : Nat) (i v : Int) : hK (sB h a i v) = hK h := rfl
theorem hK_sC (h : Hp) (a : Nat) (i : Int) (v : Nat) : hK (sC h a i v) = hK h := rfl
theorem hK_cp (h : Hp) (a0 a : Nat) (x y z : Int) : hK (cpB h a0 x a y z) = hK h := rfl
theorem hZ_pI (h : Hp) (f a : Nat) (v : Int) : hZ (pI h f a v) = hZ h := rfl
theorem hZ_pJ (h : Hp) (f a : Nat) (v : Int) : hZ (pJ h f a v) = hZ h := rfl
theorem hZ_pR (h : Hp) (f a v : Nat) : hZ (pR h f a v) = hZ h := rfl
theorem hZ_sA (h : Hp) (a : Nat) (i v : Int) : hZ (sA h a i v) = hZ h := rfl
theorem hZ_sB (h : Hp) (a : Nat) (i v : Int) : hZ (sB h a i v) = hZ h := rfl
theorem hZ_sC (h : Hp) (a : Nat) (i : Int) (v : Nat) : hZ (sC h a i v) = hZ h := rfl
theorem hZ_cp (h : Hp) (a0 a : Nat) (x y z : Int) : hZ (cpB h a0 x a y z) = hZ h := rfl
/-! ints of fields -/
theorem gI_pI (h : Hp) (f a f' a' : Nat) (v : Int) : gI (pI h f a v) f' a' = if f' = f ∧ a' = a then w32 v else gI h f' a' := by
  show (up2 (hI h) f a (Int32.ofInt v) f' a').toInt = _
  rw [up2_if]
  split
  · exact i32_ti v
  · rfl
theorem gI_pIs {h : Hp} {f a : Nat} {v : Int} (r : rg v) : gI (pI h f a v) f a = v := by rw [gI_pI, if_pos ⟨rfl, rfl⟩, w32_of r]
theorem gI_pJ (h : Hp) (f a : Nat) (v : Int) : gI (pJ h f a v) = gI h := rfl
theorem gI_pR (h : Hp) (f a v : Nat) : gI (pR h f a v) = gI h := rfl
theorem gI_sA (h : Hp) (a : Nat) (i v : Int) : gI (sA h a i v) = gI h := rfl
theorem gI_sB (h : Hp) (a : Nat) (i v : Int) : gI (sB h a i v) = gI h := rfl
theorem gI_sC (h : Hp) (a : Nat) (i : Int) (v : Nat) : gI (sC h a i v) = gI h := rfl
theorem gI_cp (h : Hp) (a0 a : Nat) (x y z : Int) : gI (cpB h a0 x a y z) = gI h := rfl
/-! longs of fields -/
theorem gJ_pJ (h : Hp) (f a f' a' : Nat) (v : Int) : gJ (pJ h f a v) f' a' = if f' = f ∧ a' = a then w64 v else gJ h f' a' := by
  show (up2 (hJ h) f a (Int64.ofInt v) f' a').toInt = _
  rw [up2_if]
  split
  · rw [← tj_of (w64_rl v)]
    congr 1
    exact (of_w64 v).symm
  · rfl
theorem gJ_pI (h : Hp) (f a : Nat) (v : Int) : gJ (pI h f a v) = gJ h := rfl
theorem gJ_pR (h : Hp) (f a v : Nat) : gJ (pR h f a v) = gJ h := rfl
theorem gJ_sA (h : Hp) (a : Nat) (i v : Int) : gJ (sA h a i v) = gJ h := rfl
theorem gJ_sB (h : Hp) (a : Nat) (i v : Int) : gJ (sB h a i v) = gJ h := rfl
theorem gJ_sC (h : Hp) (a : Nat) (i : Int) (v : Nat) : gJ (sC h a i v) = gJ h := rfl
theorem gJ_cp (h : Hp) (a0 a : Nat) (x y z : Int) : gJ (cpB h a0 x a y z) = gJ h := rfl
/-! references of fields -/
theorem gR_pR (h : Hp) (f a f' a' v : Nat) : gR (pR h f a v) f' a' = if f' = f ∧ a' = a then some v else gR h f' a' := by
  show up2 (hR h) f a (some v) f' a' = _
  rw [up2_if]; rfl
theorem gR_pI (h : Hp) (f a : Nat) (v : Int) : gR (pI h f a v) = gR h := rfl
theorem gR_pJ (h : Hp) (f a : Nat) (v : Int) : gR (pJ h f a v) = gR h := rfl
theorem gR_sA (h : Hp) (a : Nat) (i v : Int) : gR (sA h a i v) = gR h := rfl
theorem gR_sB (h : Hp) (a : Nat) (i v : Int) : gR (sB h a i v) = gR h := rfl
theorem gR_sC (h : Hp) (a : Nat) (i : Int) (v : Nat) : gR (sC h a i v) = gR h := rfl
theorem gR_cp (h : Hp) (a0 a : Nat) (x y z : Int) : gR (cpB h a0 x a y z) = gR h := rfl
/-! rows -/
theorem gA_sA (h : Hp) (a a' : Nat) (i v : Int) (j : Nat) : gA (sA h a i v) a' j = if a' = a ∧ j = i.toNat then w32 v else gA h a' j := by
  show (up2 (hA h) a i.toNat (Int32.ofInt v) a' j).toInt = _
  rw [up2_if]
  split
  · exact i32_ti v
  · rfl
theorem gA_sAn {h : Hp} {a a' : Nat} {i v : Int} (n : a' ≠ a) : gA (sA h a i v) a' = gA h a' := by
  funext j; rw [gA_sA, if_neg (fun e => n e.1)]
theorem gA_pI (h : Hp) (f a : Nat) (v : Int) : gA (pI h f a v) = gA h := rfl
theorem gA_pJ (h : Hp) (f a : Nat) (v : Int) : gA (pJ h f a v) = gA h := rfl
theorem gA_pR (h : Hp) (f a v : Nat) : gA (pR h f a v) = gA h := rfl
theorem gA_sB (h : Hp) (a : Nat) (i v : Int) : gA (sB h a i v) = gA h := rfl
theorem gA_sC (h : Hp) (a : Nat) (i : Int) (v : Nat) : gA (sC h a i v) = gA h := rfl
theorem gA_cp (h : Hp) (a0 a : Nat) (x y z : Int) : gA (cpB h a0 x a y z) = gA h := rfl
theorem gB_sB (h : Hp) (a a' : Nat) (i v : Int) (j : Nat) : gB (sB h a i v) a' j = if a' = a ∧ j = i.toNat then w64 v else gB h a' j := by
  show (up2 (hB h) a i.toNat (Int64.ofInt v) a' j).toInt = _
  rw [up2_if]
  split
  · rw [← tj_of (w64_rl v)]
    congr 1
    exact (of_w64 v).symm
  · rfl
theorem gB_pI (h : Hp) (f a : Nat) (v : Int) : gB (pI h f a v) = gB h := rfl
theorem gB_pJ (h : Hp) (f a : Nat) (v : Int) : gB (pJ h f a v) = gB h := rfl
theorem gB_pR (h : Hp) (f a v : Nat) : gB (pR h f a v) = gB h := rfl
theorem gB_sA (h : Hp) (a : Nat) (i v : Int) : gB (sA h a i v) = gB h := rfl
theorem gB_sC (h : Hp) (a : Nat) (i : Int) (v : Nat) : gB (sC h a i v) = gB h := rfl
theorem gC_sC (h : Hp) (a a' : Nat) (i : Int) (v j : Nat) : gC (sC h a i v) a' j = if a' = a ∧ j = i.toNat then some v else gC h a' j := by
  show up2 (hC h) a i.toNat (some v) a' j = _
  rw [up2_if]; rfl
theorem gC_pI (h : Hp) (f a : Nat) (v : Int) : gC (pI h f a v) = gC h := rfl
theorem gC_pJ (h : Hp) (f a : Nat) (v : Int) : gC (pJ h f a v) = gC h := rfl
theorem gC_pR (h : Hp) (f a v : Nat) : gC (pR h f a v) = gC h := rfl
theorem gC_sA (h : Hp) (a : Nat) (i v : Int) : gC (sA h a i v) = gC h := rfl
theorem gC_sB (h : Hp) (a : Nat) (i v : Int) : gC (sB h a i v) = gC h := rfl
theorem gC_cp (h : Hp) (a0 a : Nat) (x y z : Int) : gC (cpB h a0 x a y z) = gC h := rfl
/-! loops -/
theorem wh {S R : Type} (F : Nat → S → Option R) (m : S → Nat) (I : S → Prop) (Q : R → Prop)
    (stp : ∀ fu s, I s → (∀ s', I s' → m s' < m s → ∃ r, F fu s' = some r ∧ Q r) → ∃ r, F (fu + 1) s = some r ∧ Q r) :
    ∀ fu s, I s → m s < fu → ∃ r, F fu s = some r ∧ Q r := by
  intro fu
  induction fu with
  | zero => intro s _ h; exact absurd h (Nat.not_lt_zero _)
  | succ fu ih => intro s hs hm; exact stp fu s hs (fun s' h1 h2 => ih s' h1 (by omega))
theorem whF {S R : Type} (F : Nat → S → Option R) (m : S → Nat) (I : S → Prop) (Q : R → Prop)
    (stp : ∀ fu s, I s → (∀ s', I s' → m s' < m s → ∃ r, F fu s' = some r ∧ Q r) → ∃ r, F (fu + 1) s = some r ∧ Q r)
    (s : S) (hs : I s) (hm : m s < 1000000) : ∃ r, F FU s = some r ∧ Q r := wh F m I Q stp FU s hs hm
/-- a loop that counts up from a to N, with an invariant; a step may leave it -/
theorem flx {S R : Type} (F : Nat → Int → S → Option R) (N : Nat) (I : Nat → S → Prop) (Q : R → Prop)
    (stp : ∀ fu (i : Nat) s, i < N → I i s → (∃ s', I (i + 1) s' ∧ F (fu + 1) (i : Int) s = F fu ((i : Int) + 1) s') ∨ (∃ r, F (fu + 1) (i : Int) s = some r ∧ Q r))
    (ext : ∀ fu s, I N s → ∃ r, F (fu + 1) (N : Int) s = some r ∧ Q r) :
    ∀ fu (a : Nat) s, a ≤ N → I a s → N - a < fu → ∃ r, F fu (a : Int) s = some r ∧ Q r := by
  intro fu
  induction fu with
  | zero => intro a s _ _ h; exact absurd h (Nat.not_lt_zero _)
  | succ fu ih =>
    intro a s ha hI hf
    by_cases hN : a < N
    · rcases stp fu a s hN hI with ⟨s', h1, h2⟩ | h
      · rw [h2]
        exact ih (a + 1) s' hN h1 (by omega)
      · exact h
    · have e : a = N := by omega
      subst e
      exact ext fu s hI
theorem fl {S R : Type} (F : Nat → Int → S → Option R) (N : Nat) (I : Nat → S → Prop) (Q : R → Prop) (a : Nat) (s : S) (ha : a ≤ N) (hs : I a s) (hN : N < 1000000)
    (stp : ∀ fu (i : Nat) s, i < N → I i s → (∃ s', I (i + 1) s' ∧ F (fu + 1) (i : Int) s = F fu ((i : Int) + 1) s') ∨ (∃ r, F (fu + 1) (i : Int) s = some r ∧ Q r))
    (ext : ∀ fu s, I N s → ∃ r, F (fu + 1) (N : Int) s = some r ∧ Q r) : ∃ r, F FU (a : Int) s = some r ∧ Q r :=
  flx F N I Q stp ext FU a s ha hs (show N - a < 1000000 by omega)
/-- a loop that counts down from a to 0, left at 0 or before -/
theorem fdx {S R : Type} (F : Nat → Int → S → Option R) (I : Nat → S → Prop) (Q : R → Prop)
    (stp : ∀ fu (i : Nat) s, I (i + 1) s → (∃ s', I i s' ∧ F (fu + 1) ((i : Int) + 1) s = F fu (i : Int) s') ∨ (∃ r, F (fu + 1) ((i : Int) + 1) s = some r ∧ Q r))
    (ext : ∀ fu s, I 0 s → ∃ r, F (fu + 1) 0 s = some r ∧ Q r) :
    ∀ fu (a : Nat) s, I a s → a < fu → ∃ r, F fu (a : Int) s = some r ∧ Q r := by
  intro fu
  induction fu with
  | zero => intro a s _ h; exact absurd h (Nat.not_lt_zero _)
  | succ fu ih =>
    intro a s hI hf
    cases a with
    | zero => exact ext fu s hI
    | succ a =>
      have e : ((a + 1 : Nat) : Int) = (a : Int) + 1 := by omega
      rw [e]
      rcases stp fu a s hI with ⟨s', h1, h2⟩ | h
      · rw [h2]
        exact ih a s' h1 (by omega)
      · exact h
theorem some_of {R : Type} {x : Option R} {v : R} (h : ∃ r, x = some r ∧ r = v) : x = some v := by
  obtain ⟨r, h1, rfl⟩ := h; exact h1
/-! sums, all, least and most -/
def sm : Nat → (Nat → Int) → Int
  | 0, _ => 0
  | n + 1, f => sm n f + f n
def al : Nat → (Nat → Prop) → Prop := fun n p => ∀ k, k < n → p k
theorem sm_congr {n : Nat} {f g : Nat → Int} (h : ∀ k, k < n → f k = g k) : sm n f = sm n g := by
  induction n with
  | zero => rfl
  | succ n ih => show sm n f + f n = sm n g + g n; rw [ih (fun k hk => h k (by omega)), h n (by omega)]
theorem sm_bd {n : Nat} {f : Nat → Int} {a b : Int} (h : ∀ k, k < n → a ≤ f k ∧ f k ≤ b) : (n : Int) * a ≤ sm n f ∧ sm n f ≤ (n : Int) * b := by
  induction n with
  | zero => simp [sm]
  | succ n ih =>
    have h1 := ih (fun k hk => h k (by omega))
    have h2 := h n (by omega)
    have e1 : ((n + 1 : Nat) : Int) * a = (n : Int) * a + a := by rw [Int.natCast_add, Int.add_mul]; simp
    have e2 : ((n + 1 : Nat) : Int) * b = (n : Int) * b + b := by rw [Int.natCast_add, Int.add_mul]; simp
    rw [e1, e2]
    show _ ≤ sm n f + f n ∧ sm n f + f n ≤ _
    omega
