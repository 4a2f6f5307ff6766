/-! MASKS and sets of eight -/
def anN (a b : Nat) : Nat := a &&& (255 - b)
set_option maxHeartbeats 200000 in
theorem anN_f : ∀ a b : Fin 256, bnd ((a.val : Nat) : Int) (bxr ((b.val : Nat) : Int) (-1)) = ((anN a.val b.val : Nat) : Int) := by decide +kernel
set_option maxHeartbeats 200000 in
theorem anN_e {a b : Nat} (ha : a < 256) (hb : b < 256) : bnd (a : Int) (bxr (b : Int) (-1)) = ((anN a b : Nat) : Int) := anN_f ⟨a, ha⟩ ⟨b, hb⟩
set_option maxHeartbeats 200000 in
theorem anN_le (a b : Nat) : anN a b ≤ a := Nat.and_le_left
set_option maxHeartbeats 200000 in
theorem anN_tb {a b j : Nat} (ha : a < 256) (hb : b < 256) : (anN a b).testBit j = (a.testBit j && !b.testBit j) := by
  unfold anN
  rw [Nat.testBit_and]
  by_cases y : j < 8
  · have e : (255 - b).testBit j = !b.testBit j := by
      have := Nat.testBit_two_pow_sub_succ (n := 8) (x := b) hb j
      rw [show 2 ^ 8 - (b + 1) = 255 - b by omega] at this
      rw [this]
      simp [y]
    rw [e]
  · have z : a.testBit j = false := Nat.testBit_lt_two_pow (Nat.lt_of_lt_of_le ha (show 2 ^ 8 ≤ 2 ^ j from Nat.pow_le_pow_right (by omega) (by omega)))
    rw [z]; rfl
set_option maxHeartbeats 200000 in
theorem tb8 {a j : Nat} (ha : a < 256) (h : a.testBit j = true) : j < 8 := by
  apply Classical.byContradiction
  intro y
  have z : a.testBit j = false := Nat.testBit_lt_two_pow (Nat.lt_of_lt_of_le ha (show 2 ^ 8 ≤ 2 ^ j from Nat.pow_le_pow_right (by omega) (by omega)))
  rw [z] at h; cases h
set_option maxHeartbeats 200000 in
theorem or2_lt {s j : Nat} (hs : s < 256) (hj : j < 8) : s ||| 2 ^ j < 256 := Nat.or_lt_two_pow (n := 8) hs (Nat.pow_lt_pow_right (by omega) hj)
set_option maxHeartbeats 200000 in
theorem or2_tb (s j k : Nat) : (s ||| 2 ^ j).testBit k = (s.testBit k || decide (j = k)) := by rw [Nat.testBit_or, Nat.testBit_two_pow]
set_option maxHeartbeats 200000 in
theorem or2_gt {s j : Nat} (h : s.testBit j = false) : s < s ||| 2 ^ j := by
  have h1 : s ≤ s ||| 2 ^ j := Nat.left_le_or
  rcases Nat.lt_or_eq_of_le h1 with h2 | h2
  · exact h2
  · have := or2_tb s j j
    rw [← h2, h] at this
    simp at this
set_option maxHeartbeats 200000 in
theorem bor_or {s j : Nat} (hs : s < 256) (hj : j < 8) : bor (s : Int) (shl 1 (j : Int)) = ((s ||| 2 ^ j : Nat) : Int) := by
  have := bor_bit (s := s) (v := (j : Int)) (by omega) (by omega) (by omega)
  rw [this]; simp
/-- s is a part of A -/
def Sub (s A : Nat) : Prop := ∀ j, s.testBit j = true → A.testBit j = true
set_option maxHeartbeats 200000 in
theorem Sub.or {s A j : Nat} (h : Sub s A) (hj : A.testBit j = true) : Sub (s ||| 2 ^ j) A := by
  intro k hk
  rw [or2_tb, Bool.or_eq_true] at hk
  rcases hk with y | y
  · exact h k y
  · have := of_decide_eq_true y
    rw [← this]; exact hj
set_option maxHeartbeats 200000 in
theorem Sub.eq {s A : Nat} (hs : s < 256) (hA : A < 256) (h : Sub s A) (g : ∀ j, j < 8 → A.testBit j = true → s.testBit j = true) : s = A := by
  apply Nat.eq_of_testBit_eq
  intro j
  cases q : s.testBit j with
  | true => exact (h j q).symm
  | false =>
    cases q2 : A.testBit j with
    | false => rfl
    | true => rw [g j (tb8 hA q2) q2] at q; cases q
set_option maxHeartbeats 200000 in
theorem anN_0 {a b : Nat} (ha : a < 256) (hb : b < 256) : anN a b = 0 ↔ Sub a b := by
  constructor
  · intro h j hj
    have := anN_tb (j := j) ha hb
    rw [h, Nat.zero_testBit, hj] at this
    cases q : b.testBit j with
    | true => rfl
    | false => rw [q] at this; cases this
  · intro h
    apply Nat.eq_of_testBit_eq
    intro j
    rw [anN_tb ha hb, Nat.zero_testBit]
    cases q : a.testBit j with
    | false => rfl
    | true => rw [h j q]; rfl
set_option maxHeartbeats 200000 in
theorem bcN_or {s j n : Nat} (hj : j < n) (h : s.testBit j = false) : bcN n (s ||| 2 ^ j) = bcN n s + 1 := by
  have key : ∀ m, bcN m (s ||| 2 ^ j) = bcN m s + (if j < m then 1 else 0) := by
    intro m
    induction m with
    | zero => rfl
    | succ m ih =>
      show bcN m (s ||| 2 ^ j) + (if (s ||| 2 ^ j).testBit m then 1 else 0) = bcN m s + (if s.testBit m then 1 else 0) + (if j < m + 1 then 1 else 0)
      rw [ih, or2_tb]
      by_cases y : j = m
      · subst y
        simp [h]
      · simp only [show decide (j = m) = false from decide_eq_false y, Bool.or_false]
        by_cases z : j < m
        · rw [if_pos z, if_pos (show j < m + 1 by omega)]; omega
        · rw [if_neg z, if_neg (show ¬ j < m + 1 by omega)]; omega
  rw [key n, if_pos hj]
set_option maxHeartbeats 200000 in
theorem bcN_sub {s A : Nat} (h : Sub s A) (n : Nat) : bcN n s ≤ bcN n A ∧ (bcN n s = bcN n A → ∀ j, j < n → A.testBit j = true → s.testBit j = true) := by
  induction n with
  | zero => exact ⟨Int.le_refl _, fun _ j hj => absurd hj (by omega)⟩
  | succ n ih =>
    have e1 : bcN (n + 1) s = bcN n s + (if s.testBit n then 1 else 0) := rfl
    have e2 : bcN (n + 1) A = bcN n A + (if A.testBit n then 1 else 0) := rfl
    rw [e1, e2]
    cases q : s.testBit n with
    | true =>
      rw [h n q]
      refine ⟨by omega, fun e j hj hA => ?_⟩
      rcases Nat.lt_succ_iff_lt_or_eq.mp hj with z | z
      · exact ih.2 (by omega) j z hA
      · rw [z]; exact q
    | false =>
      cases q2 : A.testBit n with
      | true =>
        have := ih.1
        refine ⟨by simp; omega, fun e => by simp at e; omega⟩
      | false =>
        refine ⟨by simpa using ih.1, fun e j hj hA => ?_⟩
        rcases Nat.lt_succ_iff_lt_or_eq.mp hj with z | z
        · exact ih.2 (by simpa using e) j z hA
        · rw [z, q2] at hA; cases hA
/-- the greatest, 0 at least -/
def mz : Nat → (Nat → Int) → Int
  | 0, _ => 0
  | n + 1, f => max (mz n f) (f n)
set_option maxHeartbeats 200000 in
theorem mz_ge {n : Nat} {f : Nat → Int} : 0 ≤ mz n f ∧ ∀ j, j < n → f j ≤ mz n f := by
  induction n with
  | zero => exact ⟨Int.le_refl _, fun j hj => absurd hj (by omega)⟩
  | succ n ih =>
    have e : mz (n + 1) f = max (mz n f) (f n) := rfl
    rw [e]
    refine ⟨by omega, fun j hj => ?_⟩
    rcases Nat.lt_succ_iff_lt_or_eq.mp hj with z | z
    · have := ih.2 j z; omega
    · rw [z]; omega
set_option maxHeartbeats 200000 in
theorem mz_le {n : Nat} {f : Nat → Int} {v : Int} (v0 : 0 ≤ v) (h : ∀ j, j < n → f j ≤ v) : mz n f ≤ v := by
  induction n with
  | zero => exact v0
  | succ n ih =>
    have e : mz (n + 1) f = max (mz n f) (f n) := rfl
    have h1 := ih (fun j hj => h j (by omega))
    have h2 := h n (by omega)
    rw [e]; omega
set_option maxHeartbeats 200000 in
theorem mz_congr {n : Nat} {f g : Nat → Int} (h : ∀ j, j < n → f j = g j) : mz n f = mz n g := by
  induction n with
  | zero => rfl
  | succ n ih => show max (mz n f) (f n) = max (mz n g) (g n); rw [ih (fun j hj => h j (by omega)), h n (by omega)]
set_option maxHeartbeats 200000 in
theorem mz_is {n : Nat} {f : Nat → Int} : mz n f = 0 ∨ ∃ j, j < n ∧ f j = mz n f := by
  induction n with
  | zero => exact Or.inl rfl
  | succ n ih =>
    have e : mz (n + 1) f = max (mz n f) (f n) := rfl
    by_cases y : f n ≤ mz n f
    · have e2 : mz (n + 1) f = mz n f := by rw [e]; omega
      rw [e2]
      rcases ih with z | ⟨j, z1, z2⟩
      · exact Or.inl z
      · exact Or.inr ⟨j, by omega, z2⟩
    · exact Or.inr ⟨n, by omega, by rw [e]; omega⟩
/-- the first that suits -/
def fsN : Nat → (Nat → Bool) → Nat
  | 0, _ => 0
  | n + 1, p => if fsN n p < n then fsN n p else if p n then n else n + 1
set_option maxHeartbeats 200000 in
theorem fsN_s (n : Nat) (p : Nat → Bool) : fsN n p ≤ n ∧ (∀ i, i < fsN n p → p i = false) ∧ (fsN n p < n → p (fsN n p) = true) := by
  induction n with
  | zero => exact ⟨Nat.le_refl _, fun i hi => absurd hi (Nat.not_lt_zero _), fun h => absurd h (Nat.not_lt_zero _)⟩
  | succ n ih =>
    have e : fsN (n + 1) p = if fsN n p < n then fsN n p else if p n then n else n + 1 := rfl
    rw [e]
    by_cases y : fsN n p < n
    · rw [if_pos y]
      exact ⟨by omega, ih.2.1, fun _ => ih.2.2 y⟩
    · rw [if_neg y]
      have e3 : fsN n p = n := by omega
      cases q : p n with
      | true =>
        rw [if_pos rfl]
        exact ⟨by omega, fun i hi => ih.2.1 i (by omega), fun _ => q⟩
      | false =>
        rw [if_neg (by decide)]
        refine ⟨Nat.le_refl _, fun i hi => ?_, fun h => absurd h (by omega)⟩
        rcases Nat.lt_succ_iff_lt_or_eq.mp hi with z | z
        · exact ih.2.1 i (by omega)
        · rw [z]; exact q
set_option maxHeartbeats 200000 in
theorem fsN_is {n j : Nat} {p : Nat → Bool} (hj : j < n) (hp : p j = true) (h : ∀ i, i < j → p i = false) : fsN n p = j := by
  have s := fsN_s n p
  apply Classical.byContradiction
  intro y
  rcases Nat.lt_or_gt_of_ne y with z | z
  · have := s.2.2 (by omega)
    rw [h _ z] at this; cases this
  · have := s.2.1 j z
    rw [hp] at this; cases this
set_option maxHeartbeats 200000 in
theorem fsN_lt {n j : Nat} {p : Nat → Bool} (hj : j < n) (hp : p j = true) : fsN n p < n := by
  have s := fsN_s n p
  apply Classical.byContradiction
  intro y
  have := s.2.1 j (by omega)
  rw [hp] at this; cases this
/-! THE SHELF: what is best behind a set that was opened -/
def wS (c : Nat → Int) (j d : Int) : Int := c (172 + j).toNat * leftS c j d
set_option maxHeartbeats 200000 in
theorem wS_bd {c : Nat → Int} {j d : Int} (w : WF c) (j0 : 0 ≤ j) (j8 : j < 8) : 0 ≤ wS c j d ∧ wS c j d ≤ 1188 := by
  have wj := w.wj j0 j8
  have h1 := leftS_bd (d := d) wj
  have h2 := wj.1
  have h3 := wj.2.2.2.2.1
  have h4 := wj.2.2.2.2.2.2.1
  have := mul_bd (x := c (172 + j).toNat) (y := leftS c j d) (a := 99) (b := 12) h3.1 h3.2 h1.1 (by omega)
  unfold wS
  omega
def shV (c : Nat → Int) (T : Nat → Int) (A s j : Nat) : Int := if A.testBit j && !s.testBit j then wS c (j : Int) (c 0 + bcN 8 s) + T (s ||| 2 ^ j) else 0
def shT (c : Nat → Int) (A : Nat) : Nat → Nat → Int
  | 0 => fun _ => 0
  | i + 1 => fun x => if x = 255 - i then mz 8 (shV c (shT c A i) A x) else shT c A i x
def shR (c : Nat → Int) (A s : Nat) : Int := shT c A 256 s
set_option maxHeartbeats 200000 in
theorem shT_s (c : Nat → Int) (A i x : Nat) : shT c A (i + 1) x = if x = 255 - i then mz 8 (shV c (shT c A i) A x) else shT c A i x := rfl
set_option maxHeartbeats 200000 in
theorem shT_bd {c : Nat → Int} (w : WF c) (A i x : Nat) : 0 ≤ shT c A i x ∧ shT c A i x ≤ 1188 * i := by
  induction i generalizing x with
  | zero => exact ⟨Int.le_refl _, by show (0 : Int) ≤ _; omega⟩
  | succ i ih =>
    rw [shT_s]
    split
    · refine ⟨mz_ge.1, mz_le (by omega) (fun j hj => ?_)⟩
      unfold shV
      split
      · have h1 := wS_bd (d := c 0 + bcN 8 x) w (j := (j : Int)) (by omega) (by omega)
        have h2 := ih (x ||| 2 ^ j)
        omega
      · omega
    · have := ih x
      omega
set_option maxHeartbeats 200000 in
theorem shR_bd {c : Nat → Int} (w : WF c) (A x : Nat) : 0 ≤ shR c A x ∧ shR c A x ≤ 304128 := by
  have := shT_bd w A 256 x
  unfold shR
  omega
set_option maxHeartbeats 200000 in
theorem shT_st {c : Nat → Int} {A i x : Nat} (h : 256 - i ≤ x) (i8 : i ≤ 256) : ∀ m, i + m ≤ 256 → shT c A (i + m) x = shT c A i x := by
  intro m
  induction m with
  | zero => intro _; rfl
  | succ m ih =>
    intro hm
    rw [show i + (m + 1) = i + m + 1 by omega, shT_s, if_neg (by omega)]
    exact ih (by omega)
set_option maxHeartbeats 200000 in
theorem shR_at {c : Nat → Int} {A i x : Nat} (h : 256 - i ≤ x) (i8 : i ≤ 256) : shT c A i x = shR c A x := by
  have := shT_st (c := c) (A := A) h i8 (256 - i) (by omega)
  rw [show i + (256 - i) = 256 by omega] at this
  exact this.symm
set_option maxHeartbeats 200000 in
theorem shR_eq {c : Nat → Int} {A s : Nat} (hs : s < 256) : shR c A s = mz 8 (shV c (shR c A) A s) := by
  rw [← shR_at (c := c) (A := A) (i := 255 - s + 1) (x := s) (by omega) (by omega), shT_s, if_pos (by omega)]
  refine mz_congr (fun j hj => ?_)
  unfold shV
  cases q : (A.testBit j && !s.testBit j) with
  | false => rfl
  | true =>
    rw [if_pos rfl, if_pos rfl]
    have q2 : s.testBit j = false := by
      rw [Bool.and_eq_true] at q
      cases z : s.testBit j with
      | false => rfl
      | true => have := q.2; rw [z] at this; cases this
    have := or2_gt q2
    rw [shR_at (by omega) (by omega)]
set_option maxHeartbeats 200000 in
theorem shV_bd {c : Nat → Int} (w : WF c) {A s j : Nat} (hj : j < 8) : 0 ≤ shV c (shR c A) A s j ∧ shV c (shR c A) A s j ≤ 305316 := by
  unfold shV
  split
  · have h1 := wS_bd (d := c 0 + bcN 8 s) w (j := (j : Int)) (by omega) (by omega)
    have h2 := shR_bd w A (s ||| 2 ^ j)
    omega
  · omega
/-- which jar is opened next -/
def inB (A s j : Nat) : Bool := A.testBit j && !s.testBit j
def shP (c : Nat → Int) (A s j : Nat) : Bool := inB A s j && decide (shV c (shR c A) A s j = shR c A s)
def shJ (c : Nat → Int) (A s : Nat) : Nat := fsN 8 (shP c A s)
set_option maxHeartbeats 200000 in
theorem shJ_ok {c : Nat → Int} (w : WF c) {A s : Nat} (hA : A < 256) (hs : s < 256) (h : Sub s A) (ne : s ≠ A) : shJ c A s < 8 ∧ shP c A s (shJ c A s) = true := by
  have ex : ∃ j, j < 8 ∧ shP c A s j = true := by
    have e1 : ∃ j, j < 8 ∧ inB A s j = true := by
      apply Classical.byContradiction
      intro z
      refine ne (h.eq hs hA (fun j hj hb => ?_))
      apply Classical.byContradiction
      intro y
      refine z ⟨j, hj, ?_⟩
      unfold inB
      cases q : s.testBit j with
      | true => exact absurd q y
      | false => rw [hb]; rfl
    obtain ⟨j, hj, hin⟩ := e1
    have m := mz_ge (n := 8) (f := shV c (shR c A) A s)
    rw [← shR_eq hs] at m
    rcases mz_is (n := 8) (f := shV c (shR c A) A s) with z | ⟨k, z1, z2⟩
    · rw [← shR_eq hs] at z
      refine ⟨j, hj, ?_⟩
      have h1 := m.2 j hj
      have h2 := shV_bd w (A := A) (s := s) hj
      unfold shP
      rw [hin, decide_eq_true (show shV c (shR c A) A s j = shR c A s by omega)]; rfl
    · rw [← shR_eq hs] at z2
      cases q : inB A s k with
      | true =>
        refine ⟨k, z1, ?_⟩
        unfold shP
        rw [q, decide_eq_true z2]; rfl
      | false =>
        have v0 : shV c (shR c A) A s k = 0 := by
          unfold shV
          unfold inB at q
          rw [q]; rfl
        refine ⟨j, hj, ?_⟩
        have h1 := m.2 j hj
        have h2 := shV_bd w (A := A) (s := s) hj
        unfold shP
        rw [hin, decide_eq_true (show shV c (shR c A) A s j = shR c A s by omega)]; rfl
  obtain ⟨j, hj, hp⟩ := ex
  have l := fsN_lt hj hp
  exact ⟨l, (fsN_s 8 (shP c A s)).2.2 l⟩
/-- the sets on the way -/
def stS (c : Nat → Int) (A : Nat) : Nat → Nat
  | 0 => 0
  | k + 1 => if stS c A k = A then A else stS c A k ||| 2 ^ shJ c A (stS c A k)
set_option maxHeartbeats 200000 in
theorem stS_ok {c : Nat → Int} (w : WF c) {A : Nat} (hA : A < 256) (k : Nat) (hk : (k : Int) ≤ bcN 8 A) : stS c A k < 256 ∧ Sub (stS c A k) A ∧ bcN 8 (stS c A k) = (k : Int) := by
  induction k with
  | zero =>
    refine ⟨by show 0 < 256; omega, fun j hj => ?_, ?_⟩
    · have : (0 : Nat).testBit j = true := hj
      rw [Nat.zero_testBit] at this; cases this
    · show bcN 8 0 = 0
      decide
  | succ k ih =>
    obtain ⟨h1, h2, h3⟩ := ih (by omega)
    have ne : stS c A k ≠ A := by
      intro e
      rw [e] at h3
      omega
    have sj := shJ_ok w hA h1 h2 ne
    have e : stS c A (k + 1) = stS c A k ||| 2 ^ shJ c A (stS c A k) := by
      show (if stS c A k = A then A else stS c A k ||| 2 ^ shJ c A (stS c A k)) = _
      rw [if_neg ne]
    have hp := sj.2
    unfold shP inB at hp
    rw [Bool.and_eq_true, Bool.and_eq_true] at hp
    have nb : (stS c A k).testBit (shJ c A (stS c A k)) = false := by
      cases q : (stS c A k).testBit (shJ c A (stS c A k)) with
      | false => rfl
      | true => have := hp.1.2; rw [q] at this; cases this
    rw [e]
    refine ⟨or2_lt h1 sj.1, h2.or hp.1.1, ?_⟩
    rw [bcN_or sj.1 nb, h3]; omega
set_option maxHeartbeats 200000 in
theorem stS_ne {c : Nat → Int} (w : WF c) {A k : Nat} (hA : A < 256) (hk : (k : Int) < bcN 8 A) : stS c A k ≠ A ∧ stS c A (k + 1) = stS c A k ||| 2 ^ shJ c A (stS c A k) := by
  obtain ⟨h1, h2, h3⟩ := stS_ok w hA k (by omega)
  have ne : stS c A k ≠ A := by
    intro e
    rw [e] at h3
    omega
  refine ⟨ne, ?_⟩
  show (if stS c A k = A then A else stS c A k ||| 2 ^ shJ c A (stS c A k)) = _
  rw [if_neg ne]
set_option maxHeartbeats 200000 in
theorem stS_end {c : Nat → Int} (w : WF c) {A k : Nat} (hA : A < 256) (hk : (k : Int) = bcN 8 A) : stS c A k = A := by
  obtain ⟨h1, h2, h3⟩ := stS_ok w hA k (by omega)
  exact h2.eq h1 hA ((bcN_sub h2 8).2 (by omega))
