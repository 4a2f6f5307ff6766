/-! BITS: the machine's ints as numbers (fa_and, fa_or, fb_xorI, s_l: out of kit/laws, for pasting) -/
theorem fa_and (a b : Nat) : nI a &&& nI b = nI (a &&& b) := by
  apply Int32.toBitVec_inj.1
  show BitVec.ofNat 32 a &&& BitVec.ofNat 32 b = BitVec.ofNat 32 (a &&& b)
  apply BitVec.eq_of_getLsbD_eq
  intro i hi
  simp [hi]
theorem fa_or (a b : Nat) : nI a ||| nI b = nI (a ||| b) := by
  apply Int32.toBitVec_inj.1
  show BitVec.ofNat 32 a ||| BitVec.ofNat 32 b = BitVec.ofNat 32 (a ||| b)
  apply BitVec.eq_of_getLsbD_eq
  intro i hi
  simp [hi]
theorem fb_xorI (a b : Nat) : nI a ^^^ nI b = nI (a ^^^ b) := by
  apply Int32.toBitVec_inj.1
  show BitVec.ofNat 32 a ^^^ BitVec.ofNat 32 b = BitVec.ofNat 32 (a ^^^ b)
  apply BitVec.eq_of_getLsbD_eq
  intro i hi
  simp [hi]
theorem s_l : ∀ n, n < 32 → ((nI n &&& 31).toBitVec.smod 32).toNat = n := by decide +kernel
theorem s_u : ∀ n, n < 32 → (((nI n).toUInt32 &&& Int32.toUInt32 31).toBitVec % 32).toNat = n := by decide +kernel
theorem ofI_n (n : Nat) : Int32.ofInt (n : Int) = nI n := Int32.ofInt_eq_ofNat
theorem i2n {x : Int} (h : 0 ≤ x) : ∃ n : Nat, x = (n : Int) := ⟨x.toNat, (Int.toNat_of_nonneg h).symm⟩
theorem bnd_n {a b : Nat} (ha : a < 2147483648) : bnd a b = ((a &&& b : Nat) : Int) := by
  unfold bnd
  rw [ofI_n, ofI_n, fa_and, nI_toInt (Nat.lt_of_le_of_lt Nat.and_le_left ha)]
theorem bnd_n' {a b : Nat} (hb : b < 2147483648) : bnd a b = ((a &&& b : Nat) : Int) := by
  unfold bnd
  rw [ofI_n, ofI_n, fa_and, nI_toInt (Nat.lt_of_le_of_lt Nat.and_le_right hb)]
theorem bor_n {a b : Nat} (ha : a < 2147483648) (hb : b < 2147483648) : bor a b = ((a ||| b : Nat) : Int) := by
  unfold bor
  rw [ofI_n, ofI_n, fa_or, nI_toInt (Nat.or_lt_two_pow (n := 31) ha hb)]
theorem shl_1 {k : Nat} (hk : k < 31) : shl 1 (k : Int) = ((2 ^ k : Nat) : Int) := by
  unfold shl
  rw [ofI_n k, show Int32.ofInt 1 = nI 1 from rfl, pk_shlN _ k (s_l k (by omega)) (by rw [Nat.one_mul]; exact Nat.pow_lt_pow_right (by omega) (by omega)), Nat.one_mul, nI_toInt (Nat.pow_lt_pow_right (by omega) hk)]
theorem shr_n {a k : Nat} (ha : a < 2147483648) (hk : k < 32) : shr (a : Int) (k : Int) = ((a / 2 ^ k : Nat) : Int) := by
  unfold shr
  rw [ofI_n, ofI_n, pk_shrN ha _ k (s_l k hk), nI_toInt (Nat.lt_of_le_of_lt (Nat.div_le_self _ _) ha)]
theorem ushr_n {a k : Nat} (ha : a < 2147483648) (hk : k < 32) : ushr (a : Int) (k : Int) = ((a / 2 ^ k : Nat) : Int) := by
  unfold ushr
  rw [ofI_n, ofI_n, pk_ushrN (Nat.lt_trans ha (by omega)) _ k (s_u k hk), nI_toInt (Nat.lt_of_le_of_lt (Nat.div_le_self _ _) ha)]
theorem idv_n {a b : Nat} (ha : a < 2147483648) (h0 : 0 < b) (hb : b < 2147483648) : idv (a : Int) (b : Int) = ((a / b : Nat) : Int) := by
  unfold idv
  rw [ofI_n, ofI_n, pk_div ha h0 hb, nI_toInt (Nat.lt_of_le_of_lt (Nat.div_le_self _ _) ha)]
theorem irm_n {a b : Nat} (ha : a < 2147483648) (h0 : 0 < b) (hb : b < 2147483648) : irm (a : Int) (b : Int) = ((a % b : Nat) : Int) := by
  unfold irm
  rw [ofI_n, ofI_n, pk_rem ha h0 hb, nI_toInt (Nat.lt_of_le_of_lt (Nat.mod_le _ _) ha)]
theorem idv_i {a b : Int} (ha : 0 ≤ a) (ha2 : a < 2147483648) (h0 : 0 < b) (hb : b < 2147483648) : idv a b = a / b := by
  obtain ⟨m, rfl⟩ := i2n ha
  obtain ⟨n, rfl⟩ := i2n (Int.le_of_lt h0)
  rw [idv_n (by omega) (by omega) (by omega)]; simp
theorem irm_i {a b : Int} (ha : 0 ≤ a) (ha2 : a < 2147483648) (h0 : 0 < b) (hb : b < 2147483648) : irm a b = a % b := by
  obtain ⟨m, rfl⟩ := i2n ha
  obtain ⟨n, rfl⟩ := i2n (Int.le_of_lt h0)
  rw [irm_n (by omega) (by omega) (by omega)]; simp
/-! SETS as numbers -/
def bs : Nat → (Nat → Bool) → Nat
  | 0, _ => 0
  | n + 1, p => bs n p + if p n then 2 ^ n else 0
theorem bs_lt (n : Nat) (p : Nat → Bool) : bs n p < 2 ^ n := by
  induction n with
  | zero => exact Nat.one_pos
  | succ n ih =>
    show bs n p + (if p n then 2 ^ n else 0) < 2 ^ (n + 1)
    rw [Nat.pow_succ]
    split <;> omega
theorem bs_congr {n : Nat} {p q : Nat → Bool} (h : ∀ k, k < n → p k = q k) : bs n p = bs n q := by
  induction n with
  | zero => rfl
  | succ n ih =>
    show bs n p + (if p n then 2 ^ n else 0) = bs n q + (if q n then 2 ^ n else 0)
    rw [ih (fun k hk => h k (by omega)), h n (by omega)]
theorem or_pow {a n : Nat} (h : a < 2 ^ n) : a ||| 2 ^ n = a + 2 ^ n := by
  have := Nat.two_pow_add_eq_or_of_lt h 1
  rw [Nat.mul_one] at this
  rw [Nat.or_comm, ← this, Nat.add_comm]
theorem bs_tb (n : Nat) (p : Nat → Bool) (k : Nat) : (bs n p).testBit k = (decide (k < n) && p k) := by
  induction n with
  | zero => simp [bs]
  | succ n ih =>
    show (bs n p + (if p n then 2 ^ n else 0)).testBit k = _
    by_cases hp : p n = true
    · rw [if_pos hp, ← or_pow (bs_lt n p), Nat.testBit_or, ih, Nat.testBit_two_pow]
      by_cases h1 : k < n
      · have : ¬ n = k := by omega
        simp [h1, this, Nat.lt_succ_of_lt h1]
      · by_cases h2 : n = k
        · subst h2; simp [hp]
        · have : ¬ k < n + 1 := by omega
          simp [h1, h2, this]
    · rw [if_neg hp, Nat.add_zero, ih]
      by_cases h1 : k < n
      · simp [h1, Nat.lt_succ_of_lt h1]
      · by_cases h2 : k = n
        · subst h2; simp [hp]
        · have : ¬ k < n + 1 := by omega
          simp [h1, this]
theorem bs_of {n s : Nat} (h : s < 2 ^ n) : s = bs n (fun k => s.testBit k) := by
  apply Nat.eq_of_testBit_eq
  intro k
  rw [bs_tb]
  by_cases hk : k < n
  · simp [hk]
  · simp only [hk, decide_false, Bool.false_and]
    exact Nat.testBit_lt_two_pow (Nat.lt_of_lt_of_le h (Nat.pow_le_pow_right (by omega) (by omega)))
theorem bor_set {n : Nat} {p : Nat → Bool} (hn : n < 31) (hp : p n = true) : bor (bs n p : Nat) (shl 1 (n : Int)) = ((bs (n + 1) p : Nat) : Int) := by
  rw [shl_1 hn, bor_n (Nat.lt_of_lt_of_le (bs_lt n p) (Nat.pow_le_pow_right (by omega) (show n ≤ 31 by omega))) (Nat.pow_lt_pow_right (by omega) hn), or_pow (bs_lt n p)]
  show _ = ((bs n p + (if p n then 2 ^ n else 0) : Nat) : Int)
  rw [if_pos hp]
theorem bs_no {n : Nat} {p : Nat → Bool} (hp : p n = false) : bs (n + 1) p = bs n p := by
  show bs n p + (if p n then 2 ^ n else 0) = _
  rw [hp]; rfl
theorem bor_0 {s : Nat} (hs : s < 2147483648) : bor (s : Int) 0 = (s : Int) := by
  have := bor_n (a := s) (b := 0) hs (by omega)
  rw [Nat.or_zero] at this; exact this
/-- a member: the bit as a number -/
theorem tb_n (s k : Nat) : s / 2 ^ k % 2 = if s.testBit k then 1 else 0 := by
  rw [Nat.testBit_eq_decide_div_mod_eq]
  rcases Nat.mod_two_eq_zero_or_one (s / 2 ^ k) with h | h <;> simp [h]
theorem bit_n {s k : Nat} (hs : s < 2147483648) (hk : k < 32) : bnd (shr (s : Int) (k : Int)) 1 = if s.testBit k then 1 else 0 := by
  rw [shr_n hs hk]
  have := bnd_n (a := s / 2 ^ k) (b := 1) (Nat.lt_of_le_of_lt (Nat.div_le_self _ _) hs)
  rw [show ((1 : Nat) : Int) = 1 from rfl] at this
  rw [this, Nat.and_one_is_mod, tb_n]
  split <;> rfl
/-! all of the first n -/
def ab : Nat → (Nat → Bool) → Bool
  | 0, _ => true
  | n + 1, p => ab n p && p n
theorem ab_iff {n : Nat} {p : Nat → Bool} : ab n p = true ↔ ∀ k, k < n → p k = true := by
  induction n with
  | zero => exact ⟨fun _ k hk => absurd hk (Nat.not_lt_zero _), fun _ => rfl⟩
  | succ n ih =>
    show (ab n p && p n) = true ↔ _
    rw [Bool.and_eq_true, ih]
    constructor
    · intro h k hk
      rcases Nat.lt_succ_iff_lt_or_eq.mp hk with h1 | h1
      · exact h.1 k h1
      · subst h1; exact h.2
    · intro h
      exact ⟨fun k hk => h k (by omega), h n (by omega)⟩
theorem ab_no {n k : Nat} {p : Nat → Bool} (hk : k < n) (hp : p k = false) : ab n p = false := by
  cases h : ab n p with
  | false => rfl
  | true => rw [ab_iff.mp h k hk] at hp; cases hp
theorem ab_congr {n : Nat} {p q : Nat → Bool} (h : ∀ k, k < n → p k = q k) : ab n p = ab n q := by
  induction n with
  | zero => rfl
  | succ n ih =>
    show (ab n p && p n) = (ab n q && q n)
    rw [ih (fun k hk => h k (by omega)), h n (by omega)]
/-! the greatest m from n down with p m, 0 without -/
def dn : Nat → (Nat → Bool) → Nat
  | 0, _ => 0
  | n + 1, p => if p (n + 1) then n + 1 else dn n p
theorem dn_le (n : Nat) (p : Nat → Bool) : dn n p ≤ n := by
  induction n with
  | zero => exact Nat.le_refl _
  | succ n ih => show (if p (n + 1) then n + 1 else dn n p) ≤ n + 1; split <;> omega
theorem dn_congr {n : Nat} {p q : Nat → Bool} (h : ∀ k, 0 < k → k ≤ n → p k = q k) : dn n p = dn n q := by
  induction n with
  | zero => rfl
  | succ n ih =>
    show (if p (n + 1) then n + 1 else dn n p) = (if q (n + 1) then n + 1 else dn n q)
    rw [ih (fun k h1 hk => h k h1 (by omega)), h (n + 1) (by omega) (by omega)]
/-! how many of the first n hold, one behind the other -/
def rn : Nat → Nat → (Nat → Bool) → Nat
  | 0, k, _ => k
  | n + 1, k, p => if p k then rn n (k + 1) p else k
theorem rn_spec (p : Nat → Bool) : ∀ n k, k ≤ rn n k p ∧ rn n k p ≤ k + n ∧ (∀ i, k ≤ i → i < rn n k p → p i = true) ∧ (rn n k p < k + n → p (rn n k p) = false) := by
  intro n
  induction n with
  | zero => intro k; exact ⟨Nat.le_refl _, Nat.le_refl _, fun i h1 h2 => absurd h2 (by show ¬ i < k; omega), fun h => absurd h (by show ¬ k < k + 0; omega)⟩
  | succ n ih =>
    intro k
    show k ≤ (if p k then rn n (k + 1) p else k) ∧ _
    by_cases hp : p k = true
    · have e : rn (n + 1) k p = rn n (k + 1) p := by show (if p k then rn n (k + 1) p else k) = _; rw [if_pos hp]
      rw [if_pos hp, e]
      obtain ⟨h1, h2, h3, h4⟩ := ih (k + 1)
      refine ⟨by omega, by omega, fun i hi hi2 => ?_, fun h => h4 (by omega)⟩
      rcases Nat.eq_or_lt_of_le hi with rfl | hlt
      · exact hp
      · exact h3 i hlt hi2
    · have e : rn (n + 1) k p = k := by show (if p k then rn n (k + 1) p else k) = _; rw [if_neg hp]
      rw [if_neg hp, e]
      refine ⟨Nat.le_refl _, by omega, fun i hi hi2 => absurd hi2 (by omega), fun _ => ?_⟩
      cases h : p k with
      | false => rfl
      | true => exact absurd h hp
/-! the most of the first n -/
def mx : Nat → (Nat → Int) → Int
  | 0, _ => 0
  | n + 1, f => max (mx n f) (f n)
theorem mx_congr {n : Nat} {f g : Nat → Int} (h : ∀ k, k < n → f k = g k) : mx n f = mx n g := by
  induction n with
  | zero => rfl
  | succ n ih => show max (mx n f) (f n) = max (mx n g) (g n); rw [ih (fun k hk => h k (by omega)), h n (by omega)]
theorem mx_nn (n : Nat) (f : Nat → Int) : 0 ≤ mx n f := by
  induction n with
  | zero => exact Int.le_refl _
  | succ n ih => show 0 ≤ max (mx n f) (f n); omega
theorem mx_bd {n : Nat} {f : Nat → Int} {b : Int} (hb : 0 ≤ b) (h : ∀ k, k < n → f k ≤ b) : mx n f ≤ b := by
  induction n with
  | zero => exact hb
  | succ n ih =>
    show max (mx n f) (f n) ≤ b
    have h1 := ih (fun k hk => h k (by omega))
    have h2 := h n (by omega)
    omega
theorem mx_ge {n : Nat} {f : Nat → Int} {k : Nat} (hk : k < n) : f k ≤ mx n f := by
  induction n with
  | zero => omega
  | succ n ih =>
    show f k ≤ max (mx n f) (f n)
    rcases Nat.lt_succ_iff_lt_or_eq.mp hk with h | h
    · have := ih h; omega
    · subst h; omega
/-! the general loop: up from a to N; what stands behind it is K -/
theorem flx' {S R T : Type} (F : Nat → Int → S → Option R) (K : T → Option R) (N : Nat) (I : Nat → S → Prop) (J : T → Prop)
    (stp : ∀ fu (i : Nat) s, i < N → I i s → (∃ s', I (i + 1) s' ∧ F (fu + 1) (i : Int) s = F fu ((i : Int) + 1) s') ∨ (∃ t, J t ∧ F (fu + 1) (i : Int) s = K t))
    (ext : ∀ fu s, I N s → ∃ t, J t ∧ F (fu + 1) (N : Int) s = K t) :
    ∀ fu (a : Nat) s, a ≤ N → I a s → N - a < fu → ∃ t, J t ∧ F fu (a : Int) s = K t := by
  intro fu
  induction fu with
  | zero => intro a s _ _ h; exact absurd h (Nat.not_lt_zero _)
  | succ fu ih =>
    intro a s ha hI hf
    by_cases hN : a < N
    · rcases stp fu a s hN hI with ⟨s', h1, h2⟩ | h
      · rw [h2]
        exact ih (a + 1) s' hN h1 (by omega)
      · exact h
    · have e : a = N := by omega
      subst e
      exact ext fu s hI
theorem fk {S R T : Type} (F : Nat → Int → S → Option R) (K : T → Option R) (N : Nat) (I : Nat → S → Prop) (J : T → Prop) (a : Nat) (s : S) (ha : a ≤ N) (hs : I a s) (hN : N < 1000000)
    (stp : ∀ fu (i : Nat) s, i < N → I i s → (∃ s', I (i + 1) s' ∧ F (fu + 1) (i : Int) s = F fu ((i : Int) + 1) s') ∨ (∃ t, J t ∧ F (fu + 1) (i : Int) s = K t))
    (ext : ∀ fu s, I N s → ∃ t, J t ∧ F (fu + 1) (N : Int) s = K t) : ∃ t, J t ∧ F FU (a : Int) s = K t :=
  flx' F K N I J stp ext FU a s ha hs (show N - a < 1000000 by omega)
/-- a loop that folds: its state behind i rounds is g i -/
theorem fg {S R : Type} (F : Nat → Int → S → Option R) (K : S → Option R) (N : Nat) (g : Nat → S) (hN : N < 1000000)
    (stp : ∀ fu (i : Nat), i < N → F (fu + 1) (i : Int) (g i) = F fu ((i : Int) + 1) (g (i + 1)))
    (ext : ∀ fu, F (fu + 1) (N : Int) (g N) = K (g N)) (a : Nat) (ha : a ≤ N) : F FU (a : Int) (g a) = K (g N) := by
  obtain ⟨t, rfl, h⟩ := fk F K N (fun i s => s = g i) (fun t => t = g N) a (g a) ha rfl hN
    (fun fu i s hi hs => Or.inl ⟨g (i + 1), rfl, by rw [hs]; exact stp fu i hi⟩) (fun fu s hs => ⟨g N, rfl, by rw [hs]; exact ext fu⟩)
  exact h
/-- a while loop, what stands behind it is K -/
theorem wk {S R T : Type} (F : Nat → S → Option R) (K : T → Option R) (m : S → Nat) (I : S → Prop) (J : T → Prop)
    (stp : ∀ fu s, I s → (∃ s', I s' ∧ m s' < m s ∧ F (fu + 1) s = F fu s') ∨ (∃ t, J t ∧ F (fu + 1) s = K t)) (s : S) (hs : I s) (hm : m s < 1000000) : ∃ t, J t ∧ F FU s = K t := by
  have key : ∀ fu s, I s → m s < fu → ∃ t, J t ∧ F fu s = K t := by
    intro fu
    induction fu with
    | zero => intro s _ h; exact absurd h (Nat.not_lt_zero _)
    | succ fu ih =>
      intro s hI hf
      rcases stp fu s hI with ⟨s', h1, h2, h3⟩ | h
      · rw [h3]; exact ih s' h1 (by omega)
      · exact h
  exact key FU s hs hm
/-- a loop whose end is K v -/
theorem fke {S R T : Type} (F : Nat → Int → S → Option R) (K : T → Option R) (N : Nat) (I : Nat → S → Prop) (v : T) (a : Nat) (s : S) (ha : a ≤ N) (hs : I a s) (hN : N < 1000000)
    (stp : ∀ fu (i : Nat) s, i < N → I i s → (∃ s', I (i + 1) s' ∧ F (fu + 1) (i : Int) s = F fu ((i : Int) + 1) s') ∨ F (fu + 1) (i : Int) s = K v)
    (ext : ∀ fu s, I N s → F (fu + 1) (N : Int) s = K v) : F FU (a : Int) s = K v := by
  obtain ⟨t, h1, h2⟩ := fk F K N I (fun t => t = v) a s ha hs hN (fun fu i s hi hI => (stp fu i s hi hI).imp id (fun h => ⟨v, rfl, h⟩)) (fun fu s hI => ⟨v, rfl, ext fu s hI⟩)
  rw [← h1]; exact h2
/-- a loop that holds a flag as long as its tests hold: what the three of them share -/
theorem flag {R : Type} (F : Nat → Int → Int → Option R) (K : Int → Option R) (N : Nat) (p : Nat → Bool) (hN : N < 1000000)
    (go : ∀ fu (i : Nat), i < N → F (fu + 1) (i : Int) 1 = F fu ((i : Int) + 1) (if p i then 1 else 0))
    (out0 : ∀ fu (i : Nat), i ≤ N → F (fu + 1) (i : Int) 0 = K 0)
    (out1 : ∀ fu, F (fu + 1) (N : Int) 1 = K 1) : F FU 0 1 = K (if ab N p then 1 else 0) := by
  refine (fke F K N (fun i s => s = if ab i p then 1 else 0) (if ab N p then 1 else 0) 0 1 (by omega) rfl hN ?_ ?_ : _)
  · intro fu i s hi hs
    by_cases q : ab i p = true
    · rw [if_pos q] at hs
      subst hs
      refine Or.inl ⟨_, ?_, go fu i hi⟩
      show _ = if (ab i p && p i) then 1 else 0
      rw [q]; rfl
    · rw [if_neg q] at hs
      subst hs
      refine Or.inr ?_
      rw [if_neg (fun z => q (ab_iff.mpr (fun k hk => ab_iff.mp z k (by omega))))]
      exact out0 fu i (Nat.le_of_lt hi)
  · intro fu s hs
    by_cases q : ab N p = true
    · rw [if_pos q] at hs; subst hs
      rw [if_pos q]; exact out1 fu
    · rw [if_neg q] at hs; subst hs
      rw [if_neg q]; exact out0 fu N (Nat.le_refl _)
theorem eqb_ite (x y : Int) : (if x = y then (1 : Int) else 0) = if (x == y) then 1 else 0 := by by_cases h : x = y <;> simp [h]
/-- w32 does nothing at x: hidden from omega (two w32 with unlike insides in its sight run away) -/
def WE (x : Int) : Prop := w32 x = x
theorem WE.e {x : Int} (h : WE x) : w32 x = x := h
theorem we {x : Int} (h1 : -2147483648 ≤ x) (h2 : x < 2147483648) : WE x := w32_id h1 h2
