/-! MERGED ROWS, in the class: the tables -/
def MW (t : Hp) (X : Nat) (c : Nat → Int) (l : List Nat) : Prop := XS t X ∧ X + 144 ≤ hZ t ∧ WF c ∧ l.length ≤ 6 ∧ (∀ j, j ∈ l → j < (c 2).toNat ∧ 0 < hN c (j : Int)) ∧ PA t X l ∧ VLs t X c l
set_option maxHeartbeats 200000 in
theorem MW.n {t : Hp} {X : Nat} {c : Nat → Int} {l : List Nat} (m : MW t X c l) : gI t 263 (X + 104) = (l.length : Int) := m.2.2.2.2.2.1.1
set_option maxHeartbeats 200000 in
theorem MW.six {t : Hp} {X : Nat} {c : Nat → Int} {l : List Nat} (m : MW t X c l) : l.length ≤ 6 := m.2.2.2.1
set_option maxHeartbeats 200000 in
theorem MW.T {t : Hp} {X : Nat} {c : Nat → Int} {l : List Nat} (m : MW t X c l) : PTs c l.length (gtN l) (ptZ c l) (ptL c l) (ptO c l) := ptT m.2.2.1 m.six m.2.2.2.2.1
set_option maxHeartbeats 200000 in
theorem MW.k {t : Hp} {X : Nat} {c : Nat → Int} {l : List Nat} (m : MW t X c l) : (hK t (X + 104)).1 = 4 := by rw [m.1.k104]
set_option maxHeartbeats 200000 in
theorem MW.p {t : Hp} {X k : Nat} {c : Nat → Int} {l : List Nat} (m : MW t X c l) (hk : k < l.length) : gC t (X + 105) k = some (X + 81 + 2 * gtN l k) := m.2.2.2.2.2.1.2 k hk
set_option maxHeartbeats 200000 in
theorem MW.v {t : Hp} {X k : Nat} {c : Nat → Int} {l : List Nat} (m : MW t X c l) (hk : k < l.length) : RV t (X + 81 + 2 * gtN l k) (hN c (gtN l k : Int)) (hL c (gtN l k : Int)) := (m.2.2.2.2.2.2 _ (gtN_mem hk)).v
set_option maxHeartbeats 200000 in
theorem MW.on {W : Nat → Prop} {t u : Hp} {X : Nat} {c : Nat → Int} {l : List Nat} (m : MW t X c l) (o : On W t u) (h : ∀ a, W a → a = X + 106 ∨ a = X + 107) : MW u X c l := by
  obtain ⟨m1, m2, m3, m4, m5, m6, m7⟩ := m
  have nj := m3.nj
  have q : QX X t u := q_on o (fun a ha => by have := h a ha; unfold sc; omega)
  refine ⟨m1.q q po_X, by rw [q.z]; exact m2, m3, m4, m5, m6.on o (fun z => by have := h _ z; omega) (fun z => by have := h _ z; omega), fun j hj => ?_⟩
  obtain ⟨r, r1, r2⟩ := m7 j hj
  have := (m5 j hj).1
  exact ⟨r, r1.sm (sm_on o (fun z => by have := h _ z; omega)) (sm_on o (fun z => by have := h _ z; omega)), r2⟩
set_option maxHeartbeats 200000 in
theorem MW.O {t : Hp} {X a b : Nat} {c : Nat → Int} {l : List Nat} (m : MW t X c l) (ha : a < l.length) (hb : b < l.length) : fX6_overlap t (X + 81 + 2 * gtN l a) (X + 81 + 2 * gtN l b) = some ((ptO c l a b : Nat) : Int) := by
  have e := m.T.2.2 a b hb
  rw [if_pos ha] at e
  rw [e]
  exact xLap (m.v ha) (m.v hb)
def OvT (u : Hp) (X : Nat) (c : Nat → Int) (l : List Nat) : Prop := ∀ a b, a < l.length → b < l.length → a ≠ b → gA u (X + 106) (a * 6 + b) = ((ptO c l a b : Nat) : Int)
set_option maxHeartbeats 200000 in
theorem xOv1 {h : Hp} {X a : Nat} {c : Nat → Int} {l : List Nat} (m : MW h X c l) (ha : a < l.length) (k2 : Hp → Int → Option Hp) :
    ∃ t : Hp, (On (fun b => b = X + 106) h t ∧ (∀ a' b', a' ≠ a → b' < 6 → gA t (X + 106) (a' * 6 + b') = gA h (X + 106) (a' * 6 + b')) ∧ ∀ b, b < l.length → a ≠ b → gA t (X + 106) (a * 6 + b) = ((ptO c l a b : Nat) : Int)) ∧
      fX4_measureOverlaps_b12 (X + 104) k2 FU h (a : Int) 0 = k2 t ((a : Int) + 1) := by
  have n6 := m.six
  have e9 : WE ((a : Int) + 1) := we (by omega) (by omega)
  exact fk (S := Hp) (T := Hp) (fun fu i u => fX4_measureOverlaps_b12 (X + 104) k2 fu u (a : Int) i) (fun t => k2 t ((a : Int) + 1)) l.length
    (fun i u => On (fun b => b = X + 106) h u ∧ (∀ a' b', a' ≠ a → b' < 6 → gA u (X + 106) (a' * 6 + b') = gA h (X + 106) (a' * 6 + b')) ∧ ∀ b, b < i → a ≠ b → gA u (X + 106) (a * 6 + b) = ((ptO c l a b : Nat) : Int)) (fun t => On (fun b => b = X + 106) h t ∧ (∀ a' b', a' ≠ a → b' < 6 → gA t (X + 106) (a' * 6 + b') = gA h (X + 106) (a' * 6 + b')) ∧ ∀ b, b < l.length → a ≠ b → gA t (X + 106) (a * 6 + b) = ((ptO c l a b : Nat) : Int)) 0 h (by omega) ⟨On.rf h, fun _ _ _ _ => rfl, fun b hb => absurd hb (by omega)⟩ (by omega)
    (fun fu i u hi hI => by
      obtain ⟨p1, p2, p3⟩ := hI
      have mu := m.on p1 (fun a ha => Or.inl ha)
      have e5 : WE ((i : Int) + 1) := we (by omega) (by omega)
      have e6 : WE ((a : Int) * 6) := we (by omega) (by omega)
      have e7 : WE ((a : Int) * 6 + (i : Int)) := we (by omega) (by omega)
      have go : ∀ (v : Int) , rg v → (a ≠ i → v = ((ptO c l a i : Nat) : Int)) → fX4_measureOverlaps_b12 (X + 104) k2 (fu + 1) u (a : Int) (i : Int) = fX4_measureOverlaps_b54 (X + 104) k2 (fX4_measureOverlaps_b12 (X + 104) k2 fu) u (a : Int) (i : Int) v ((a : Int) * 6 + (i : Int)) (X + 106) → ∃ s', (On (fun b => b = X + 106) h s' ∧ (∀ a' b', a' ≠ a → b' < 6 → gA s' (X + 106) (a' * 6 + b') = gA h (X + 106) (a' * 6 + b')) ∧ ∀ b, b < i + 1 → a ≠ b → gA s' (X + 106) (a * 6 + b) = ((ptO c l a b : Nat) : Int)) ∧ fX4_measureOverlaps_b12 (X + 104) k2 (fu + 1) u (a : Int) (i : Int) = fX4_measureOverlaps_b12 (X + 104) k2 fu s' (a : Int) ((i : Int) + 1) := by
        intro v rv hv hg
        refine ⟨sA u (X + 106) ((a : Int) * 6 + (i : Int)) v, ⟨p1.tr (on_sA u rfl), fun a' b' h1 h2 => ?_, fun b hb hab => ?_⟩, ?_⟩
        · rw [gA_sA, if_neg (fun zz => by have := zz.2; omega)]; exact p2 a' b' h1 h2
        · rw [gA_sA]
          by_cases y : b = i
          · rw [if_pos ⟨rfl, by omega⟩, w32_of rv, y]
            exact hv (by omega)
          · rw [if_neg (fun zz => y (by have := zz.2; omega))]
            exact p3 b (by omega) hab
        · rw [hg, fX4_measureOverlaps_b54]
          refine gdg (by rw [mu.1.k106]) (gdg (by rw [mu.1.k106]; show 0 ≤ _ ∧ _ < (36 : Int); omega) ?_)
          rw [lt_d, lt_d, e5.e]
      left
      by_cases y : a = i
      · refine go 0 (rg_lit rfl) (fun z => absurd y z) ?_
        rw [fX4_measureOverlaps_b12.eq_2, mu.n, e6.e, e7.e]
        exact gdg mu.k (iteT (by omega) (nng (r257 mu.1) (iteT (by omega) rfl)))
      · have o := mu.O ha hi
        have ob := m.T.ov (l := a) hi
        have zb := (m.T.2.1 i hi).2.2.2.1
        refine go ((ptO c l a i : Nat) : Int) (by unfold rg; omega) (fun _ => rfl) ?_
        rw [fX4_measureOverlaps_b12.eq_2, mu.n, e6.e, e7.e]
        exact gdg mu.k (iteT (by omega) (nng (r257 mu.1) (iteF (by omega) (nng (r256 mu.1) (gdg (by rw [mu.1.k105]) (gdg (by rw [mu.1.k105]; show 0 ≤ _ ∧ _ < (6 : Int); omega) (nng (mu.p ha) (gdg (by rw [mu.1.k105]; show 0 ≤ _ ∧ _ < (6 : Int); omega) (nng (mu.p hi) (gdg (mu.v ha).k (bdg o rfl))))))))))))
    (fun fu u hI => by
      obtain ⟨p1, p2, p3⟩ := hI
      have mu := m.on p1 (fun a ha => Or.inl ha)
      refine ⟨u, ⟨p1, p2, p3⟩, ?_⟩
      show fX4_measureOverlaps_b12 (X + 104) k2 (fu + 1) u (a : Int) (l.length : Int) = _
      rw [fX4_measureOverlaps_b12.eq_2, mu.n, e9.e]
      exact gdg mu.k (iteF (by omega) rfl))
set_option maxHeartbeats 200000 in
theorem xOvs {h : Hp} {X : Nat} {c : Nat → Int} {l : List Nat} (m : MW h X c l) :
    ∃ t : Hp, (On (fun b => b = X + 106) h t ∧ OvT t X c l) ∧ fX4_measureOverlaps h (X + 104) = some t := by
  have n6 := m.six
  exact fk (S := Hp) (T := Hp) (fun fu i u => fX4_measureOverlaps_b2 (X + 104) fu u i) some l.length
    (fun i u => On (fun b => b = X + 106) h u ∧ ∀ a b, a < i → b < l.length → a ≠ b → gA u (X + 106) (a * 6 + b) = ((ptO c l a b : Nat) : Int)) (fun t => On (fun b => b = X + 106) h t ∧ OvT t X c l) 0 h (by omega) ⟨On.rf h, fun a b h1 => absurd h1 (by omega)⟩ (by omega)
    (fun fu i u hi hI => by
      obtain ⟨p1, p2⟩ := hI
      have mu := m.on p1 (fun a ha => Or.inl ha)
      obtain ⟨t, ⟨y1, y2, y3⟩, y4⟩ := xOv1 mu hi (fX4_measureOverlaps_b2 (X + 104) fu)
      left
      refine ⟨t, ⟨p1.tr y1, fun a b h1 h2 h3 => ?_⟩, ?_⟩
      · by_cases y : a = i
        · rw [y]; exact y3 b h2 (by omega)
        · rw [y2 a b y (by omega)]; exact p2 a b (by omega) h2 h3
      · show fX4_measureOverlaps_b2 (X + 104) (fu + 1) u (i : Int) = _
        rw [fX4_measureOverlaps_b2.eq_2, mu.n]
        exact gdg mu.k (iteT (by omega) y4))
    (fun fu u hI => by
      obtain ⟨p1, p2⟩ := hI
      have mu := m.on p1 (fun a ha => Or.inl ha)
      refine ⟨u, ⟨p1, p2⟩, ?_⟩
      show fX4_measureOverlaps_b2 (X + 104) (fu + 1) u (l.length : Int) = _
      rw [fX4_measureOverlaps_b2.eq_2, mu.n]
      exact gdg mu.k (iteF (by omega) rfl))
/-- what must follow at least -/
def mnO (a : Int) (g : Nat → Bool) (f : Nat → Int) : Nat → Int
  | 0 => a
  | k + 1 => if g k then min (mnO a g f k) (f k) else mnO a g f k
set_option maxHeartbeats 200000 in
theorem mnO_le {a : Int} {g : Nat → Bool} {f : Nat → Int} : ∀ n, mnO a g f n ≤ a ∧ ∀ k, k < n → g k = true → mnO a g f n ≤ f k := by
  intro n
  induction n with
  | zero => exact ⟨Int.le_refl _, fun k hk => absurd hk (by omega)⟩
  | succ n ih =>
    have e : mnO a g f (n + 1) = if g n then min (mnO a g f n) (f n) else mnO a g f n := rfl
    rw [e]
    cases q : g n with
    | true =>
      rw [if_pos rfl]
      refine ⟨by omega, fun k hk hg => ?_⟩
      rcases Nat.lt_succ_iff_lt_or_eq.mp hk with y | y
      · have := ih.2 k y hg; omega
      · rw [y]; omega
    | false =>
      refine ⟨ih.1, fun k hk hg => ?_⟩
      rcases Nat.lt_succ_iff_lt_or_eq.mp hk with y | y
      · exact ih.2 k y hg
      · rw [y, q] at hg; cases hg
set_option maxHeartbeats 200000 in
theorem mnO_is {a : Int} {g : Nat → Bool} {f : Nat → Int} : ∀ n, mnO a g f n = a ∨ ∃ k, k < n ∧ g k = true ∧ mnO a g f n = f k := by
  intro n
  induction n with
  | zero => exact Or.inl rfl
  | succ n ih =>
    have e : mnO a g f (n + 1) = if g n then min (mnO a g f n) (f n) else mnO a g f n := rfl
    rw [e]
    cases q : g n with
    | true =>
      rw [if_pos rfl]
      by_cases y : mnO a g f n ≤ f n
      · rw [show min (mnO a g f n) (f n) = mnO a g f n from Int.min_eq_left y]
        rcases ih with ih | ⟨k, k1, k2, k3⟩
        · exact Or.inl ih
        · exact Or.inr ⟨k, by omega, k2, k3⟩
      · exact Or.inr ⟨n, by omega, q, Int.min_eq_right (by omega)⟩
    | false =>
      rcases ih with ih | ⟨k, k1, k2, k3⟩
      · exact Or.inl ih
      · exact Or.inr ⟨k, by omega, k2, k3⟩
def rsF (n : Nat) (sz : Nat → Nat) (ov : Nat → Nat → Nat) : Nat → Nat → Nat → Int
  | 0, _, _ => 0
  | d + 1, u, l => mnO 1000000 (fun j => !u.testBit j) (fun j => (sz j : Int) - (ov l j : Int) + rsF n sz ov d (u ||| 2 ^ j) j) n
set_option maxHeartbeats 200000 in
theorem rsF_bd {n : Nat} {sz : Nat → Nat} {ov : Nat → Nat → Nat} (h : ∀ l j, j < n → ov l j < sz j ∧ sz j ≤ 12) : ∀ d u l, 0 ≤ rsF n sz ov d u l ∧ rsF n sz ov d u l ≤ 1000000 := by
  intro d
  induction d with
  | zero => intro u l; exact ⟨Int.le_refl _, by show (0 : Int) ≤ _; omega⟩
  | succ d ih =>
    intro u l
    have h1 := mnO_le (a := 1000000) (g := fun j => !u.testBit j) (f := fun j => (sz j : Int) - (ov l j : Int) + rsF n sz ov d (u ||| 2 ^ j) j) n
    have h2 := mnO_is (a := 1000000) (g := fun j => !u.testBit j) (f := fun j => (sz j : Int) - (ov l j : Int) + rsF n sz ov d (u ||| 2 ^ j) j) n
    have e : rsF n sz ov (d + 1) u l = mnO 1000000 (fun j => !u.testBit j) (fun j => (sz j : Int) - (ov l j : Int) + rsF n sz ov d (u ||| 2 ^ j) j) n := rfl
    rw [e]
    refine ⟨?_, h1.1⟩
    rcases h2 with h2 | ⟨k, k1, k2, k3⟩
    · rw [h2]; omega
    · rw [k3]
      have := h l k k1
      have := ih (u ||| 2 ^ k) k
      show 0 ≤ (sz k : Int) - (ov l k : Int) + rsF n sz ov d (u ||| 2 ^ k) k
      omega
