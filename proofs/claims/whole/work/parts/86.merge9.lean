/-! MERGED ROWS, in the class: the table of the rests -/
set_option maxHeartbeats 200000 in
theorem mnO_cg {a : Int} {g g' : Nat → Bool} {f f' : Nat → Int} : ∀ n, (∀ k, k < n → g k = g' k ∧ (g k = true → f k = f' k)) → mnO a g f n = mnO a g' f' n := by
  intro n
  induction n with
  | zero => intro _; rfl
  | succ n ih =>
    intro h
    have e : mnO a g f (n + 1) = if g n then min (mnO a g f n) (f n) else mnO a g f n := rfl
    have e' : mnO a g' f' (n + 1) = if g' n then min (mnO a g' f' n) (f' n) else mnO a g' f' n := rfl
    obtain ⟨h1, h2⟩ := h n (by omega)
    rw [e, e', ih (fun k hk => h k (by omega)), ← h1]
    cases q : g n with
    | true => rw [h2 q]
    | false => rfl
set_option maxHeartbeats 200000 in
theorem mnO_no {a : Int} {g : Nat → Bool} {f : Nat → Int} : ∀ n, (∀ k, k < n → g k = false) → mnO a g f n = a := by
  intro n
  induction n with
  | zero => intro _; rfl
  | succ n ih =>
    intro h
    have e : mnO a g f (n + 1) = if g n then min (mnO a g f n) (f n) else mnO a g f n := rfl
    rw [e, h n (by omega)]
    exact ih (fun k hk => h k (by omega))
set_option maxHeartbeats 200000 in
theorem all_tb (n k : Nat) : (2 ^ n - 1).testBit k = decide (k < n) := by rw [← bs_all, bs_tb, Bool.and_true]
set_option maxHeartbeats 200000 in
theorem rsC_s {c : Nat → Int} {l : List Nat} {x i : Nat} (n6 : l.length ≤ 6) (hx : x < 2 ^ l.length) (hi : x.testBit i = true) :
    mnO (if x = 2 ^ l.length - 1 then 0 else 1000000) (fun j => x.testBit i && !x.testBit j) (fun j => sRW c l x i j) l.length = rsC c l x i := by
  obtain ⟨f1, f2, f3⟩ := full_n n6 hx
  unfold rsC
  by_cases e : x = 2 ^ l.length - 1
  · rw [if_pos e, mnO_no l.length (fun k hk => by
      show (x.testBit i && !x.testBit k) = false
      rw [e, all_tb, all_tb, decide_eq_true hk]; simp)]
    rw [e, f3, Nat.sub_self]; rfl
  · rw [if_neg e]
    have lt : bcu x < l.length := Nat.lt_of_le_of_ne f1 (fun z => e (f2 z))
    obtain ⟨d, hd⟩ : ∃ d, l.length - bcu x = d + 1 := ⟨l.length - bcu x - 1, by omega⟩
    rw [hd]
    refine mnO_cg l.length (fun k hk => ⟨by rw [hi, Bool.true_and], fun q => ?_⟩)
    have q : (x.testBit i && !x.testBit k) = true := q
    rw [hi, Bool.true_and] at q
    have q : x.testBit k = false := by simpa using q
    have b := bcu_or (show k < 8 by omega) q
    unfold sRW rsC
    rw [b, show l.length - (bcu x + 1) = d by omega]
def RsT (u : Hp) (X : Nat) (c : Nat → Int) (l : List Nat) (x : Nat) : Prop := ∀ y j, x < y → y < 2 ^ l.length → j < l.length → y.testBit j = true → gA u (X + 107) (y * 6 + j) = rsC c l y j
set_option maxHeartbeats 200000 in
theorem gt_or {x j : Nat} (h : x.testBit j = false) : x < x ||| 2 ^ j := by
  have h1 : x ≤ x ||| 2 ^ j := Nat.left_le_or
  rcases Nat.lt_or_eq_of_le h1 with h2 | h2
  · exact h2
  · have := or2_tb x j j
    rw [← h2, h, decide_eq_true rfl] at this
    cases this
set_option maxHeartbeats 200000 in
/-- one entry -/
theorem xRs1 {h : Hp} {X x i : Nat} {c : Nat → Int} {l : List Nat} (m : MW h X c l) (o : OvT h X c l) (hx : x < 2 ^ l.length) (hi : i < l.length) (tab : RsT h X c l x) (al s0 : Int) (s8 : rg s0) (k11 : Hp → Int → Int → Option Hp) (k17 : Hp → Int → Int → Int → Option Hp) :
    fX4_measureRests_b41 (X + 104) k11 k17 FU h al (x : Int) (i : Int) s0 0 = k17 (sA h (X + 107) ((x : Int) * 6 + (i : Int)) (mnO s0 (fun j => x.testBit i && !x.testBit j) (fun j => sRW c l x i j) l.length)) al (x : Int) ((i : Int) + 1) := by
  have n6 := m.six
  have p6 := pw6 n6
  have H := m.1
  have e1 : WE ((x : Int) * 6) := we (by omega) (by omega)
  have e2 : WE ((x : Int) * 6 + (i : Int)) := we (by omega) (by omega)
  have e3 : WE ((i : Int) + 1) := we (by omega) (by omega)
  exact fg (S := Int) (fun fu v s => fX4_measureRests_b41 (X + 104) k11 k17 fu h al (x : Int) (i : Int) s v) (fun s => k17 (sA h (X + 107) ((x : Int) * 6 + (i : Int)) s) al (x : Int) ((i : Int) + 1)) l.length (mnO s0 (fun j => x.testBit i && !x.testBit j) (fun j => sRW c l x i j)) (by omega)
    (fun fu k hk => by
      have e5 : WE ((k : Int) + 1) := we (by omega) (by omega)
      have ii := xIsIn (s := x) (k := i) (by omega) (by omega)
      have ik := xIsIn (s := x) (k := k) (by omega) (by omega)
      have e : mnO s0 (fun j => x.testBit i && !x.testBit j) (fun j => sRW c l x i j) (k + 1) = if (x.testBit i && !x.testBit k) then min (mnO s0 (fun j => x.testBit i && !x.testBit j) (fun j => sRW c l x i j) k) (sRW c l x i k) else mnO s0 (fun j => x.testBit i && !x.testBit j) (fun j => sRW c l x i j) k := rfl
      have e82 : ∀ v, fX4_measureRests_b82 (X + 104) k11 k17 (fX4_measureRests_b41 (X + 104) k11 k17 fu) h al (x : Int) (i : Int) v (k : Int) = fX4_measureRests_b41 (X + 104) k11 k17 fu h al (x : Int) (i : Int) v ((k : Int) + 1) := fun v => by rw [fX4_measureRests_b82, lt_d, e5.e]
      show fX4_measureRests_b41 (X + 104) k11 k17 (fu + 1) h al (x : Int) (i : Int) (mnO s0 (fun j => x.testBit i && !x.testBit j) (fun j => sRW c l x i j) k) (k : Int) = fX4_measureRests_b41 (X + 104) k11 k17 fu h al (x : Int) (i : Int) (mnO s0 (fun j => x.testBit i && !x.testBit j) (fun j => sRW c l x i j) (k + 1)) ((k : Int) + 1)
      rw [e, fX4_measureRests_b41.eq_2, m.n]
      refine gdg m.k (iteT (by omega) (bdg ii ?_))
      cases qi : x.testBit i with
      | false => exact iteT rfl (e82 _)
      | true =>
        refine iteF (by decide) (bdg ik ?_)
        cases qk : x.testBit k with
        | true => exact iteF (by decide) (e82 _)
        | false =>
          have rw1 := xRW m o hx hi hk (fun z => by rw [z, qk] at qi; cases qi) (tab _ k (gt_or qk) (pw_or hx hk) hk (by rw [or2_tb, decide_eq_true rfl, Bool.or_true]))
          refine iteT rfl (bdg rw1 ?_)
          rw [lt_d]
          exact e82 _)
    (fun fu => by
      show fX4_measureRests_b41 (X + 104) k11 k17 (fu + 1) h al (x : Int) (i : Int) _ (l.length : Int) = _
      rw [fX4_measureRests_b41.eq_2, m.n]
      refine gdg m.k (iteF (by omega) (nng (r258 H) (gdg (by rw [H.k107]) ?_)))
      rw [e1.e, e2.e]
      refine gdg (by rw [H.k107]; show 0 ≤ _ ∧ _ < (384 : Int); omega) ?_
      rw [lt_d, lt_d, e3.e]) 0 (by omega)
set_option maxHeartbeats 200000 in
/-- one set -/
theorem xRs2 {h : Hp} {X x : Nat} {c : Nat → Int} {l : List Nat} (m : MW h X c l) (o : OvT h X c l) (hx : x < 2 ^ l.length) (tab : RsT h X c l x) (k11 : Hp → Int → Int → Option Hp) :
    ∃ t : Hp, (On (fun b => b = X + 107) h t ∧ (∀ y j, y ≠ x → j < 6 → gA t (X + 107) (y * 6 + j) = gA h (X + 107) (y * 6 + j)) ∧ ∀ j, j < l.length → x.testBit j = true → gA t (X + 107) (x * 6 + j) = rsC c l x j) ∧
      fX4_measureRests_b17 (X + 104) k11 FU h ((2 ^ l.length - 1 : Nat) : Int) (x : Int) 0 = k11 t ((2 ^ l.length - 1 : Nat) : Int) ((x : Int) - 1) := by
  have n6 := m.six
  have p6 := pw6 n6
  exact fk (S := Hp) (T := Hp) (fun fu i u => fX4_measureRests_b17 (X + 104) k11 fu u ((2 ^ l.length - 1 : Nat) : Int) (x : Int) i) (fun t => k11 t ((2 ^ l.length - 1 : Nat) : Int) ((x : Int) - 1)) l.length
    (fun i u => On (fun b => b = X + 107) h u ∧ (∀ y j, y ≠ x → j < 6 → gA u (X + 107) (y * 6 + j) = gA h (X + 107) (y * 6 + j)) ∧ ∀ j, j < i → x.testBit j = true → gA u (X + 107) (x * 6 + j) = rsC c l x j) (fun t => On (fun b => b = X + 107) h t ∧ (∀ y j, y ≠ x → j < 6 → gA t (X + 107) (y * 6 + j) = gA h (X + 107) (y * 6 + j)) ∧ ∀ j, j < l.length → x.testBit j = true → gA t (X + 107) (x * 6 + j) = rsC c l x j) 0 h (by omega) ⟨On.rf h, fun _ _ _ _ => rfl, fun j hj => absurd hj (by omega)⟩ (by omega)
    (fun fu i u hi hI => by
      obtain ⟨p1, p2, p3⟩ := hI
      have mu := m.on p1 (fun a ha => Or.inr ha)
      have ou : OvT u X c l := fun a b h1 h2 h3 => by rw [p1.a (by omega)]; exact o a b h1 h2 h3
      have tu : RsT u X c l x := fun y j h1 h2 h3 h4 => by rw [p2 y j (by omega) (by omega)]; exact tab y j h1 h2 h3 h4
      have mb := mnO_le (a := if x = 2 ^ l.length - 1 then 0 else 1000000) (g := fun j => x.testBit i && !x.testBit j) (f := fun j => sRW c l x i j) l.length
      left
      refine ⟨sA u (X + 107) ((x : Int) * 6 + (i : Int)) (mnO (if x = 2 ^ l.length - 1 then 0 else 1000000) (fun j => x.testBit i && !x.testBit j) (fun j => sRW c l x i j) l.length), ⟨p1.tr (on_sA u rfl), fun y j h1 h2 => ?_, fun j hj ht => ?_⟩, ?_⟩
      · rw [gA_sA, if_neg (fun zz => by have := zz.2; omega)]; exact p2 y j h1 h2
      · rw [gA_sA]
        by_cases y : j = i
        · rw [y] at ht ⊢
          have e := rsC_s (c := c) n6 hx ht
          have rb := rsC_bd m x i
          rw [if_pos ⟨rfl, by omega⟩, e, w32_id (by omega) (by omega)]
        · rw [if_neg (fun zz => y (by have := zz.2; omega))]
          exact p3 j (by omega) ht
      · show fX4_measureRests_b17 (X + 104) k11 (fu + 1) u ((2 ^ l.length - 1 : Nat) : Int) (x : Int) (i : Int) = _
        rw [fX4_measureRests_b17.eq_2, mu.n]
        refine gdg mu.k (iteT (by omega) ?_)
        by_cases e : x = 2 ^ l.length - 1
        · rw [if_pos e]
          refine iteT (by omega) ?_
          rw [fX4_measureRests_b36]
          exact xRs1 mu ou hx hi tu _ 0 (rg_lit rfl) k11 (fX4_measureRests_b17 (X + 104) k11 fu)
        · rw [if_neg e]
          refine iteF (by omega) ?_
          rw [fX4_measureRests_b36]
          exact xRs1 mu ou hx hi tu _ 1000000 (rg_lit rfl) k11 (fX4_measureRests_b17 (X + 104) k11 fu))
    (fun fu u hI => by
      obtain ⟨p1, p2, p3⟩ := hI
      have mu := m.on p1 (fun a ha => Or.inr ha)
      have e5 : WE ((x : Int) + (-1)) := we (by omega) (by omega)
      refine ⟨u, ⟨p1, p2, p3⟩, ?_⟩
      show fX4_measureRests_b17 (X + 104) k11 (fu + 1) u ((2 ^ l.length - 1 : Nat) : Int) (x : Int) (l.length : Int) = _
      rw [fX4_measureRests_b17.eq_2, mu.n, e5.e, lt_d]
      exact gdg mu.k (iteF (by omega) rfl))
set_option maxHeartbeats 200000 in
/-- the whole table -/
theorem xRst {h : Hp} {X : Nat} {c : Nat → Int} {l : List Nat} (m : MW h X c l) (o : OvT h X c l) :
    ∃ t : Hp, (On (fun b => b = X + 107) h t ∧ RsT t X c l 0) ∧ fX4_measureRests h (X + 104) = some t := by
  have n6 := m.six
  have p6 := pw6 n6
  have am := all_m n6
  have key := fk (S := Hp) (T := Hp) (fun fu i u => fX4_measureRests_b11 (X + 104) fu u ((2 ^ l.length - 1 : Nat) : Int) (((2 ^ l.length - 1 : Nat) : Int) - i)) some (2 ^ l.length - 1)
    (fun i u => On (fun b => b = X + 107) h u ∧ RsT u X c l (2 ^ l.length - 1 - i)) (fun t => On (fun b => b = X + 107) h t ∧ RsT t X c l 0) 0 h (by omega) ⟨On.rf h, fun y j h1 h2 => absurd h1 (by omega)⟩ (by omega)
    (fun fu i u hi hI => by
      obtain ⟨p1, p2⟩ := hI
      have mu := m.on p1 (fun a ha => Or.inr ha)
      have ou : OvT u X c l := fun a b h1 h2 h3 => by rw [p1.a (by omega)]; exact o a b h1 h2 h3
      have ea : ((2 ^ l.length - 1 : Nat) : Int) - (i : Int) = ((2 ^ l.length - 1 - i : Nat) : Int) := by omega
      obtain ⟨t, ⟨y1, y2, y3⟩, y4⟩ := xRs2 (x := 2 ^ l.length - 1 - i) mu ou (by omega) p2 (fX4_measureRests_b11 (X + 104) fu)
      left
      refine ⟨t, ⟨p1.tr y1, fun y j h1 h2 h3 h4 => ?_⟩, ?_⟩
      · by_cases e : y = 2 ^ l.length - 1 - i
        · rw [e] at h4 ⊢
          exact y3 j h3 h4
        · rw [y2 y j e (by omega)]
          exact p2 y j (by omega) h2 h3 h4
      · show fX4_measureRests_b11 (X + 104) (fu + 1) u ((2 ^ l.length - 1 : Nat) : Int) (((2 ^ l.length - 1 : Nat) : Int) - (i : Int)) = fX4_measureRests_b11 (X + 104) fu t ((2 ^ l.length - 1 : Nat) : Int) (((2 ^ l.length - 1 : Nat) : Int) - ((i : Int) + 1))
        rw [fX4_measureRests_b11.eq_2, ea]
        refine iteT (by omega) ?_
        rw [y4, show ((2 ^ l.length - 1 - i : Nat) : Int) - 1 = ((2 ^ l.length - 1 : Nat) : Int) - ((i : Int) + 1) by omega])
    (fun fu u hI => by
      obtain ⟨p1, p2⟩ := hI
      refine ⟨u, ⟨p1, fun y j h1 h2 h3 h4 => p2 y j (by omega) h2 h3 h4⟩, ?_⟩
      show fX4_measureRests_b11 (X + 104) (fu + 1) u ((2 ^ l.length - 1 : Nat) : Int) (((2 ^ l.length - 1 : Nat) : Int) - ((2 ^ l.length - 1 : Nat) : Int)) = _
      rw [fX4_measureRests_b11.eq_2]
      exact iteF (by omega) rfl)
  have e0 : ((2 ^ l.length - 1 : Nat) : Int) - ((0 : Nat) : Int) = ((2 ^ l.length - 1 : Nat) : Int) := by omega
  rw [e0] at key
  obtain ⟨t, h1, h2⟩ := key
  refine ⟨t, h1, ?_⟩
  unfold fX4_measureRests
  refine gdg m.k ?_
  rw [m.n, am, lt_d]
  exact h2
