/-! QUERIES, eighth lot: far (written by wip/whole/g51.py) -/
/-- the fewest edits of the first p LETTERS of a row to the first q of another -/
def edN (L1 L2 : Int → Int) (p : Nat) (R : Nat → Int) : Nat → Int
  | 0 => (p : Int) + 1
  | q + 1 => min (R q + (if L1 (p : Int) = L2 (q : Int) then 0 else 1)) (min (R (q + 1)) (edN L1 L2 p R q) + 1)
def edS (L1 L2 : Int → Int) : Nat → Nat → Int
  | 0 => fun q => (q : Int)
  | p + 1 => edN L1 L2 p (edS L1 L2 p)
set_option maxHeartbeats 200000 in
theorem ed_ss (L1 L2 : Int → Int) (p q : Nat) : edS L1 L2 (p + 1) (q + 1) = min (edS L1 L2 p q + (if L1 (p : Int) = L2 (q : Int) then 0 else 1)) (min (edS L1 L2 p (q + 1)) (edS L1 L2 (p + 1) q) + 1) := rfl
set_option maxHeartbeats 200000 in
theorem ed_0 (L1 L2 : Int → Int) (p : Nat) : edS L1 L2 p 0 = (p : Int) := by
  cases p with
  | zero => rfl
  | succ p => show (p : Int) + 1 = ((p + 1 : Nat) : Int); omega
set_option maxHeartbeats 200000 in
theorem ed_bd (L1 L2 : Int → Int) (p q : Nat) : 0 ≤ edS L1 L2 p q ∧ edS L1 L2 p q ≤ (p : Int) + q := by
  induction p generalizing q with
  | zero => show 0 ≤ (q : Int) ∧ (q : Int) ≤ ((0 : Nat) : Int) + q; omega
  | succ p ihp =>
    induction q with
    | zero => rw [ed_0]; omega
    | succ q ihq =>
      rw [ed_ss]
      have h1 := ihp q
      have h2 := ihp (q + 1)
      split <;> omega
set_option maxHeartbeats 200000 in
theorem xEdI {h : Hp} {V Rw C n : Nat} {m : Int} {L1 L2 : Int → Int} {i : Nat} (r1 : RV h V (n : Int) L1) (r2 : RV h Rw m L2) (f1 : ∀ t, On (fun b => b = C) h t → RV t V (n : Int) L1) (f2 : ∀ t, On (fun b => b = C) h t → RV t Rw m L2) (m0 : 0 ≤ m) (m8 : m ≤ 16) (i8 : i < 100) (kC : hK h C = (21, 27)) (k36 : Hp → Int → Int → Option (Int × Hp))
    (t : Hp) (p : On (fun b => b = C) h t) (t0 : gA t C 0 = (i : Int) + 1) (t1 : ∀ x : Nat, 1 ≤ x → (x : Int) ≤ m → gA t C x = edS L1 L2 i x) :
    ∃ t' : Hp, (On (fun b => b = C) h t' ∧ ∀ x : Nat, (x : Int) ≤ m → gA t' C x = edS L1 L2 (i + 1) x) ∧ fX6_editsTo_b60 V Rw C k36 FU t m (i : Int) (i : Int) 1 = k36 t' m ((i : Int) + 1) := by
  exact fk (S := Hp × Int) (T := Hp) (fun fu v s => fX6_editsTo_b60 V Rw C k36 fu s.1 m (i : Int) s.2 v) (fun t' => k36 t' m ((i : Int) + 1)) (m.toNat + 1)
    (fun q s => 1 ≤ q ∧ On (fun b => b = C) h s.1 ∧ s.2 = edS L1 L2 i (q - 1) ∧ (∀ x : Nat, x < q → gA s.1 C x = edS L1 L2 (i + 1) x) ∧ ∀ x : Nat, q ≤ x → (x : Int) ≤ m → gA s.1 C x = edS L1 L2 i x) _ 1 (t, (i : Int)) (by omega)
    ⟨Nat.le_refl _, p, (ed_0 L1 L2 i).symm, fun x hx => by rw [show x = 0 by omega, ed_0]; show gA t C 0 = _; rw [t0]; omega, fun x h1 h2 => t1 x h1 h2⟩ (by omega)
    (fun fu q s hq hI => by
      obtain ⟨u, v5⟩ := s
      obtain ⟨q1, q2, q3, q4, q5⟩ := hI
      have q2 : On (fun b => b = C) h u := q2
      have q3 : v5 = edS L1 L2 i (q - 1) := q3
      have q4 : ∀ x : Nat, x < q → gA u C x = edS L1 L2 (i + 1) x := q4
      have q5 : ∀ x : Nat, q ≤ x → (x : Int) ≤ m → gA u C x = edS L1 L2 i x := q5
      obtain ⟨q', rfl⟩ : ∃ q', q = q' + 1 := ⟨q - 1, by omega⟩
      have e5 : WE ((((q' + 1 : Nat)) : Int) + 1) := we (by omega) (by omega)
      have e6 : w32 (((q' + 1 : Nat) : Int) - 1) = (q' : Int) := by rw [w32_id (by omega) (by omega)]; omega
      have b1 := ed_bd L1 L2 i q'
      have b2 := ed_bd L1 L2 i (q' + 1)
      have b3 := ed_bd L1 L2 (i + 1) q'
      have b4 := ed_bd L1 L2 (i + 1) (q' + 1)
      have g1 : gA u C (q' + 1) = edS L1 L2 i (q' + 1) := q5 (q' + 1) (by omega) (by omega)
      have g2 : gA u C q' = edS L1 L2 (i + 1) q' := q4 q' (by omega)
      have kU : hK u C = (21, 27) := q2.ka kC
      have y1 := f1 u q2
      have y2 := f2 u q2
      have v5e : v5 = edS L1 L2 i q' := q3
      left
      refine ⟨(sA u C ((q' + 1 : Nat) : Int) (edS L1 L2 (i + 1) (q' + 1)), edS L1 L2 i (q' + 1)), ⟨by omega, q2.tr (on_sA u rfl), rfl, fun x hx => ?_, fun x h1 h2 => ?_⟩, ?_⟩
      · show gA (sA u C ((q' + 1 : Nat) : Int) (edS L1 L2 (i + 1) (q' + 1))) C x = _
        rw [gA_sA]
        by_cases z : x = q' + 1
        · rw [if_pos ⟨rfl, by omega⟩, z, w32_id (by omega) (by omega)]
        · rw [if_neg (by omega)]
          exact q4 x (by omega)
      · show gA (sA u C ((q' + 1 : Nat) : Int) (edS L1 L2 (i + 1) (q' + 1))) C x = _
        rw [gA_sA, if_neg (by omega)]
        exact q5 x (by omega) h2
      · show fX6_editsTo_b60 V Rw C k36 (fu + 1) u m (i : Int) v5 ((q' + 1 : Nat) : Int) = fX6_editsTo_b60 V Rw C k36 fu (sA u C ((q' + 1 : Nat) : Int) (edS L1 L2 (i + 1) (q' + 1))) m (i : Int) (edS L1 L2 i (q' + 1)) (((q' + 1 : Nat) : Int) + 1)
        rw [fX6_editsTo_b60.eq_2, e6, e5.e]
        refine iteT (by omega) (gdg y1.k (bdg (xAt y1 _) (gdg y2.k (bdg (xAt y2 _) ?_))))
        rw [lt_d]
        refine gdg (by rw [kU]) (gdg (by rw [kU]; show 0 ≤ _ ∧ _ < (27 : Int); omega) ?_)
        rw [lt_d]
        refine gdg (by rw [kU]; show 0 ≤ _ ∧ _ < (27 : Int); omega) (gdg (by rw [kU]; show 0 ≤ _ ∧ _ < (27 : Int); omega) ?_)
        rw [lt_d, lt_d, show (((q' + 1 : Nat) : Int)).toNat = q' + 1 by omega, show ((q' : Int)).toNat = q' by omega, g1, g2, v5e]
        have ev : min (w32 (edS L1 L2 i q' + if L1 (i : Int) = L2 (q' : Int) then 0 else 1)) (w32 (min (edS L1 L2 i (q' + 1)) (edS L1 L2 (i + 1) q') + 1)) = edS L1 L2 (i + 1) (q' + 1) := by
          rw [ed_ss]
          by_cases z : L1 (i : Int) = L2 (q' : Int)
          · rw [if_pos z, w32_id (by omega) (by omega), w32_id (by omega) (by omega)]
          · rw [if_neg z, w32_id (by omega) (by omega), w32_id (by omega) (by omega)]
        rw [ev])
    (fun fu s hI => by
      obtain ⟨u, v5⟩ := s
      obtain ⟨q1, q2, q3, q4, q5⟩ := hI
      have e5 : WE ((i : Int) + 1) := we (by omega) (by omega)
      refine ⟨u, ⟨q2, fun x hx => q4 x (by omega)⟩, ?_⟩
      show fX6_editsTo_b60 V Rw C k36 (fu + 1) u m (i : Int) v5 ((m.toNat + 1 : Nat) : Int) = _
      rw [fX6_editsTo_b60.eq_2]
      refine iteF (by omega) ?_
      rw [lt_d, e5.e])
set_option maxHeartbeats 200000 in
theorem xEd {h : Hp} {V Rw C n : Nat} {m : Int} {L1 L2 : Int → Int} (r1 : RV h V (n : Int) L1) (r2 : RV h Rw m L2) (f1 : ∀ t, On (fun b => b = C) h t → RV t V (n : Int) L1) (f2 : ∀ t, On (fun b => b = C) h t → RV t Rw m L2) (m0 : 0 ≤ m) (m8 : m ≤ 16) (n8 : n ≤ 12) (kC : hK h C = (21, 27)) :
    ∃ t' : Hp, On (fun b => b = C) h t' ∧ fX6_editsTo h V Rw C = some (edS L1 L2 n m.toNat, t') := by
  -- the first row
  have k1 := fk (S := Hp) (T := Hp) (fun fu v s => fX6_editsTo_b15 V Rw C fu s m v) (fun t => fX6_editsTo_b36 V Rw C FU t m 0) (m.toNat + 1) (fun q s => On (fun b => b = C) h s ∧ ∀ x : Nat, x < q → gA s C x = (x : Int)) (fun t => On (fun b => b = C) h t ∧ ∀ x : Nat, (x : Int) ≤ m → gA t C x = (x : Int)) 0 h (by omega) ⟨On.rf h, fun x hx => absurd hx (by omega)⟩ (by omega)
    (fun fu q s hq hI => by
      obtain ⟨p1, p2⟩ := hI
      have e5 : WE ((q : Int) + 1) := we (by omega) (by omega)
      have kU : hK s C = (21, 27) := p1.ka kC
      left
      refine ⟨sA s C (q : Int) (q : Int), ⟨p1.tr (on_sA s rfl), fun x hx => ?_⟩, ?_⟩
      · rw [gA_sA]
        by_cases z : x = q
        · rw [if_pos ⟨rfl, by omega⟩, z, w32_id (by omega) (by omega)]
        · rw [if_neg (by omega)]
          exact p2 x (by omega)
      · show fX6_editsTo_b15 V Rw C (fu + 1) s m (q : Int) = fX6_editsTo_b15 V Rw C fu _ m ((q : Int) + 1)
        rw [fX6_editsTo_b15.eq_2]
        refine iteT (by omega) (gdg (by rw [kU]) (gdg (by rw [kU]; show 0 ≤ _ ∧ _ < (27 : Int); omega) ?_))
        rw [lt_d, lt_d, e5.e])
    (fun fu s hI => by
      obtain ⟨p1, p2⟩ := hI
      refine ⟨s, ⟨p1, fun x hx => p2 x (by omega)⟩, ?_⟩
      show fX6_editsTo_b15 V Rw C (fu + 1) s m ((m.toNat + 1 : Nat) : Int) = _
      rw [fX6_editsTo_b15.eq_2]
      exact iteF (by omega) rfl)
  obtain ⟨t, ⟨t1, t2⟩, te⟩ := k1
  have k2 := fk (S := Hp) (T := Hp) (fun fu v s => fX6_editsTo_b36 V Rw C fu s m v) (fun t => some (edS L1 L2 n m.toNat, t)) n (fun i s => On (fun b => b = C) h s ∧ ∀ x : Nat, (x : Int) ≤ m → gA s C x = edS L1 L2 i x) (fun t => On (fun b => b = C) h t) 0 t (by omega) ⟨t1, t2⟩ (by omega)
    (fun fu i s hi hI => by
      obtain ⟨p1, p2⟩ := hI
      have e5 : WE ((i : Int) + 1) := we (by omega) (by omega)
      have kU : hK s C = (21, 27) := p1.ka kC
      have y1 := f1 s p1
      have g0 : gA s C 0 = (i : Int) := by rw [p2 0 (by omega), ed_0]
      have o1 : On (fun b => b = C) h (sA s C 0 ((i : Int) + 1)) := p1.tr (on_sA s rfl)
      obtain ⟨u, ⟨u1, u2⟩, ue⟩ := xEdI r1 r2 f1 f2 m0 m8 (i := i) (by omega) kC (fX6_editsTo_b36 V Rw C fu) (sA s C 0 ((i : Int) + 1)) o1 (by rw [gA_sA, if_pos ⟨rfl, rfl⟩, w32_id (by omega) (by omega)]) (fun x h1 h2 => by rw [gA_sA, if_neg (by show ¬ (_ ∧ x = (0 : Int).toNat); omega)]; exact p2 x h2)
      left
      refine ⟨u, ⟨u1, u2⟩, ?_⟩
      show fX6_editsTo_b36 V Rw C (fu + 1) s m (i : Int) = fX6_editsTo_b36 V Rw C fu u m ((i : Int) + 1)
      rw [fX6_editsTo_b36.eq_2, y1.z, e5.e]
      refine gdg y1.k (iteT (by omega) (gdg (by rw [kU]) (gdg (by rw [kU]; show 0 ≤ _ ∧ _ < (27 : Int); omega) ?_)))
      rw [lt_d]
      refine gdg (by rw [kU]; show 0 ≤ _ ∧ _ < (27 : Int); omega) ?_
      rw [lt_d, show ((0 : Int)).toNat = 0 from rfl, g0]
      exact ue)
    (fun fu s hI => by
      obtain ⟨p1, p2⟩ := hI
      have kU : hK s C = (21, 27) := p1.ka kC
      have y1 := f1 s p1
      refine ⟨s, p1, ?_⟩
      show fX6_editsTo_b36 V Rw C (fu + 1) s m (n : Int) = _
      rw [fX6_editsTo_b36.eq_2, y1.z]
      refine gdg y1.k (iteF (by omega) (gdg (by rw [kU]) (gdg (by rw [kU]; show 0 ≤ _ ∧ _ < (27 : Int); omega) ?_)))
      rw [p2 m.toNat (by omega)])
  obtain ⟨t', h1, h2⟩ := k2
  refine ⟨t', h1, ?_⟩
  have e15 : fX6_editsTo_b15 V Rw C FU h m 0 = fX6_editsTo_b36 V Rw C FU t m 0 := te
  have e36 : fX6_editsTo_b36 V Rw C FU t m 0 = some (edS L1 L2 n m.toNat, t') := h2
  unfold fX6_editsTo
  rw [r2.z, kC]
  refine gdg r2.k (gdg rfl (gdg (by show (27 : Int) < _; omega) (ltg ?_)))
  rw [show min m (w32 (((27 : Nat) : Int) - 1)) = m by rw [w32_id (by omega) (by omega)]; omega, e15, e36]
set_option maxHeartbeats 200000 in
theorem ix_a {i k p q : Nat} (hp : p < i) (hq : q ≤ 16) : ¬ 17 * p + q = (17 * (i : Int) + (k : Int)).toNat := by omega
set_option maxHeartbeats 200000 in
theorem ix_b {i k q : Nat} (z : ¬ q = k) : ¬ 17 * i + q = (17 * (i : Int) + (k : Int)).toNat := by omega
set_option maxHeartbeats 200000 in
theorem ix_c (i k : Nat) : 17 * i + k = (17 * (i : Int) + (k : Int)).toNat := by omega
/-- an equality hidden from omega -/
def HE (x y : Int) : Prop := x = y
set_option maxHeartbeats 200000 in
theorem HE.e {x y : Int} (h : HE x y) : x = y := h
set_option maxHeartbeats 200000 in
theorem he {x y : Int} (h : x = y) : HE x y := h
set_option maxHeartbeats 200000 in
/-- one cell -/
theorem rFarS {M : Nat} {c : Nat → Int} {a s n m : Int} {i k : Nat} {u : Hp} (E : Nat → Nat → Int) (e0 : ∀ q, E 0 q = (q : Int)) (e1 : ∀ p : Nat, E p 0 = (p : Int)) (es : ∀ p q, E (p + 1) (q + 1) = min (E p q + (if hL c a (p : Int) = sL c s (q : Int) then 0 else 1)) (min (E p (q + 1)) (E (p + 1) q) + 1)) (eb : ∀ p q : Nat, 0 ≤ E p q ∧ E p q ≤ (p : Int) + q)
    (ms : MS u M) (hc : gA u (M + 5) = c) (w : WF c) (a0 : 0 ≤ a) (a8 : a < 8) (s0 : 0 ≤ s) (s8 : s < 8) (hn : hN c a = n) (hm : c (4 + s).toNat = m) (ha : 0 ≤ n ∧ n ≤ 12) (hs : 0 ≤ m ∧ m ≤ 16) (hi : i < n.toNat + 1) (hk : k < m.toNat + 1)
    (j2 : ∀ p q : Nat, p < i → (q : Int) ≤ m → gA u (M + 10) (17 * p + q) = E p q) (j3 : ∀ q : Nat, q < k → gA u (M + 10) (17 * i + q) = E i q) (k51 : Hp → Int → Int → Int → Option (Int × Hp)) (fu2 : Nat) :
    fX12_far_b60 M a s k51 (fu2 + 1) u n m (i : Int) (k : Int) = fX12_far_b60 M a s k51 fu2 (sA u (M + 10) (17 * (i : Int) + (k : Int)) (E i k)) n m (i : Int) ((k : Int) + 1) := by
  have bk := eb i k
  have e6 : WE ((k : Int) + 1) := we (by omega) (by omega)
  have ex1 : HE (w32 (w32 (17 * (i : Int)) + (k : Int))) (17 * (i : Int) + (k : Int)) := he (by rw [w32_id (x := 17 * (i : Int)) (by omega) (by omega), w32_id (by omega) (by omega)])
  have e211 : fX12_far_b211 M a s k51 (fX12_far_b60 M a s k51 fu2) u n m (i : Int) (k : Int) (E i k) = fX12_far_b60 M a s k51 fu2 (sA u (M + 10) (17 * (i : Int) + (k : Int)) (E i k)) n m (i : Int) ((k : Int) + 1) := by
    rw [fX12_far_b211, ex1.e]
    refine gdg ms.k (nng ms.r795 (gdg (by rw [ms.k10]) (gdg (by rw [ms.k10]; show 0 ≤ _ ∧ _ < (289 : Int); omega) ?_)))
    rw [lt_d, lt_d, e6.e]
  have ki : ∀ x : Int, 0 ≤ x → x < 289 → inA x (hK u (M + 10)).2 := fun x x0 x8 => by rw [ms.k10]; exact ⟨x0, x8⟩
  have k10 : (hK u (M + 10)).1 = 21 := by rw [ms.k10]
  rw [fX12_far_b60.eq_2]
  refine iteT (by omega) ?_
  cases i with
  | zero =>
    refine iteT rfl ?_
    rw [fX12_far_b90]
    refine iteF (by omega) ?_
    cases k with
    | zero =>
      rw [fX12_far_b121]
      refine iteF (by omega) ?_
      rw [fX12_far_b150]
      refine iteF (by omega) ?_
      rw [e0 0] at e211
      rw [e0 0]
      exact e211
    | succ k =>
      have g := j3 k (by omega)
      have eg : E 0 k = (k : Int) := e0 k
      have eg2 : E 0 (k + 1) = ((k + 1 : Nat) : Int) := e0 (k + 1)
      rw [eg] at g
      rw [fX12_far_b121]
      refine iteT (by omega) (gdg ms.k (nng ms.r795 (gdg k10 ?_)))
      rw [ex1.e, show w32 (17 * ((0 : Nat) : Int) + ((k + 1 : Nat) : Int) - 1) = (k : Int) by rw [w32_id (by omega) (by omega)]; omega]
      refine gdg (ki _ (by omega) (by omega)) ?_
      rw [lt_d, show ((k : Int)).toNat = 17 * 0 + k by omega, g, w32_id (by omega) (by omega), fX12_far_b150]
      refine iteF (by omega) ?_
      rw [show min ((k + 1 : Nat) : Int) ((k : Int) + 1) = E 0 (k + 1) by rw [eg2]; omega]
      exact e211
  | succ i =>
    have exm : HE (w32 (w32 (17 * w32 (((i + 1 : Nat) : Int) - 1)) + (k : Int))) (17 * (i : Int) + (k : Int)) := by
      refine he ?_
      rw [w32_id (x := ((i + 1 : Nat) : Int) - 1) (by omega) (by omega), w32_id (x := 17 * (((i + 1 : Nat) : Int) - 1)) (by omega) (by omega), w32_id (by omega) (by omega)]
      omega
    refine iteF (by omega) ?_
    cases k with
    | zero =>
      have g := j2 i 0 (by omega) (by omega)
      rw [e1] at g
      refine iteT rfl ?_
      rw [fX12_far_b90, exm.e]
      refine iteT (by omega) (gdg ms.k (nng ms.r795 (gdg k10 (gdg (ki _ (by omega) (by omega)) ?_))))
      rw [lt_d, show ((17 * (i : Int) + ((0 : Nat) : Int))).toNat = 17 * i + 0 by omega, g, w32_id (by omega) (by omega), fX12_far_b121]
      refine iteF (by omega) ?_
      rw [fX12_far_b150]
      refine iteT (by omega) (iteF (by omega) ?_)
      rw [show min ((i + 1 : Nat) : Int) ((i : Int) + 1) = E (i + 1) 0 by rw [e1]; omega]
      exact e211
    | succ k =>
      have g1 := j2 i (k + 1) (by omega) (by omega)
      have g2 := j3 k (by omega)
      have g3 := j2 i k (by omega) (by omega)
      have b1 := eb i (k + 1)
      have b2 := eb (i + 1) k
      have b3 := eb i k
      have es := es i k
      refine iteF (by omega) ?_
      rw [fX12_far_b90, exm.e]
      refine iteT (by omega) (gdg ms.k (nng ms.r795 (gdg k10 (gdg (ki _ (by omega) (by omega)) ?_))))
      rw [lt_d, show ((17 * (i : Int) + ((k + 1 : Nat) : Int))).toNat = 17 * i + (k + 1) by omega, g1, w32_id (by omega) (by omega), fX12_far_b121, ex1.e]
      refine iteT (by omega) (gdg ms.k (nng ms.r795 (gdg k10 ?_)))
      rw [show w32 (17 * ((i + 1 : Nat) : Int) + ((k + 1 : Nat) : Int) - 1) = 17 * ((i + 1 : Nat) : Int) + (k : Int) by rw [w32_id (by omega) (by omega)]; omega]
      refine gdg (ki _ (by omega) (by omega)) ?_
      rw [lt_d, show ((17 * ((i + 1 : Nat) : Int) + (k : Int))).toNat = 17 * (i + 1) + k by omega, g2, w32_id (by omega) (by omega), fX12_far_b150, exm.e]
      refine iteT (by omega) (iteT (by omega) (gdg ms.k (nng ms.r795 (gdg k10 ?_))))
      rw [show w32 (17 * (i : Int) + ((k + 1 : Nat) : Int) - 1) = 17 * (i : Int) + (k : Int) by rw [w32_id (by omega) (by omega)]; omega, show w32 (((i + 1 : Nat) : Int) - 1) = (i : Int) by rw [w32_id (by omega) (by omega)]; omega, show w32 (((k + 1 : Nat) : Int) - 1) = (k : Int) by rw [w32_id (by omega) (by omega)]; omega]
      refine gdg (ki _ (by omega) (by omega)) (nng ms.r788 (gdg ms.k5 ?_))
      rw [hc]
      refine bdg (rLet w a0 a8 (by omega) (by omega)) (gdg ms.k5 (bdg (rSnd s0 s8 (by omega) (by omega) (by omega)) ?_))
      rw [lt_d, show ((17 * (i : Int) + (k : Int))).toNat = 17 * i + k by omega, g3]
      have ev : min (min (min 1000000 (E i (k + 1) + 1)) (E (i + 1) k + 1)) (w32 (E i k + if hL c a (i : Int) = sL c s (k : Int) then 0 else 1)) = E (i + 1) (k + 1) := by
        rw [es]
        by_cases z : hL c a (i : Int) = sL c s (k : Int)
        · rw [if_pos z, w32_id (by omega) (by omega)]; omega
        · rw [if_neg z, w32_id (by omega) (by omega)]; omega
      rw [ev]
      exact e211
set_option maxHeartbeats 200000 in
/-- FAR, in the reference -/
theorem rFar {h : Hp} {M : Nat} {c : Nat → Int} {a s : Int} (ms : MS h M) (hc : gA h (M + 5) = c) (w : WF c) (a0 : 0 ≤ a) (a8 : a < 8) (s0 : 0 ≤ s) (s8 : s < 8) :
    ∃ t : Hp, On (fun b => b = M + 10) h t ∧ fX12_far_b51 M a s FU h (hN c a) (c (4 + s).toNat) 0 = some (edS (hL c a) (sL c s) (hN c a).toNat (c (4 + s).toNat).toNat, t) := by
  have ha := hN_bd w a0 a8
  have hs := w.sl s0 s8
  have keep : ∀ t, On (fun b => b = M + 10) h t → MS t M ∧ gA t (M + 5) = c := fun t p => ⟨⟨fun i hi => by rw [p.k]; exact ms.1 i hi, fun q hq => by rw [p.r (by omega)]; exact ms.2 q hq⟩, by rw [p.af (by omega)]; exact hc⟩
  generalize hn : hN c a = n at ha ⊢
  have e0 : ∀ q, edS (hL c a) (sL c s) 0 q = (q : Int) := fun q => rfl
  have e1 : ∀ p : Nat, edS (hL c a) (sL c s) p 0 = (p : Int) := fun p => ed_0 _ _ p
  have es := ed_ss (hL c a) (sL c s)
  have eb := ed_bd (hL c a) (sL c s)
  generalize edS (hL c a) (sL c s) = E at e0 e1 es eb ⊢
  generalize hm : c (4 + s).toNat = m at hs ⊢
  have k2 := fk (S := Hp) (T := Hp) (fun fu v t => fX12_far_b51 M a s fu t n m v) (fun t => some (E n.toNat m.toNat, t)) (n.toNat + 1) (fun i t => On (fun b => b = M + 10) h t ∧ ∀ p q : Nat, p < i → (q : Int) ≤ m → gA t (M + 10) (17 * p + q) = E p q) (fun t => On (fun b => b = M + 10) h t) 0 h (by omega) ⟨On.rf h, fun p q hp => absurd hp (by omega)⟩ (by omega)
    (fun fu i t hi hI => by
      obtain ⟨p1, p2⟩ := hI
      have e5 : WE ((i : Int) + 1) := we (by omega) (by omega)
      have inner := fk (S := Hp) (T := Hp) (fun fu2 v t => fX12_far_b60 M a s (fX12_far_b51 M a s fu) fu2 t n m (i : Int) v) (fun t => fX12_far_b51 M a s fu t n m ((i : Int) + 1)) (m.toNat + 1) (fun k t => On (fun b => b = M + 10) h t ∧ (∀ p q : Nat, p < i → (q : Int) ≤ m → gA t (M + 10) (17 * p + q) = E p q) ∧ ∀ q : Nat, q < k → gA t (M + 10) (17 * i + q) = E i q) (fun t => On (fun b => b = M + 10) h t ∧ ∀ p q : Nat, p < i + 1 → (q : Int) ≤ m → gA t (M + 10) (17 * p + q) = E p q) 0 t (by omega) ⟨p1, p2, fun q hq => absurd hq (by omega)⟩ (by omega)
        (fun fu2 k u hk hJ => by
          obtain ⟨j1, j2, j3⟩ := hJ
          obtain ⟨ms, hc⟩ := keep u j1
          have bk := eb i k
          left
          refine ⟨sA u (M + 10) (17 * (i : Int) + (k : Int)) (E i k), ⟨j1.tr (on_sA u rfl), fun p q hp hq => ?_, fun q hq => ?_⟩, ?_⟩
          · rw [gA_sA, if_neg (fun z => ix_a hp (by omega) z.2)]
            exact j2 p q hp hq
          · rw [gA_sA]
            by_cases z : q = k
            · rw [if_pos ⟨rfl, by rw [z]; exact ix_c i k⟩, z, w32_id (by omega) (by omega)]
            · rw [if_neg (fun y => ix_b z y.2)]
              exact j3 q (by omega)
          · show fX12_far_b60 M a s (fX12_far_b51 M a s fu) (fu2 + 1) u n m (i : Int) (k : Int) = fX12_far_b60 M a s (fX12_far_b51 M a s fu) fu2 (sA u (M + 10) (17 * (i : Int) + (k : Int)) (E i k)) n m (i : Int) ((k : Int) + 1)
            exact rFarS E e0 e1 es eb ms hc w a0 a8 s0 s8 hn hm ⟨ha.1, ha.2.2⟩ hs hi hk j2 j3 _ fu2)
        (fun fu2 u hJ => by
          obtain ⟨j1, j2, j3⟩ := hJ
          refine ⟨u, ⟨j1, fun p q hp hq => ?_⟩, ?_⟩
          · by_cases z : p = i
            · rw [z]; exact j3 q (by omega)
            · exact j2 p q (by omega) hq
          · show fX12_far_b60 M a s (fX12_far_b51 M a s fu) (fu2 + 1) u n m (i : Int) ((m.toNat + 1 : Nat) : Int) = _
            rw [fX12_far_b60.eq_2]
            refine iteF (by omega) ?_
            rw [lt_d, e5.e])
      obtain ⟨u, hu, ue⟩ := inner
      left
      refine ⟨u, hu, ?_⟩
      show fX12_far_b51 M a s (fu + 1) t n m (i : Int) = fX12_far_b51 M a s fu u n m ((i : Int) + 1)
      rw [fX12_far_b51.eq_2]
      exact iteT (by omega) ue)
    (fun fu t hI => by
      obtain ⟨p1, p2⟩ := hI
      obtain ⟨ms, hc⟩ := keep t p1
      refine ⟨t, p1, ?_⟩
      show fX12_far_b51 M a s (fu + 1) t n m ((n.toNat + 1 : Nat) : Int) = _
      rw [fX12_far_b51.eq_2, w32_id (x := 17 * n) (by omega) (by omega), w32_id (x := 17 * n + m) (by omega) (by omega)]
      refine iteF (by omega) (gdg ms.k (nng ms.r795 (gdg (by rw [ms.k10]) (gdg (by rw [ms.k10]; show 0 ≤ _ ∧ _ < (289 : Int); omega) ?_))))
      rw [show (17 * n + m).toNat = 17 * n.toNat + m.toNat by omega, p2 n.toNat m.toNat (by omega) (by omega)])
  obtain ⟨t, h1, h2⟩ := k2
  exact ⟨t, h1, h2⟩

set_option maxHeartbeats 200000 in
theorem ok_far {h : Hp} {X : Nat} {c : Nat → Int} {a s : Int} (H : CX h X c) (G : CM h X c) : OK2 (fun h => fX11_far h X a s) (fun h => fX12_far h (X + 121) a s) h X := by
  have w := H.wf
  by_cases q1 : okJ c a
  · by_cases q2 : okS c s
    · have a8 := nj_lt w q1
      have s8 := ns_lt w q2
      have hn := hN_bd w q1.1 a8
      have hs := w.sl q2.1 s8
      obtain ⟨h', g1, g2, g3, g4, g5, g6⟩ := H.hearV q1
      obtain ⟨S, t1, t2, t3, t4, t5, t6, t7, t8⟩ := g3.snd q2
      obtain ⟨qa, ra, n1, n2⟩ := id g4
      have eN : (((hN c a).toNat : Nat) : Int) = hN c a := by omega
      have gk := g4.k
      have kx := g3.k
      have ra' : RVa h' (X + 81 + 2 * a.toNat) qa (((hN c a).toNat : Nat) : Int) (hL c a) := by rw [eN]; exact ra
      obtain ⟨t', o1, o2⟩ := xEd (C := X + 101) ra'.v t7.v (fun t p => (ra'.on p (by omega) (fun z => n2 (by unfold sc; omega))).v) (fun t p => (t7.on p (by unfold SO at t8; omega) (by unfold SO at t8; omega)).v) hs.1 hs.2 (by omega) g3.1.k101
      have qo : QX X h' t' := q_on o1 (fun b hb => by rw [hb]; unfold sc; omega)
      have gx := g3.q qo po_X
      have ky := gx.k
      have r712 := g3.1.r712
      refine ⟨0, edS (hL c a) (sL c s) (hN c a).toNat (c (4 + s).toNat).toNat, ?_, fun h1 p => ?_⟩
      · show XR (fX11_far h X a s) h X _ _
        unfold fX11_far
        exact XR.of (by (have z_1 := xJr1 H q1.1 q1.2; have z_2 := xSn1 H q2.1 q2.2; (repeat' (first | (with_reducible refine ltg ?_) | ((with_reducible refine iteT ?_ ?_); omega) | ((with_reducible refine iteF ?_ ?_); omega) | ((with_reducible refine gdg ?_ ?_); first | with_reducible exact H.k | with_reducible exact z_1 | with_reducible exact z_2 | with_reducible exact g1 | with_reducible exact kx | with_reducible exact gk | with_reducible exact t1 | with_reducible exact t2 | with_reducible exact t3 | with_reducible exact t4 | with_reducible exact t5 | with_reducible exact t6 | with_reducible exact r712 | with_reducible exact o2 | with_reducible exact ky | omega) | ((with_reducible apply nng); first | with_reducible exact H.k | with_reducible exact z_1 | with_reducible exact z_2 | with_reducible exact g1 | with_reducible exact kx | with_reducible exact gk | with_reducible exact t1 | with_reducible exact t2 | with_reducible exact t3 | with_reducible exact t4 | with_reducible exact t5 | with_reducible exact t6 | with_reducible exact r712 | with_reducible exact o2 | with_reducible exact ky) | ((with_reducible apply bdg); first | with_reducible exact H.k | with_reducible exact z_1 | with_reducible exact z_2 | with_reducible exact g1 | with_reducible exact kx | with_reducible exact gk | with_reducible exact t1 | with_reducible exact t2 | with_reducible exact t3 | with_reducible exact t4 | with_reducible exact t5 | with_reducible exact t6 | with_reducible exact r712 | with_reducible exact o2 | with_reducible exact ky) | ((with_reducible apply bd2g); first | with_reducible exact H.k | with_reducible exact z_1 | with_reducible exact z_2 | with_reducible exact g1 | with_reducible exact kx | with_reducible exact gk | with_reducible exact t1 | with_reducible exact t2 | with_reducible exact t3 | with_reducible exact t4 | with_reducible exact t5 | with_reducible exact t6 | with_reducible exact r712 | with_reducible exact o2 | with_reducible exact ky)))); exact bd2_id _) (xr_an ky (g2.tr qo))
      · obtain ⟨ms, hc, -⟩ := G.q p
        obtain ⟨t, u1, u2⟩ := rFar (h := pI (pI h1 769 (X + 121) 0) 768 (X + 121) 0) ms hc w q1.1 a8 q2.1 s8
        have qm : QM X h1 t := (m0_q h1 X).tr (q_on u1 (fun b hb => by rw [hb]; unfold sc; omega))
        have st : gI t 768 (X + 121) = 0 := by rw [u1.i (by omega)]; exact m0_s h1 X
        simp only [fX12_far, lt_d, hK_pI, gR_pI, gA_pI, gB_pI, gC_pI, gJ_pI, ms.r788, nn_s, ms.k0, ms.k5, gd_T, eq_self, hc, bd2_id, Int.reduceToNat, w32_id (x := 4 + s) (by have := q2.1; omega) (by omega)]
        exact MR.of (by (have z_0 := rJr1 w q1.1 q1.2; have z_1 := rSn1 w q2.1 q2.2; have z_2 := rNow w q1.1 a8; (repeat' (first | (with_reducible refine ltg ?_) | ((with_reducible refine iteT ?_ ?_); omega) | ((with_reducible refine iteF ?_ ?_); omega) | ((with_reducible refine gdg ?_ ?_); first | with_reducible exact z_0 | with_reducible exact z_1 | with_reducible exact z_2 | omega) | ((with_reducible apply nng); first | with_reducible exact z_0 | with_reducible exact z_1 | with_reducible exact z_2) | ((with_reducible apply bdg); first | with_reducible exact z_0 | with_reducible exact z_1 | with_reducible exact z_2) | ((with_reducible apply bd2g); first | with_reducible exact z_0 | with_reducible exact z_1 | with_reducible exact z_2)))); exact u2) (mr_some qm st)
    · refine ⟨2, -1, ?_, fun h1 p => ?_⟩
      · show XR (fX11_far h X a s) h X _ _
        unfold fX11_far
        exact XR.of (by (have z_1 := xJr1 H q1.1 q1.2; have z_2 := xSn0 H (noS q2); (repeat' (first | (with_reducible refine ltg ?_) | ((with_reducible refine iteT ?_ ?_); omega) | ((with_reducible refine iteF ?_ ?_); omega) | ((with_reducible refine gdg ?_ ?_); first | with_reducible exact H.k | with_reducible exact z_1 | with_reducible exact z_2 | omega) | ((with_reducible apply nng); first | with_reducible exact H.k | with_reducible exact z_1 | with_reducible exact z_2) | ((with_reducible apply bdg); first | with_reducible exact H.k | with_reducible exact z_1 | with_reducible exact z_2) | ((with_reducible apply bd2g); first | with_reducible exact H.k | with_reducible exact z_1 | with_reducible exact z_2)))); exact bd2_id _) (xr_re H.k (QR.rf h) (rg_lit rfl))
      · obtain ⟨ms, hc, -⟩ := G.q p
        simp only [fX12_far, lt_d, hK_pI, gR_pI, gA_pI, gB_pI, gC_pI, gJ_pI, ms.r788, nn_s, ms.k0, ms.k5, gd_T, eq_self, hc, bd2_id, Int.reduceToNat]
        exact MR.of (by (have z_0 := rJr1 w q1.1 q1.2; have z_1 := rSn0 w (noS q2); (repeat' (first | (with_reducible refine ltg ?_) | ((with_reducible refine iteT ?_ ?_); omega) | ((with_reducible refine iteF ?_ ?_); omega) | ((with_reducible refine gdg ?_ ?_); first | with_reducible exact z_0 | with_reducible exact z_1 | omega) | ((with_reducible apply nng); first | with_reducible exact z_0 | with_reducible exact z_1) | ((with_reducible apply bdg); first | with_reducible exact z_0 | with_reducible exact z_1) | ((with_reducible apply bd2g); first | with_reducible exact z_0 | with_reducible exact z_1)))); rfl) (mr_m0r ms (rg_lit rfl))
  · refine ⟨2, -1, ?_, fun h1 p => ?_⟩
    · show XR (fX11_far h X a s) h X _ _
      unfold fX11_far
      exact XR.of (by (have z_1 := xJr0 H (noJ q1); (repeat' (first | (with_reducible refine ltg ?_) | ((with_reducible refine iteT ?_ ?_); omega) | ((with_reducible refine iteF ?_ ?_); omega) | ((with_reducible refine gdg ?_ ?_); first | with_reducible exact H.k | with_reducible exact z_1 | omega) | ((with_reducible apply nng); first | with_reducible exact H.k | with_reducible exact z_1) | ((with_reducible apply bdg); first | with_reducible exact H.k | with_reducible exact z_1) | ((with_reducible apply bd2g); first | with_reducible exact H.k | with_reducible exact z_1)))); exact bd2_id _) (xr_re H.k (QR.rf h) (rg_lit rfl))
    · obtain ⟨ms, hc, -⟩ := G.q p
      simp only [fX12_far, lt_d, hK_pI, gR_pI, gA_pI, gB_pI, gC_pI, gJ_pI, ms.r788, nn_s, ms.k0, ms.k5, gd_T, eq_self, hc, bd2_id, Int.reduceToNat]
      exact MR.of (by (have z_0 := rJr0 w (noJ q1); (repeat' (first | (with_reducible refine ltg ?_) | ((with_reducible refine iteT ?_ ?_); omega) | ((with_reducible refine iteF ?_ ?_); omega) | ((with_reducible refine gdg ?_ ?_); first | with_reducible exact z_0 | omega) | ((with_reducible apply nng); first | with_reducible exact z_0) | ((with_reducible apply bdg); first | with_reducible exact z_0) | ((with_reducible apply bd2g); first | with_reducible exact z_0)))); rfl) (mr_m0r ms (rg_lit rfl))
