/-! MERGED ROWS, in the class: what merging may change; adding a row -/
abbrev E7 : List Nat := [105, 106, 107, 108, 109, 110, 112]
abbrev F5 : List (Nat × Nat) := [(260, 104), (261, 104), (262, 104), (263, 104), (386, 111)]
def ME (X : Nat) (h t : Hp) : Prop := FL E7 F5 X h t ∧ ∀ a, ¬ (X + 99 ≤ a ∧ a < X + 144) → Sm h t a
set_option maxHeartbeats 200000 in
theorem Sm.rf (h : Hp) (a : Nat) : Sm h h a := ⟨rfl, fun _ => ⟨rfl, rfl, rfl⟩, fun _ => ⟨rfl, rfl, rfl⟩⟩
set_option maxHeartbeats 200000 in
theorem Sm.tr {h h1 h2 : Hp} {a : Nat} (p : Sm h h1 a) (q : Sm h1 h2 a) : Sm h h2 a := ⟨q.1.trans p.1, fun f => ⟨(q.2.1 f).1.trans (p.2.1 f).1, (q.2.1 f).2.1.trans (p.2.1 f).2.1, (q.2.1 f).2.2.trans (p.2.1 f).2.2⟩, fun i => ⟨(q.2.2 i).1.trans (p.2.2 i).1, (q.2.2 i).2.1.trans (p.2.2 i).2.1, (q.2.2 i).2.2.trans (p.2.2 i).2.2⟩⟩
set_option maxHeartbeats 200000 in
theorem ME.rf {X : Nat} (h : Hp) : ME X h h := ⟨FL.rf h, fun a _ => Sm.rf h a⟩
set_option maxHeartbeats 200000 in
theorem ME.tr {X : Nat} {h h1 h2 : Hp} (p : ME X h h1) (q : ME X h1 h2) : ME X h h2 := ⟨p.1.tr q.1, fun a n => (p.2 a n).tr (q.2 a n)⟩
set_option maxHeartbeats 200000 in
theorem sm_on {W : Nat → Prop} {h t : Hp} {a : Nat} (p : On W h t) (n : ¬ W a) : Sm h t a := ⟨by rw [p.k], (p.2.2 a n).1, (p.2.2 a n).2⟩
set_option maxHeartbeats 200000 in
theorem me_sA {X : Nat} (h : Hp) {a : Nat} {k v : Int} (i : Nat) (ea : a = X + i) (m : i ∈ E7) (b : 99 ≤ i ∧ i < 144) : ME X h (sA h a k v) := ⟨fl_sA h i ea m, fun x n => sm_on (W := fun b => b = a) (on_sA h rfl) (fun e => n (by omega))⟩
set_option maxHeartbeats 200000 in
theorem me_sC {X : Nat} (h : Hp) {a v : Nat} {k : Int} (i : Nat) (ea : a = X + i) (m : i ∈ E7) (b : 99 ≤ i ∧ i < 144) : ME X h (sC h a k v) := ⟨fl_on (W := fun b => b = a) (on_sC h rfl) (fun _ hb => Or.inr ⟨i, m, by rw [hb, ea]⟩), fun x n => sm_on (W := fun b => b = a) (on_sC h rfl) (fun e => n (by omega))⟩
set_option maxHeartbeats 200000 in
theorem me_pI {X : Nat} (h : Hp) {f a : Nat} {v : Int} (i : Nat) (ea : a = X + i) (m : (f, i) ∈ F5) (b : 99 ≤ i ∧ i < 144) : ME X h (pI h f a v) := ⟨fl_pI h i ea m, fun x n => ⟨rfl, fun f' => ⟨gI_n (Or.inr (by omega)), rfl, rfl⟩, fun _ => ⟨rfl, rfl, rfl⟩⟩⟩
set_option maxHeartbeats 200000 in
theorem me_pR {X : Nat} (h : Hp) {f a v : Nat} (i : Nat) (ea : a = X + i) (m : (f, i) ∈ F5) (b : 99 ≤ i ∧ i < 144) : ME X h (pR h f a v) := ⟨fl_pR h i ea m, fun x n => ⟨rfl, fun f' => ⟨rfl, rfl, gR_n (Or.inr (by omega))⟩, fun _ => ⟨rfl, rfl, rfl⟩⟩⟩
set_option maxHeartbeats 200000 in
theorem ME.z {X : Nat} {h t : Hp} (p : ME X h t) : hZ h ≤ hZ t := p.1.1
set_option maxHeartbeats 200000 in
theorem ME.x {X : Nat} {h t : Hp} (p : ME X h t) (H : XS h X) (z : X + 144 ≤ hZ h) : XS t X := H.fl p.1 z (by decide +kernel)
set_option maxHeartbeats 200000 in
theorem me_kf (f : Nat) (n : f ≠ 260 ∧ f ≠ 261 ∧ f ≠ 262 ∧ f ≠ 263) (e : kF E7 F5 f 104 = true) {X : Nat} {h t : Hp} (p : ME X h t) (z : X + 144 ≤ hZ h) : gI t f (X + 104) = gI h f (X + 104) ∧ gR t f (X + 104) = gR h f (X + 104) := ⟨(p.1.fi z e).1, (p.1.fi z e).2.2⟩
/-- a row that was heard, out of the way of merging -/
def VS (h : Hp) (X : Nat) (c : Nat → Int) (j : Nat) : Prop := ∃ q, RVa h (X + 81 + 2 * j) q (hN c (j : Int)) (hL c (j : Int)) ∧ ¬ (X + 76 ≤ q ∧ q < X + 144)
set_option maxHeartbeats 200000 in
theorem VS.v {h : Hp} {X : Nat} {c : Nat → Int} {j : Nat} (v : VS h X c j) : RV h (X + 81 + 2 * j) (hN c (j : Int)) (hL c (j : Int)) := by
  obtain ⟨q, r, -⟩ := v; exact r.v
set_option maxHeartbeats 200000 in
theorem VS.me {h t : Hp} {X : Nat} {c : Nat → Int} {j : Nat} (v : VS h X c j) (j8 : j < 8) (p : ME X h t) : VS t X c j := by
  obtain ⟨q, r, n⟩ := v
  exact ⟨q, r.sm (p.2 _ (by omega)) (p.2 _ (by omega)), n⟩
set_option maxHeartbeats 200000 in
theorem CX.hearS {h : Hp} {X j : Nat} {c : Nat → Int} (H : CX h X c) (q : j < (c 2).toNat) :
    ∃ t, fX11_hear h X (j : Int) = some (X + 81 + 2 * j, t) ∧ QX X h t ∧ CX t X c ∧ VS t X c j ∧ (∀ k, k < 8 → VS h X c k → VS t X c k) ∧ On (fun b => b = X + 81 + 2 * j) h t := by
  have nj := H.wf.nj
  obtain ⟨t, S, e1, e2, e3, e4, e5⟩ := H.hear (j := (j : Int)) (by omega) (by omega)
  have wj := (H.wf.wj (j := (j : Int)) (by omega) (by omega)).2.2.2.2.2.2.2.2
  have qv : QX X h t := q_view (by omega) (by omega) e2
  have nv : VS t X c j := ⟨_, e3, by unfold SO at e4; omega⟩
  refine ⟨t, e1, qv, H.q qv po_X, nv, fun k k8 vk => ?_, e2⟩
  by_cases e : k = j
  · rw [e]; exact nv
  · obtain ⟨r, r1, r2⟩ := vk
    exact ⟨r, r1.sm (sm_on e2 (fun z => e (by have z : X + 81 + 2 * k = X + 81 + 2 * j := z; omega))) (sm_on e2 (fun z => r2 (by have z : r = X + 81 + 2 * j := z; omega))), r2⟩
set_option maxHeartbeats 200000 in
theorem xSI {h : Hp} {X a b : Nat} {c : Nat → Int} (va : VS h X c a) (vb : VS h X c b) : fX6_standsIn h (X + 81 + 2 * a) (X + 81 + 2 * b) = some (b01 (oB c a b)) := xStI va.v vb.v
def PA (h : Hp) (X : Nat) (l : List Nat) : Prop := gI h 263 (X + 104) = (l.length : Int) ∧ ∀ k, k < l.length → gC h (X + 105) k = some (X + 81 + 2 * gtN l k)
def flK (c : Nat → Int) (l : List Nat) (j : Nat) : Nat → List Nat
  | 0 => []
  | i + 1 => if oB c (gtN l i) j then flK c l j i else flK c l j i ++ [gtN l i]
set_option maxHeartbeats 200000 in
theorem gtN_take {l : List Nat} {i : Nat} (h : i < l.length) : l.take (i + 1) = l.take i ++ [gtN l i] := by
  unfold gtN
  rw [List.take_add_one]
  simp [List.getD_eq_getElem?_getD, List.getElem?_eq_getElem h]
set_option maxHeartbeats 200000 in
theorem flK_take {c : Nat → Int} {l : List Nat} {j : Nat} : ∀ i, i ≤ l.length → flK c l j i = (l.take i).filter (fun p => !oB c p j) ∧ (flK c l j i).length ≤ i := by
  intro i
  induction i with
  | zero => intro _; exact ⟨rfl, Nat.le_refl _⟩
  | succ i ih =>
    intro hi
    obtain ⟨h1, h2⟩ := ih (by omega)
    have e : flK c l j (i + 1) = if oB c (gtN l i) j then flK c l j i else flK c l j i ++ [gtN l i] := rfl
    rw [e, gtN_take (by omega), List.filter_append, ← h1]
    cases q : oB c (gtN l i) j with
    | true => rw [if_pos rfl]; exact ⟨by simp [q], by omega⟩
    | false => exact ⟨by simp [q], by show (flK c l j i ++ [gtN l i]).length ≤ i + 1; rw [List.length_append]; exact Nat.succ_le_succ h2⟩
set_option maxHeartbeats 200000 in
theorem flK_all {c : Nat → Int} {l : List Nat} {j : Nat} : flK c l j l.length = l.filter (fun p => !oB c p j) := by
  rw [(flK_take l.length (Nat.le_refl _)).1, List.take_length]
set_option maxHeartbeats 200000 in
theorem r256 {h : Hp} {X : Nat} (H : XS h X) : gR h 256 (X + 104) = some (X + 105) := H.2.1 (256, 104, 105) (by decide)
set_option maxHeartbeats 200000 in
theorem r257 {h : Hp} {X : Nat} (H : XS h X) : gR h 257 (X + 104) = some (X + 106) := H.2.1 (257, 104, 106) (by decide)
set_option maxHeartbeats 200000 in
theorem r258 {h : Hp} {X : Nat} (H : XS h X) : gR h 258 (X + 104) = some (X + 107) := H.2.1 (258, 104, 107) (by decide)
set_option maxHeartbeats 200000 in
theorem r259 {h : Hp} {X : Nat} (H : XS h X) : gR h 259 (X + 104) = some (X + 108) := H.2.1 (259, 104, 108) (by decide)
set_option maxHeartbeats 200000 in
theorem fl_sC5 {X v : Nat} {k : Int} (h : Hp) : FL [105] [(263, 104)] X h (sC h (X + 105) k v) := fl_on (W := fun b => b = X + 105) (on_sC h rfl) (fun _ hb => Or.inr ⟨105, by decide, hb⟩)
set_option maxHeartbeats 200000 in
/-- which of the earlier rows stay -/
theorem xKpp {h : Hp} {X j : Nat} {c : Nat → Int} {l : List Nat} (H : XS h X) (z : X + 144 ≤ hZ h) (n6 : l.length ≤ 6) (hl : ∀ k, k < l.length → gtN l k < 8 ∧ VS h X c (gtN l k)) (j8 : j < 8) (vj : VS h X c j) (pa : PA h X l) (l6 : (flK c l j l.length).length < 6 ∨ hN c (j : Int) ≤ 0) :
    ∃ t : Hp, (FL [105] [(263, 104)] X h t ∧ ME X h t ∧ PA t X (flK c l j l.length ++ (if 0 < hN c (j : Int) then [j] else []))) ∧ fX4_add_b34 (X + 104) (X + 81 + 2 * j) FU h 0 0 = some t := by
  have k104 : ∀ t, XS t X → (hK t (X + 104)).1 = 4 := fun t Ht => by rw [Ht.k104]
  refine (fk (S := Hp × Int) (T := Hp) (fun fu i s => fX4_add_b34 (X + 104) (X + 81 + 2 * j) fu s.1 s.2 i) some l.length
    (fun i s => FL [105] [(263, 104)] X h s.1 ∧ ME X h s.1 ∧ gI s.1 263 (X + 104) = (l.length : Int) ∧ s.2 = ((flK c l j i).length : Int) ∧ (∀ k, k < (flK c l j i).length → gC s.1 (X + 105) k = some (X + 81 + 2 * gtN (flK c l j i) k)) ∧ ∀ k, i ≤ k → k < l.length → gC s.1 (X + 105) k = some (X + 81 + 2 * gtN l k)) (fun t => FL [105] [(263, 104)] X h t ∧ ME X h t ∧ PA t X (flK c l j l.length ++ (if 0 < hN c (j : Int) then [j] else []))) 0 (h, 0) (by omega) ⟨FL.rf h, ME.rf h, pa.1, rfl, fun k hk => absurd hk (by show ¬ k < 0; omega), fun k _ hk => pa.2 k hk⟩ (by omega)
    (fun fu i s hi hI => ?_) (fun fu s hI => ?_) : _)
  · obtain ⟨t, v⟩ := s
    obtain ⟨p0, p1, p2, p3, p4, p5⟩ := hI
    have p0 : FL [105] [(263, 104)] X h t := p0
    have p1 : ME X h t := p1
    have p2 : gI t 263 (X + 104) = (l.length : Int) := p2
    have p3 : v = ((flK c l j i).length : Int) := p3
    have p4 : ∀ k, k < (flK c l j i).length → gC t (X + 105) k = some (X + 81 + 2 * gtN (flK c l j i) k) := p4
    have p5 : ∀ k, i ≤ k → k < l.length → gC t (X + 105) k = some (X + 81 + 2 * gtN l k) := p5
    have e5 : WE ((i : Int) + 1) := we (by omega) (by omega)
    have Ht := p1.x H z
    obtain ⟨g8, gv⟩ := hl i hi
    have vi := gv.me g8 p1
    have vj' := vj.me j8 p1
    have si := xSI vi vj'
    have fb := (flK_take (c := c) (l := l) (j := j) i (by omega)).2
    have st : flK c l j (i + 1) = if oB c (gtN l i) j then flK c l j i else flK c l j i ++ [gtN l i] := rfl
    have e70 : ∀ t' x, fX4_add_b70 (X + 104) (X + 81 + 2 * j) (fX4_add_b34 (X + 104) (X + 81 + 2 * j) fu) t' x (i : Int) = fX4_add_b34 (X + 104) (X + 81 + 2 * j) fu t' x ((i : Int) + 1) := fun t' x => by rw [fX4_add_b70, lt_d, e5.e]
    left
    cases q : oB c (gtN l i) j with
    | true =>
      rw [q] at si st
      have st : flK c l j (i + 1) = flK c l j i := st
      refine ⟨(t, v), ⟨p0, p1, p2, by rw [st]; exact p3, by rw [st]; exact p4, fun k hk hk2 => p5 k (by omega) hk2⟩, ?_⟩
      show fX4_add_b34 (X + 104) (X + 81 + 2 * j) (fu + 1) t v (i : Int) = fX4_add_b34 (X + 104) (X + 81 + 2 * j) fu t v ((i : Int) + 1)
      rw [fX4_add_b34.eq_2]
      refine gdg (k104 t Ht) ?_
      rw [p2]
      exact iteT (by omega) (nng (r256 Ht) (gdg (by rw [Ht.k105]) (gdg (by rw [Ht.k105]; show 0 ≤ _ ∧ _ < (6 : Int); omega) (nng (p5 i (by omega) hi) (gdg vi.v.k (bdg si (iteF (by decide) (e70 t v))))))))
    | false =>
      rw [q] at si st
      have st : flK c l j (i + 1) = flK c l j i ++ [gtN l i] := st
      have e6 : WE (v + 1) := we (by omega) (by omega)
      have ln : (flK c l j (i + 1)).length = (flK c l j i).length + 1 := by rw [st, List.length_append]; rfl
      refine ⟨(sC t (X + 105) v (X + 81 + 2 * gtN l i), v + 1), ⟨p0.tr (fl_sC5 t), p1.tr (me_sC t 105 rfl (by decide) (by omega)), p2, by show v + 1 = _; rw [ln]; omega, fun k hk => ?_, fun k hk hk2 => ?_⟩, ?_⟩
      · show gC (sC t (X + 105) v (X + 81 + 2 * gtN l i)) (X + 105) k = _
        rw [gC_sC, st]
        by_cases y : k = (flK c l j i).length
        · rw [if_pos ⟨rfl, by omega⟩, y, gtN_r]
        · rw [if_neg (fun zz => y (by have := zz.2; omega)), gtN_l (by omega)]
          exact p4 k (by omega)
      · show gC (sC t (X + 105) v (X + 81 + 2 * gtN l i)) (X + 105) k = _
        rw [gC_sC, if_neg (fun zz => by have := zz.2; omega)]
        exact p5 k (by omega) hk2
      · show fX4_add_b34 (X + 104) (X + 81 + 2 * j) (fu + 1) t v (i : Int) = fX4_add_b34 (X + 104) (X + 81 + 2 * j) fu (sC t (X + 105) v (X + 81 + 2 * gtN l i)) (v + 1) ((i : Int) + 1)
        rw [fX4_add_b34.eq_2]
        refine gdg (k104 t Ht) ?_
        rw [p2]
        refine iteT (by omega) (nng (r256 Ht) (gdg (by rw [Ht.k105]) (gdg (by rw [Ht.k105]; show 0 ≤ _ ∧ _ < (6 : Int); omega) (nng (p5 i (by omega) hi) (gdg vi.v.k (bdg si (iteT rfl (gdg (by rw [Ht.k105]; show 0 ≤ _ ∧ _ < (6 : Int); omega) (nng (p5 i (by omega) hi) (gdg (by rw [Ht.k105]; show 0 ≤ _ ∧ _ < (6 : Int); omega) (gdg vi.v.k ?_)))))))))))
        rw [lt_d, lt_d, e6.e]
        exact e70 _ _
  · obtain ⟨t, v⟩ := s
    obtain ⟨p0, p1, p2, p3, p4, -⟩ := hI
    have p0 : FL [105] [(263, 104)] X h t := p0
    have p1 : ME X h t := p1
    have p2 : gI t 263 (X + 104) = (l.length : Int) := p2
    have p3 : v = ((flK c l j l.length).length : Int) := p3
    have p4 : ∀ k, k < (flK c l j l.length).length → gC t (X + 105) k = some (X + 81 + 2 * gtN (flK c l j l.length) k) := p4
    have fb := (flK_take (c := c) (l := l) (j := j) l.length (by omega)).2
    have Ht := p1.x H z
    have vj' := vj.me j8 p1
    generalize flK c l j l.length = L at p3 p4 fb l6
    show ∃ t', (FL [105] [(263, 104)] X h t' ∧ ME X h t' ∧ PA t' X (L ++ (if 0 < hN c (j : Int) then [j] else []))) ∧ fX4_add_b34 (X + 104) (X + 81 + 2 * j) (fu + 1) t v (l.length : Int) = some t'
    rw [fX4_add_b34.eq_2]
    by_cases y : 0 < hN c (j : Int)
    · rw [if_pos y]
      have e6 : WE (v + 1) := we (by omega) (by omega)
      refine ⟨pI (sC t (X + 105) v (X + 81 + 2 * j)) 263 (X + 104) (v + 1), ⟨(p0.tr (fl_sC5 t)).tr (fl_pI _ 104 rfl (by decide)), (p1.tr (me_sC t 105 rfl (by decide) (by omega))).tr (me_pI _ 104 rfl (by decide) (by omega)), ?_, fun k hk => ?_⟩, ?_⟩
      · rw [gI_pIs (by unfold rg; omega), List.length_append]
        show v + 1 = ((L.length + 1 : Nat) : Int)
        omega
      · rw [List.length_append] at hk
        have hk : k < L.length + 1 := hk
        rw [gC_pI, gC_sC]
        by_cases y : k = L.length
        · rw [if_pos ⟨rfl, by omega⟩, y, gtN_r]
        · rw [if_neg (fun zz => y (by have := zz.2; omega)), gtN_l (by omega)]
          exact p4 k (by omega)
      · refine gdg (k104 t Ht) ?_
        rw [p2]
        refine iteF (by omega) (iteT (by omega) (gdg vj'.v.k (iteT (by rw [vj'.v.z]; exact y) (nng (r256 Ht) (gdg (by rw [Ht.k105]) (gdg (by rw [Ht.k105]; show 0 ≤ _ ∧ _ < (6 : Int); omega) ?_))))))
        rw [lt_d, e6.e, lt_d, lt_d]
    · rw [if_neg y, List.append_nil]
      refine ⟨pI t 263 (X + 104) v, ⟨p0.tr (fl_pI t 104 rfl (by decide)), p1.tr (me_pI _ 104 rfl (by decide) (by omega)), ?_, p4⟩, ?_⟩
      · rw [gI_pIs (by unfold rg; omega)]; exact p3
      · refine gdg (k104 t Ht) ?_
        rw [p2]
        refine iteF (by omega) ?_
        by_cases y2 : v < 6
        · exact iteT y2 (gdg vj'.v.k (iteF (by rw [vj'.v.z]; exact y) (ltg rfl)))
        · exact iteF y2 (ltg rfl)
set_option maxHeartbeats 200000 in
/-- a row comes to the others -/
theorem xAd4 {h : Hp} {X j : Nat} {c : Nat → Int} {l : List Nat} (H : XS h X) (z : X + 144 ≤ hZ h) (n6 : l.length ≤ 6) (hl : ∀ k, k < l.length → gtN l k < 8 ∧ VS h X c (gtN l k)) (j8 : j < 8) (vj : VS h X c j) (pa : PA h X l) (l6 : (addL c l j).length ≤ 6) :
    ∃ t : Hp, (FL [105] [(263, 104)] X h t ∧ ME X h t ∧ PA t X (addL c l j)) ∧ fX4_add h (X + 104) (X + 81 + 2 * j) = some t := by
  have k104 : (hK h (X + 104)).1 = 4 := by rw [H.k104]
  unfold fX4_add
  refine (fk (S := Unit) (T := Hp) (fun fu i _ => fX4_add_b2 (X + 104) (X + 81 + 2 * j) fu h i) some l.length (fun i _ => ∀ k, k < i → oB c j (gtN l k) = false) (fun t => FL [105] [(263, 104)] X h t ∧ ME X h t ∧ PA t X (addL c l j)) 0 () (by omega) (fun k hk => absurd hk (by omega)) (by omega) (fun fu i _ hi hI => ?_) (fun fu _ hI => ?_) : _)
  · have e5 : WE ((i : Int) + 1) := we (by omega) (by omega)
    obtain ⟨g8, gv⟩ := hl i hi
    have si := xSI vj gv
    show (∃ s' : Unit, _ ∧ fX4_add_b2 (X + 104) (X + 81 + 2 * j) (fu + 1) h (i : Int) = _) ∨ ∃ t, _ ∧ fX4_add_b2 (X + 104) (X + 81 + 2 * j) (fu + 1) h (i : Int) = _
    rw [fX4_add_b2.eq_2, pa.1]
    cases q : oB c j (gtN l i) with
    | true =>
      right
      rw [q] at si
      have any : l.any (fun p => oB c j p) = true := List.any_eq_true.mpr ⟨gtN l i, gtN_mem hi, q⟩
      refine ⟨h, ⟨FL.rf h, ME.rf h, by unfold addL; rw [any, if_pos rfl]; exact pa⟩, ?_⟩
      exact gdg k104 (iteT (by omega) (nng (r256 H) (gdg (by rw [H.k105]) (gdg (by rw [H.k105]; show 0 ≤ _ ∧ _ < (6 : Int); omega) (nng (pa.2 i hi) (gdg vj.v.k (bdg si (iteF (by decide) rfl))))))))
    | false =>
      left
      rw [q] at si
      refine ⟨(), fun k hk => ?_, ?_⟩
      · rcases Nat.lt_succ_iff_lt_or_eq.mp hk with y | y
        · exact hI k y
        · rw [y]; exact q
      · refine gdg k104 (iteT (by omega) (nng (r256 H) (gdg (by rw [H.k105]) (gdg (by rw [H.k105]; show 0 ≤ _ ∧ _ < (6 : Int); omega) (nng (pa.2 i hi) (gdg vj.v.k (bdg si (iteT rfl ?_))))))))
        rw [lt_d, e5.e]
  · have any : l.any (fun p => oB c j p) = false := by
      cases q : l.any (fun p => oB c j p) with
      | false => rfl
      | true =>
        obtain ⟨p, p1, p2⟩ := List.any_eq_true.mp q
        obtain ⟨k, k1, k2⟩ := List.mem_iff_getElem.mp p1
        have := hI k k1
        unfold gtN at this
        rw [List.getD_eq_getElem?_getD, List.getElem?_eq_getElem k1] at this
        have this : oB c j l[k] = false := this
        rw [k2, p2] at this; cases this
    have ea : addL c l j = flK c l j l.length ++ (if 0 < hN c (j : Int) then [j] else []) := by
      unfold addL
      rw [any, flK_all]; rfl
    rw [ea] at l6 ⊢
    obtain ⟨t, t1, t2⟩ := xKpp H z n6 hl j8 vj pa (by
      by_cases y : 0 < hN c (j : Int)
      · rw [if_pos y, List.length_append] at l6
        have l6 : (flK c l j l.length).length + 1 ≤ 6 := l6
        exact Or.inl (by omega)
      · exact Or.inr (by omega))
    refine ⟨t, t1, ?_⟩
    show fX4_add_b2 (X + 104) (X + 81 + 2 * j) (fu + 1) h (l.length : Int) = _
    rw [fX4_add_b2.eq_2, pa.1]
    exact gdg k104 (iteF (by omega) t2)
