/-! THE ROAD: which jars are whole behind how many days (written by wip/whole/g54.py) -/
def clr (s k : Nat) : Nat := if s.testBit k then s - 2 ^ k else s
set_option maxHeartbeats 200000 in
theorem clr_f : ∀ s : Fin 256, ∀ k : Fin 8, bnd ((s.val : Nat) : Int) (bxr (shl 1 ((k.val : Nat) : Int)) (-1)) = ((clr s.val k.val : Nat) : Int) := by decide +kernel
set_option maxHeartbeats 200000 in
theorem clr_n {s k : Nat} (hs : s < 256) (hk : k < 8) : bnd (s : Int) (bxr (shl 1 (k : Int)) (-1)) = ((clr s k : Nat) : Int) := clr_f ⟨s, hs⟩ ⟨k, hk⟩
set_option maxHeartbeats 200000 in
theorem clr_le (s k : Nat) : clr s k ≤ s := by
  unfold clr
  split
  · exact Nat.sub_le _ _
  · exact Nat.le_refl _
/-- DRAW -/
def drS (z : Int) : Int := irm (w32 (w32 (z * 2683) + 9419)) 65536
def drV (z : Int) : Int := irm (idv (drS z) 8) 16
/-- one day: the first k jars -/
def trJ (c : Nat → Int) (day : Int) : Nat → Nat × Int × (Nat → Int) → Nat × Int × (Nat → Int)
  | 0, t => t
  | k + 1, t =>
    if (trJ c day k t).1.testBit k then
      (if drV (trJ c day k t).2.1 < c (180 + (k : Int)).toNat then (clr (trJ c day k t).1 k, drS (trJ c day k t).2.1, fun x => if x = k then day else (trJ c day k t).2.2 x)
      else ((trJ c day k t).1, drS (trJ c day k t).2.1, (trJ c day k t).2.2))
    else trJ c day k t
set_option maxHeartbeats 200000 in
theorem trJ_s (c : Nat → Int) (day : Int) (k : Nat) (t : Nat × Int × (Nat → Int)) : trJ c day (k + 1) t = if (trJ c day k t).1.testBit k then
      (if drV (trJ c day k t).2.1 < c (180 + (k : Int)).toNat then (clr (trJ c day k t).1 k, drS (trJ c day k t).2.1, fun x => if x = k then day else (trJ c day k t).2.2 x)
      else ((trJ c day k t).1, drS (trJ c day k t).2.1, (trJ c day k t).2.2))
    else trJ c day k t := rfl
set_option maxHeartbeats 200000 in
theorem trJ_le (c : Nat → Int) (day : Int) (k : Nat) (t : Nat × Int × (Nat → Int)) : (trJ c day k t).1 ≤ t.1 := by
  induction k with
  | zero => exact Nat.le_refl _
  | succ k ih =>
    rw [trJ_s]
    have := clr_le (trJ c day k t).1 k
    split
    · split
      · show clr _ _ ≤ _; omega
      · exact ih
    · exact ih
/-- the first n days -/
def trD (c : Nat → Int) : Nat → Nat × Int × (Nat → Int) → Nat × Int × (Nat → Int)
  | 0, t => t
  | n + 1, t => trJ c ((n : Int) + 1) (c 2).toNat (trD c n t)
set_option maxHeartbeats 200000 in
theorem trD_le (c : Nat → Int) (n : Nat) (t : Nat × Int × (Nat → Int)) : (trD c n t).1 ≤ t.1 := by
  induction n with
  | zero => exact Nat.le_refl _
  | succ n ih =>
    have := trJ_le c ((n : Int) + 1) (c 2).toNat (trD c n t)
    show (trJ c ((n : Int) + 1) (c 2).toNat (trD c n t)).1 ≤ _
    omega
def trS (c : Nat → Int) (z : Int) (n : Nat) : Nat × Int × (Nat → Int) := trD c n (2 ^ (c 2).toNat - 1, z, fun _ => 0)

set_option maxHeartbeats 200000 in
/-- one day, in the class -/
theorem xTrJ {h : Hp} {S T : Nat} {c : Nat → Int} {d a1 a2 : Int} (v : SV h S c) (w : WF c) (kT : hK h T = (21, 8)) (sep : T < S ∨ S + 27 ≤ T) (d0 : 0 ≤ d) (d8 : d ≤ 30) (st : Nat × Int × (Nat → Int)) (st8 : st.1 < 256) (hB : ∀ x, x < 8 → gA h T x = st.2.2 x) (k40 : Hp → Int → Int → Int → Option (Int × Hp)) :
    ∃ t : Hp, (On (fun b => b = T) h t ∧ ∀ x, x < 8 → gA t T x = (trJ c d (c 2).toNat st).2.2 x) ∧ fX7_travel_b49 S a1 a2 T k40 FU h (st.1 : Int) st.2.1 d 0 = k40 t ((trJ c d (c 2).toNat st).1 : Int) (trJ c d (c 2).toNat st).2.1 (d + 1) := by
  have hj := w.nj
  have ed : WE (d + 1) := we (by omega) (by omega)
  exact fk (S := Hp × Int × Int) (T := Hp) (fun fu x u => fX7_travel_b49 S a1 a2 T k40 fu u.1 u.2.1 u.2.2 d x) (fun t => k40 t ((trJ c d (c 2).toNat st).1 : Int) (trJ c d (c 2).toNat st).2.1 (d + 1)) (c 2).toNat
    (fun i u => On (fun b => b = T) h u.1 ∧ (∀ x, x < 8 → gA u.1 T x = (trJ c d i st).2.2 x) ∧ u.2.1 = ((trJ c d i st).1 : Int) ∧ u.2.2 = (trJ c d i st).2.1) _ 0 (h, (st.1 : Int), st.2.1) (by omega) ⟨On.rf h, hB, rfl, rfl⟩ (by omega)
    (fun fu i u hi hI => by
      obtain ⟨t, s, z⟩ := u
      obtain ⟨p1, p2, p3, p4⟩ := hI
      have p1 : On (fun b => b = T) h t := p1
      have p2 : ∀ x, x < 8 → gA t T x = (trJ c d i st).2.2 x := p2
      have p3 : s = ((trJ c d i st).1 : Int) := p3
      have p4 : z = (trJ c d i st).2.1 := p4
      have e5 : WE ((i : Int) + 1) := we (by omega) (by omega)
      have v' := v.on p1 (fun a h1 h2 y => by omega) hj.2
      obtain ⟨j1, j2, j3, j4, j5, j6, j7, j8⟩ := v'.jar w (j := (i : Int)) (by omega) (by omega)
      have kU : hK t T = (21, 8) := p1.ka kT
      have le := trJ_le c d i st
      have es := trJ_s c d i st
      have e128 : ∀ t' s' z', fX7_travel_b128 S a1 a2 T k40 (fX7_travel_b49 S a1 a2 T k40 fu) t' s' z' d (i : Int) = fX7_travel_b49 S a1 a2 T k40 fu t' s' z' d ((i : Int) + 1) := fun t' s' z' => by rw [fX7_travel_b128, lt_d, e5.e]
      have i5 : gI t 5 (S + 5 + 3 * ((i : Int)).toNat) = c (180 + (i : Int)).toNat := j7.2.2.2.2.2.1
      left
      generalize trJ c d i st = Q at p2 p3 p4 le es
      by_cases q : Q.1.testBit i = true
      · rw [if_pos q] at es
        have zi := xIsIn (s := Q.1) (k := i) (by omega) (by omega)
        rw [q] at zi
        by_cases q2 : drV Q.2.1 < c (180 + (i : Int)).toNat
        · rw [if_pos q2] at es
          refine ⟨(sA t T (i : Int) d, ((clr Q.1 i : Nat) : Int), drS Q.2.1), ⟨p1.tr (on_sA t rfl), fun x hx => ?_, by rw [es], by rw [es]⟩, ?_⟩
          · show gA (sA t T (i : Int) d) T x = _
            rw [gA_sA, es]
            show _ = if x = i then d else Q.2.2 x
            by_cases y : x = i
            · rw [if_pos ⟨rfl, by omega⟩, if_pos y, w32_id (by omega) (by omega)]
            · rw [if_neg (fun y2 => y (by have := y2.2; omega)), if_neg y]
              exact p2 x hx
          · show fX7_travel_b49 S a1 a2 T k40 (fu + 1) t s z d (i : Int) = fX7_travel_b49 S a1 a2 T k40 fu (sA t T (i : Int) d) ((clr Q.1 i : Nat) : Int) (drS Q.2.1) d ((i : Int) + 1)
            rw [fX7_travel_b49.eq_2, ← e128, p3, p4, j8]
            refine gdg j1 (iteT (by omega) (gdg (by rw [kU]) (gdg (by rw [kU]; show ((8 : Nat) : Int) < _; omega) (iteT (by rw [kU]; show _ < ((8 : Nat) : Int); omega) (bdg zi (iteF (by unfold b01; rw [if_pos rfl]; omega) ?_))))))
            rw [lt_d]
            refine nng j2 (gdg j3 (gdg j4 (nng j5 (gdg j6 ?_))))
            rw [i5]
            refine iteT q2 ?_
            rw [lt_d, clr_n (by omega) (by omega)]
            refine gdg (by rw [kU]; show 0 ≤ _ ∧ _ < (8 : Int); omega) ?_
            rw [lt_d]
            rfl
        · rw [if_neg q2] at es
          refine ⟨(t, (Q.1 : Int), drS Q.2.1), ⟨p1, fun x hx => by rw [es]; exact p2 x hx, by rw [es], by rw [es]⟩, ?_⟩
          show fX7_travel_b49 S a1 a2 T k40 (fu + 1) t s z d (i : Int) = fX7_travel_b49 S a1 a2 T k40 fu t (Q.1 : Int) (drS Q.2.1) d ((i : Int) + 1)
          rw [fX7_travel_b49.eq_2, ← e128, p3, p4, j8]
          refine gdg j1 (iteT (by omega) (gdg (by rw [kU]) (gdg (by rw [kU]; show ((8 : Nat) : Int) < _; omega) (iteT (by rw [kU]; show _ < ((8 : Nat) : Int); omega) (bdg zi (iteF (by unfold b01; rw [if_pos rfl]; omega) ?_))))))
          rw [lt_d]
          refine nng j2 (gdg j3 (gdg j4 (nng j5 (gdg j6 ?_))))
          rw [i5]
          exact iteF q2 rfl
      · rw [if_neg q] at es
        have zi := xIsIn (s := Q.1) (k := i) (by omega) (by omega)
        refine ⟨(t, (Q.1 : Int), Q.2.1), ⟨p1, fun x hx => by rw [es]; exact p2 x hx, by rw [es], by rw [es]⟩, ?_⟩
        show fX7_travel_b49 S a1 a2 T k40 (fu + 1) t s z d (i : Int) = fX7_travel_b49 S a1 a2 T k40 fu t (Q.1 : Int) Q.2.1 d ((i : Int) + 1)
        rw [fX7_travel_b49.eq_2, ← e128, p3, p4, j8]
        exact gdg j1 (iteT (by omega) (gdg (by rw [kU]) (gdg (by rw [kU]; show ((8 : Nat) : Int) < _; omega) (iteT (by rw [kU]; show _ < ((8 : Nat) : Int); omega) (bdg zi (iteT (by unfold b01; rw [if_neg q]) rfl)))))))
    (fun fu u hI => by
      obtain ⟨t, s, z⟩ := u
      obtain ⟨p1, p2, p3, p4⟩ := hI
      have p1 : On (fun b => b = T) h t := p1
      have p3 : s = ((trJ c d (c 2).toNat st).1 : Int) := p3
      have p4 : z = (trJ c d (c 2).toNat st).2.1 := p4
      have v' := v.on p1 (fun a h1 h2 y => by omega) hj.2
      have j8 : gI t 451 S = c 2 := v'.2.2.2.2.2.2.1
      have j1 : (hK t S).1 = 7 := by rw [v'.1]
      refine ⟨t, ⟨p1, p2⟩, ?_⟩
      show fX7_travel_b49 S a1 a2 T k40 (fu + 1) t s z d ((c 2).toNat : Int) = _
      rw [fX7_travel_b49.eq_2, p3, p4, j8]
      refine gdg j1 (iteF (by omega) ?_)
      rw [fX7_travel_b134, lt_d, ed.e])
