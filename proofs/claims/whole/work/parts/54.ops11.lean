/-! THE ROAD: which jars are whole behind how many days (written by wip/whole/g54.py) -/
def clr (s k : Nat) : Nat := if s.testBit k then s - 2 ^ k else s
set_option maxHeartbeats 200000 in
theorem clr_f : ∀ s : Fin 256, ∀ k : Fin 8, bnd ((s.val : Nat) : Int) (bxr (shl 1 ((k.val : Nat) : Int)) (-1)) = ((clr s.val k.val : Nat) : Int) := by decide +kernel
set_option maxHeartbeats 200000 in
theorem clr_n {s k : Nat} (hs : s < 256) (hk : k < 8) : bnd (s : Int) (bxr (shl 1 (k : Int)) (-1)) = ((clr s k : Nat) : Int) := clr_f ⟨s, hs⟩ ⟨k, hk⟩
set_option maxHeartbeats 200000 in
theorem clr_le (s k : Nat) : clr s k ≤ s := by
  unfold clr
  split
  · exact Nat.sub_le _ _
  · exact Nat.le_refl _
/-- DRAW -/
def drS (z : Int) : Int := irm (w32 (w32 (z * 2683) + 9419)) 65536
def drV (z : Int) : Int := irm (idv (drS z) 8) 16
/-- one day: the first k jars -/
def trJ (c : Nat → Int) (day : Int) : Nat → Nat × Int × (Nat → Int) → Nat × Int × (Nat → Int)
  | 0, t => t
  | k + 1, t =>
    if (trJ c day k t).1.testBit k then
      (if drV (trJ c day k t).2.1 < c (180 + (k : Int)).toNat then (clr (trJ c day k t).1 k, drS (trJ c day k t).2.1, fun x => if x = k then day else (trJ c day k t).2.2 x)
      else ((trJ c day k t).1, drS (trJ c day k t).2.1, (trJ c day k t).2.2))
    else trJ c day k t
set_option maxHeartbeats 200000 in
theorem trJ_s (c : Nat → Int) (day : Int) (k : Nat) (t : Nat × Int × (Nat → Int)) : trJ c day (k + 1) t = if (trJ c day k t).1.testBit k then
      (if drV (trJ c day k t).2.1 < c (180 + (k : Int)).toNat then (clr (trJ c day k t).1 k, drS (trJ c day k t).2.1, fun x => if x = k then day else (trJ c day k t).2.2 x)
      else ((trJ c day k t).1, drS (trJ c day k t).2.1, (trJ c day k t).2.2))
    else trJ c day k t := rfl
set_option maxHeartbeats 200000 in
theorem trJ_le (c : Nat → Int) (day : Int) (k : Nat) (t : Nat × Int × (Nat → Int)) : (trJ c day k t).1 ≤ t.1 := by
  induction k with
  | zero => exact Nat.le_refl _
  | succ k ih =>
    rw [trJ_s]
    have := clr_le (trJ c day k t).1 k
    split
    · split
      · show clr _ _ ≤ _; omega
      · exact ih
    · exact ih
/-- the first n days -/
def trD (c : Nat → Int) : Nat → Nat × Int × (Nat → Int) → Nat × Int × (Nat → Int)
  | 0, t => t
  | n + 1, t => trJ c ((n : Int) + 1) (c 2).toNat (trD c n t)
set_option maxHeartbeats 200000 in
theorem trD_le (c : Nat → Int) (n : Nat) (t : Nat × Int × (Nat → Int)) : (trD c n t).1 ≤ t.1 := by
  induction n with
  | zero => exact Nat.le_refl _
  | succ n ih =>
    have := trJ_le c ((n : Int) + 1) (c 2).toNat (trD c n t)
    show (trJ c ((n : Int) + 1) (c 2).toNat (trD c n t)).1 ≤ _
    omega
def trS (c : Nat → Int) (z : Int) (n : Nat) : Nat × Int × (Nat → Int) := trD c n (2 ^ (c 2).toNat - 1, z, fun _ => 0)

set_option maxHeartbeats 200000 in
/-- one day, in the class -/
theorem xTrJ {h : Hp} {S T : Nat} {c : Nat → Int} {d a1 a2 : Int} (v : SV h S c) (w : WF c) (kT : hK h T = (21, 8)) (sep : T < S ∨ S + 27 ≤ T) (d0 : 0 ≤ d) (d8 : d ≤ 30) (st : Nat × Int × (Nat → Int)) (st8 : st.1 < 256) (hB : ∀ x, x < 8 → gA h T x = st.2.2 x) (k40 : Hp → Int → Int → Int → Option (Int × Hp)) :
    ∃ t : Hp, (On (fun b => b = T) h t ∧ ∀ x, x < 8 → gA t T x = (trJ c d (c 2).toNat st).2.2 x) ∧ fX7_travel_b49 S a1 a2 T k40 FU h (st.1 : Int) st.2.1 d 0 = k40 t ((trJ c d (c 2).toNat st).1 : Int) (trJ c d (c 2).toNat st).2.1 (d + 1) := by
  have hj := w.nj
  have ed : WE (d + 1) := we (by omega) (by omega)
  exact fk (S := Hp × Int × Int) (T := Hp) (fun fu x u => fX7_travel_b49 S a1 a2 T k40 fu u.1 u.2.1 u.2.2 d x) (fun t => k40 t ((trJ c d (c 2).toNat st).1 : Int) (trJ c d (c 2).toNat st).2.1 (d + 1)) (c 2).toNat
    (fun i u => On (fun b => b = T) h u.1 ∧ (∀ x, x < 8 → gA u.1 T x = (trJ c d i st).2.2 x) ∧ u.2.1 = ((trJ c d i st).1 : Int) ∧ u.2.2 = (trJ c d i st).2.1) _ 0 (h, (st.1 : Int), st.2.1) (by omega) ⟨On.rf h, hB, rfl, rfl⟩ (by omega)
    (fun fu i u hi hI => by
      obtain ⟨t, s, z⟩ := u
      obtain ⟨p1, p2, p3, p4⟩ := hI
      have p1 : On (fun b => b = T) h t := p1
      have p2 : ∀ x, x < 8 → gA t T x = (trJ c d i st).2.2 x := p2
      have p3 : s = ((trJ c d i st).1 : Int) := p3
      have p4 : z = (trJ c d i st).2.1 := p4
      have e5 : WE ((i : Int) + 1) := we (by omega) (by omega)
      have v' := v.on p1 (fun a h1 h2 y => by omega) hj.2
      obtain ⟨j1, j2, j3, j4, j5, j6, j7, j8⟩ := v'.jar w (j := (i : Int)) (by omega) (by omega)
      have kU : hK t T = (21, 8) := p1.ka kT
      have le := trJ_le c d i st
      have es := trJ_s c d i st
      have e128 : ∀ t' s' z', fX7_travel_b128 S a1 a2 T k40 (fX7_travel_b49 S a1 a2 T k40 fu) t' s' z' d (i : Int) = fX7_travel_b49 S a1 a2 T k40 fu t' s' z' d ((i : Int) + 1) := fun t' s' z' => by rw [fX7_travel_b128, lt_d, e5.e]
      have i5 : gI t 5 (S + 5 + 3 * ((i : Int)).toNat) = c (180 + (i : Int)).toNat := j7.2.2.2.2.2.1
      left
      generalize trJ c d i st = Q at p2 p3 p4 le es
      by_cases q : Q.1.testBit i = true
      · rw [if_pos q] at es
        have zi := xIsIn (s := Q.1) (k := i) (by omega) (by omega)
        rw [q] at zi
        by_cases q2 : drV Q.2.1 < c (180 + (i : Int)).toNat
        · rw [if_pos q2] at es
          refine ⟨(sA t T (i : Int) d, ((clr Q.1 i : Nat) : Int), drS Q.2.1), ⟨p1.tr (on_sA t rfl), fun x hx => ?_, by rw [es], by rw [es]⟩, ?_⟩
          · show gA (sA t T (i : Int) d) T x = _
            rw [gA_sA, es]
            show _ = if x = i then d else Q.2.2 x
            by_cases y : x = i
            · rw [if_pos ⟨rfl, by omega⟩, if_pos y, w32_id (by omega) (by omega)]
            · rw [if_neg (fun y2 => y (by have := y2.2; omega)), if_neg y]
              exact p2 x hx
          · show fX7_travel_b49 S a1 a2 T k40 (fu + 1) t s z d (i : Int) = fX7_travel_b49 S a1 a2 T k40 fu (sA t T (i : Int) d) ((clr Q.1 i : Nat) : Int) (drS Q.2.1) d ((i : Int) + 1)
            rw [fX7_travel_b49.eq_2, ← e128, p3, p4, j8]
            refine gdg j1 (iteT (by omega) (gdg (by rw [kU]) (gdg (by rw [kU]; show ((8 : Nat) : Int) < _; omega) (iteT (by rw [kU]; show _ < ((8 : Nat) : Int); omega) (bdg zi (iteF (by unfold b01; rw [if_pos rfl]; omega) ?_))))))
            rw [lt_d]
            refine nng j2 (gdg j3 (gdg j4 (nng j5 (gdg j6 ?_))))
            rw [i5]
            refine iteT q2 ?_
            rw [lt_d, clr_n (by omega) (by omega)]
            refine gdg (by rw [kU]; show 0 ≤ _ ∧ _ < (8 : Int); omega) ?_
            rw [lt_d]
            rfl
        · rw [if_neg q2] at es
          refine ⟨(t, (Q.1 : Int), drS Q.2.1), ⟨p1, fun x hx => by rw [es]; exact p2 x hx, by rw [es], by rw [es]⟩, ?_⟩
          show fX7_travel_b49 S a1 a2 T k40 (fu + 1) t s z d (i : Int) = fX7_travel_b49 S a1 a2 T k40 fu t (Q.1 : Int) (drS Q.2.1) d ((i : Int) + 1)
          rw [fX7_travel_b49.eq_2, ← e128, p3, p4, j8]
          refine gdg j1 (iteT (by omega) (gdg (by rw [kU]) (gdg (by rw [kU]; show ((8 : Nat) : Int) < _; omega) (iteT (by rw [kU]; show _ < ((8 : Nat) : Int); omega) (bdg zi (iteF (by unfold b01; rw [if_pos rfl]; omega) ?_))))))
          rw [lt_d]
          refine nng j2 (gdg j3 (gdg j4 (nng j5 (gdg j6 ?_))))
          rw [i5]
          exact iteF q2 rfl
      · rw [if_neg q] at es
        have zi := xIsIn (s := Q.1) (k := i) (by omega) (by omega)
        refine ⟨(t, (Q.1 : Int), Q.2.1), ⟨p1, fun x hx => by rw [es]; exact p2 x hx, by rw [es], by rw [es]⟩, ?_⟩
        show fX7_travel_b49 S a1 a2 T k40 (fu + 1) t s z d (i : Int) = fX7_travel_b49 S a1 a2 T k40 fu t (Q.1 : Int) Q.2.1 d ((i : Int) + 1)
        rw [fX7_travel_b49.eq_2, ← e128, p3, p4, j8]
        exact gdg j1 (iteT (by omega) (gdg (by rw [kU]) (gdg (by rw [kU]; show ((8 : Nat) : Int) < _; omega) (iteT (by rw [kU]; show _ < ((8 : Nat) : Int); omega) (bdg zi (iteT (by unfold b01; rw [if_neg q]) rfl)))))))
    (fun fu u hI => by
      obtain ⟨t, s, z⟩ := u
      obtain ⟨p1, p2, p3, p4⟩ := hI
      have p1 : On (fun b => b = T) h t := p1
      have p3 : s = ((trJ c d (c 2).toNat st).1 : Int) := p3
      have p4 : z = (trJ c d (c 2).toNat st).2.1 := p4
      have v' := v.on p1 (fun a h1 h2 y => by omega) hj.2
      have j8 : gI t 451 S = c 2 := v'.2.2.2.2.2.2.1
      have j1 : (hK t S).1 = 7 := by rw [v'.1]
      refine ⟨t, ⟨p1, p2⟩, ?_⟩
      show fX7_travel_b49 S a1 a2 T k40 (fu + 1) t s z d ((c 2).toNat : Int) = _
      rw [fX7_travel_b49.eq_2, p3, p4, j8]
      refine gdg j1 (iteF (by omega) ?_)
      rw [fX7_travel_b134, lt_d, ed.e])

set_option maxHeartbeats 200000 in
/-- all days, in the class -/
theorem xTrD {h : Hp} {S T n : Nat} {c : Nat → Int} {a1 : Int} (v : SV h S c) (w : WF c) (kT : hK h T = (21, 8)) (sep : T < S ∨ S + 27 ≤ T) (n8 : n ≤ 30) (st : Nat × Int × (Nat → Int)) (st8 : st.1 < 256) (hB : ∀ x, x < 8 → gA h T x = st.2.2 x) :
    ∃ t : Hp, (On (fun b => b = T) h t ∧ ∀ x, x < 8 → gA t T x = (trD c n st).2.2 x) ∧ fX7_travel_b40 S a1 (n : Int) T FU h (st.1 : Int) st.2.1 1 = some (((trD c n st).1 : Int), t) := by
  have hj := w.nj
  exact fk (S := Hp × Int × Int) (T := Hp) (fun fu x u => fX7_travel_b40 S a1 (n : Int) T fu u.1 u.2.1 u.2.2 x) (fun t => some (((trD c n st).1 : Int), t)) (n + 1)
    (fun i u => 1 ≤ i ∧ On (fun b => b = T) h u.1 ∧ (∀ x, x < 8 → gA u.1 T x = (trD c (i - 1) st).2.2 x) ∧ u.2.1 = ((trD c (i - 1) st).1 : Int) ∧ u.2.2 = (trD c (i - 1) st).2.1) _ 1 (h, (st.1 : Int), st.2.1) (by omega) ⟨Nat.le_refl _, On.rf h, hB, rfl, rfl⟩ (by omega)
    (fun fu i u hi hI => by
      obtain ⟨t, s, z⟩ := u
      obtain ⟨p0, p1, p2, p3, p4⟩ := hI
      obtain ⟨i', rfl⟩ : ∃ i', i = i' + 1 := ⟨i - 1, by omega⟩
      have p1 : On (fun b => b = T) h t := p1
      have p2 : ∀ x, x < 8 → gA t T x = (trD c i' st).2.2 x := p2
      have p3 : s = ((trD c i' st).1 : Int) := p3
      have p4 : z = (trD c i' st).2.1 := p4
      have le := trD_le c i' st
      have v' := v.on p1 (fun a h1 h2 y => by omega) hj.2
      obtain ⟨t', ⟨y1, y2⟩, y3⟩ := xTrJ (a1 := a1) (a2 := (n : Int)) (d := ((i' + 1 : Nat) : Int)) v' w (p1.ka kT) sep (by omega) (by omega) (trD c i' st) (by omega) p2 (fX7_travel_b40 S a1 (n : Int) T fu)
      left
      refine ⟨(t', ((trD c (i' + 1) st).1 : Int), (trD c (i' + 1) st).2.1), ⟨by omega, p1.tr y1, y2, rfl, rfl⟩, ?_⟩
      show fX7_travel_b40 S a1 (n : Int) T (fu + 1) t s z ((i' + 1 : Nat) : Int) = _
      rw [fX7_travel_b40.eq_2, p3, p4]
      exact iteT (by omega) y3)
    (fun fu u hI => by
      obtain ⟨t, s, z⟩ := u
      obtain ⟨p0, p1, p2, p3, p4⟩ := hI
      have p3 : s = ((trD c n st).1 : Int) := p3
      refine ⟨t, ⟨p1, p2⟩, ?_⟩
      show fX7_travel_b40 S a1 (n : Int) T (fu + 1) t s z ((n + 1 : Nat) : Int) = _
      rw [fX7_travel_b40.eq_2, p3]
      exact iteF (by omega) rfl)
set_option maxHeartbeats 200000 in
/-- TRAVEL, in the class -/
theorem xTrv {h : Hp} {S T n : Nat} {c : Nat → Int} {a1 : Int} (v : SV h S c) (w : WF c) (kT : hK h T = (21, 8)) (sep : T < S ∨ S + 27 ≤ T) (n8 : n ≤ 30) :
    ∃ t : Hp, (On (fun b => b = T) h t ∧ ∀ x, x < 8 → gA t T x = (trS c a1 n).2.2 x) ∧ fX7_travel h S a1 (n : Int) T = some (((trS c a1 n).1 : Int), t) := by
  have hj := w.nj
  have pw := pw8 w
  have k1 := fk (S := Hp) (T := Hp) (fun fu x t => fX7_travel_b3 S a1 (n : Int) T fu t x) (fun t => fX7_travel_b28 S a1 (n : Int) T t) 8 (fun i t => On (fun b => b = T) h t ∧ ∀ x, x < i → gA t T x = 0) (fun t => On (fun b => b = T) h t ∧ ∀ x, x < 8 → gA t T x = 0) 0 h (by omega) ⟨On.rf h, fun x hx => absurd hx (by omega)⟩ (by omega)
    (fun fu i t hi hI => by
      obtain ⟨p1, p2⟩ := hI
      have e5 : WE ((i : Int) + 1) := we (by omega) (by omega)
      have kU : hK t T = (21, 8) := p1.ka kT
      left
      refine ⟨sA t T (i : Int) 0, ⟨p1.tr (on_sA t rfl), fun x hx => ?_⟩, ?_⟩
      · rw [gA_sA]
        by_cases y : x = i
        · rw [if_pos ⟨rfl, by omega⟩, w32_id (by omega) (by omega)]
        · rw [if_neg (fun y2 => y (by have := y2.2; omega))]
          exact p2 x (by omega)
      · show fX7_travel_b3 S a1 (n : Int) T (fu + 1) t (i : Int) = fX7_travel_b3 S a1 (n : Int) T fu (sA t T (i : Int) 0) ((i : Int) + 1)
        rw [fX7_travel_b3.eq_2]
        refine iteT (by omega) (gdg (by rw [kU]) (gdg (by rw [kU]; show ((8 : Nat) : Int) < _; omega) (iteT (by rw [kU]; show _ < ((8 : Nat) : Int); omega) (gdg (by rw [kU]; show 0 ≤ _ ∧ _ < (8 : Int); omega) ?_))))
        rw [lt_d, lt_d, e5.e])
    (fun fu t hI => by
      obtain ⟨p1, p2⟩ := hI
      refine ⟨t, ⟨p1, p2⟩, ?_⟩
      show fX7_travel_b3 S a1 (n : Int) T (fu + 1) t ((8 : Nat) : Int) = _
      rw [fX7_travel_b3.eq_2]
      exact iteF (by omega) rfl)
  obtain ⟨t0, ⟨u1, u2⟩, u3⟩ := k1
  have v' := v.on u1 (fun a h1 h2 y => by omega) hj.2
  obtain ⟨t', ⟨y1, y2⟩, y3⟩ := xTrD (n := n) (a1 := a1) v' w (u1.ka kT) sep n8 (2 ^ (c 2).toNat - 1, a1, fun _ => 0) (by show 2 ^ (c 2).toNat - 1 < 256; omega) u2
  refine ⟨t', ⟨u1.tr y1, y2⟩, ?_⟩
  have u3 : fX7_travel h S a1 (n : Int) T = fX7_travel_b28 S a1 (n : Int) T t0 := u3
  rw [u3, fX7_travel_b28]
  have aj := xAllJ v' w
  rw [show ((2 ^ (c 2).toNat : Nat) : Int) - 1 = ((2 ^ (c 2).toNat - 1 : Nat) : Int) by omega] at aj
  exact gdg (by rw [v'.1]) (bdg aj y3)
set_option maxHeartbeats 200000 in
theorem irm_rg (a b : Int) : rg (irm a b) := by
  have h1 := Int32.le_toInt (Int32.ofInt a - Int32.ofInt a / Int32.ofInt b * Int32.ofInt b)
  have h2 := Int32.toInt_lt (Int32.ofInt a - Int32.ofInt a / Int32.ofInt b * Int32.ofInt b)
  unfold rg irm
  omega
set_option maxHeartbeats 200000 in
/-- DRAW, in the reference -/
theorem rDraw {h : Hp} {M : Nat} (ms : MS h M) : fX12_draw h M = some (drV (gI h 812 M), pI h 812 M (drS (gI h 812 M))) := by
  unfold fX12_draw
  refine gdg ms.k ?_
  rw [lt_d, gI_pIs (irm_rg _ _)]
  rfl

set_option maxHeartbeats 200000 in
/-- one day, in the reference -/
theorem rTrJ {h : Hp} {X : Nat} {c : Nat → Int} {d a1 a2 : Int} (G : CM h X c) (w : WF c) (d0 : 0 ≤ d) (d8 : d ≤ 30) (st : Nat × Int × (Nat → Int)) (st8 : st.1 < 256) (hz : gI h 812 (X + 121) = st.2.1) (hB : ∀ x, x < 8 → gA h (X + 121 + 21) x = st.2.2 x) (k43 : Hp → Int → Int → Option (Int × Hp)) :
    ∃ t : Hp, (QM X h t ∧ gI t 768 (X + 121) = gI h 768 (X + 121) ∧ gI t 812 (X + 121) = (trJ c d (c 2).toNat st).2.1 ∧ ∀ x, x < 8 → gA t (X + 121 + 21) x = (trJ c d (c 2).toNat st).2.2 x) ∧ fX12_wholeBehind_b52 (X + 121) a1 a2 k43 FU h (st.1 : Int) d 0 = k43 t ((trJ c d (c 2).toNat st).1 : Int) (d + 1) := by
  have hj := w.nj
  have ed : WE (d + 1) := we (by omega) (by omega)
  exact fk (S := Hp × Int) (T := Hp) (fun fu x u => fX12_wholeBehind_b52 (X + 121) a1 a2 k43 fu u.1 u.2 d x) (fun t => k43 t ((trJ c d (c 2).toNat st).1 : Int) (d + 1)) (c 2).toNat
    (fun i u => QM X h u.1 ∧ gI u.1 768 (X + 121) = gI h 768 (X + 121) ∧ gI u.1 812 (X + 121) = (trJ c d i st).2.1 ∧ (∀ x, x < 8 → gA u.1 (X + 121 + 21) x = (trJ c d i st).2.2 x) ∧ u.2 = ((trJ c d i st).1 : Int)) _ 0 (h, (st.1 : Int)) (by omega) ⟨QR.rf h, rfl, hz, hB, rfl⟩ (by omega)
    (fun fu i u hi hI => by
      obtain ⟨t, s⟩ := u
      obtain ⟨p1, p5, p4, p2, p3⟩ := hI
      have p1 : QM X h t := p1
      have p5 : gI t 768 (X + 121) = gI h 768 (X + 121) := p5
      have p4 : gI t 812 (X + 121) = (trJ c d i st).2.1 := p4
      have p2 : ∀ x, x < 8 → gA t (X + 121 + 21) x = (trJ c d i st).2.2 x := p2
      have p3 : s = ((trJ c d i st).1 : Int) := p3
      have e5 : WE ((i : Int) + 1) := we (by omega) (by omega)
      have e6 : WE (180 + (i : Int)) := we (by omega) (by omega)
      obtain ⟨ms, hc, -⟩ := G.q p1
      have le := trJ_le c d i st
      have es := trJ_s c d i st
      have e111 : ∀ t' s', fX12_wholeBehind_b111 (X + 121) a1 a2 k43 (fX12_wholeBehind_b52 (X + 121) a1 a2 k43 fu) t' s' d (i : Int) = fX12_wholeBehind_b52 (X + 121) a1 a2 k43 fu t' s' d ((i : Int) + 1) := fun t' s' => by rw [fX12_wholeBehind_b111, lt_d, e5.e]
      have hc2 : gA t (X + 121 + 5) 2 = c 2 := by rw [hc]
      have dr := rDraw ms
      left
      generalize trJ c d i st = Q at p2 p3 p4 le es
      rw [p4] at dr
      have zi := rHas (s := Q.1) (k := i) (by omega) (by omega)
      have rr : rg (drS Q.2.1) := irm_rg _ _
      have qd : QM X t (pI t 812 (X + 121) (drS Q.2.1)) := q_pI t (show pM X 812 (X + 121) from ⟨rfl, by omega⟩)
      obtain ⟨ms2, hcc, -⟩ := G.q (p1.tr qd)
      have z812 : gI (pI t 812 (X + 121) (drS Q.2.1)) 812 (X + 121) = drS Q.2.1 := gI_pIs rr
      have z768 : gI (pI t 812 (X + 121) (drS Q.2.1)) 768 (X + 121) = gI h 768 (X + 121) := by rw [gI_pI, if_neg (by omega)]; exact p5
      by_cases q : Q.1.testBit i = true
      · rw [if_pos q] at es
        rw [q] at zi
        by_cases q2 : drV Q.2.1 < c (180 + (i : Int)).toNat
        · rw [if_pos q2] at es
          refine ⟨(sA (pI t 812 (X + 121) (drS Q.2.1)) (X + 121 + 21) (i : Int) d, ((clr Q.1 i : Nat) : Int)), ⟨(p1.tr qd).tr (q_sA _ (show sc X (X + 121 + 21) by unfold sc; omega)), z768, by rw [es]; exact z812, fun x hx => ?_, by rw [es]⟩, ?_⟩
          · show gA (sA (pI t 812 (X + 121) (drS Q.2.1)) (X + 121 + 21) (i : Int) d) (X + 121 + 21) x = _
            rw [gA_sA, es]
            show _ = if x = i then d else Q.2.2 x
            by_cases y : x = i
            · rw [if_pos ⟨rfl, by omega⟩, if_pos y, w32_id (by omega) (by omega)]
            · rw [if_neg (fun y2 => y (by have := y2.2; omega)), if_neg y]
              exact p2 x hx
          · show fX12_wholeBehind_b52 (X + 121) a1 a2 k43 (fu + 1) t s d (i : Int) = fX12_wholeBehind_b52 (X + 121) a1 a2 k43 fu (sA (pI t 812 (X + 121) (drS Q.2.1)) (X + 121 + 21) (i : Int) d) ((clr Q.1 i : Nat) : Int) d ((i : Int) + 1)
            rw [fX12_wholeBehind_b52.eq_2, ← e111, p3]
            refine gdg ms.k (nng ms.r788 (gdg (by rw [ms.k5]) (gdg (by rw [ms.k5]; show 0 ≤ _ ∧ _ < (1850 : Int); omega) ?_)))
            rw [show ((2 : Int)).toNat = 2 from rfl, hc2]
            refine iteT (by omega) (bdg zi (iteF (by unfold b01; rw [if_pos rfl]; omega) (bd2g dr (gdg ms2.k (nng ms2.r788 (gdg (by rw [ms2.k5]) ?_))))))
            rw [e6.e, hcc]
            refine gdg (by rw [ms2.k5]; show 0 ≤ _ ∧ _ < (1850 : Int); omega) (iteT q2 ?_)
            rw [lt_d, clr_n (by omega) (by omega)]
            refine nng ms2.r814 (gdg (by rw [ms2.k21]) (gdg (by rw [ms2.k21]; show 0 ≤ _ ∧ _ < (8 : Int); omega) ?_))
            rw [lt_d]
        · rw [if_neg q2] at es
          refine ⟨(pI t 812 (X + 121) (drS Q.2.1), (Q.1 : Int)), ⟨p1.tr qd, z768, by rw [es]; exact z812, fun x hx => by rw [es]; exact p2 x hx, by rw [es]⟩, ?_⟩
          show fX12_wholeBehind_b52 (X + 121) a1 a2 k43 (fu + 1) t s d (i : Int) = fX12_wholeBehind_b52 (X + 121) a1 a2 k43 fu (pI t 812 (X + 121) (drS Q.2.1)) (Q.1 : Int) d ((i : Int) + 1)
          rw [fX12_wholeBehind_b52.eq_2, ← e111, p3]
          refine gdg ms.k (nng ms.r788 (gdg (by rw [ms.k5]) (gdg (by rw [ms.k5]; show 0 ≤ _ ∧ _ < (1850 : Int); omega) ?_)))
          rw [show ((2 : Int)).toNat = 2 from rfl, hc2]
          refine iteT (by omega) (bdg zi (iteF (by unfold b01; rw [if_pos rfl]; omega) (bd2g dr (gdg ms2.k (nng ms2.r788 (gdg (by rw [ms2.k5]) ?_))))))
          rw [e6.e, hcc]
          exact gdg (by rw [ms2.k5]; show 0 ≤ _ ∧ _ < (1850 : Int); omega) (iteF q2 rfl)
      · rw [if_neg q] at es
        refine ⟨(t, (Q.1 : Int)), ⟨p1, p5, by rw [es]; exact p4, fun x hx => by rw [es]; exact p2 x hx, by rw [es]⟩, ?_⟩
        show fX12_wholeBehind_b52 (X + 121) a1 a2 k43 (fu + 1) t s d (i : Int) = fX12_wholeBehind_b52 (X + 121) a1 a2 k43 fu t (Q.1 : Int) d ((i : Int) + 1)
        rw [fX12_wholeBehind_b52.eq_2, ← e111, p3]
        refine gdg ms.k (nng ms.r788 (gdg (by rw [ms.k5]) (gdg (by rw [ms.k5]; show 0 ≤ _ ∧ _ < (1850 : Int); omega) ?_)))
        rw [show ((2 : Int)).toNat = 2 from rfl, hc2]
        exact iteT (by omega) (bdg zi (iteT (by unfold b01; rw [if_neg q]) rfl)))
    (fun fu u hI => by
      obtain ⟨t, s⟩ := u
      obtain ⟨p1, p5, p4, p2, p3⟩ := hI
      have p3 : s = ((trJ c d (c 2).toNat st).1 : Int) := p3
      obtain ⟨ms, hc, -⟩ := G.q p1
      have hc2 : gA t (X + 121 + 5) 2 = c 2 := by rw [hc]
      refine ⟨t, ⟨p1, p5, p4, p2⟩, ?_⟩
      show fX12_wholeBehind_b52 (X + 121) a1 a2 k43 (fu + 1) t s d ((c 2).toNat : Int) = _
      rw [fX12_wholeBehind_b52.eq_2, p3]
      refine gdg ms.k (nng ms.r788 (gdg (by rw [ms.k5]) (gdg (by rw [ms.k5]; show 0 ≤ _ ∧ _ < (1850 : Int); omega) ?_)))
      rw [show ((2 : Int)).toNat = 2 from rfl, hc2]
      refine iteF (by omega) ?_
      rw [lt_d, ed.e])

set_option maxHeartbeats 200000 in
/-- all days, in the reference -/
theorem rTrD {h : Hp} {X n : Nat} {c : Nat → Int} {a1 : Int} (G : CM h X c) (w : WF c) (n8 : n ≤ 30) (st : Nat × Int × (Nat → Int)) (st8 : st.1 < 256) (hz : gI h 812 (X + 121) = st.2.1) (hB : ∀ x, x < 8 → gA h (X + 121 + 21) x = st.2.2 x) :
    ∃ t : Hp, (QM X h t ∧ gI t 768 (X + 121) = gI h 768 (X + 121) ∧ ∀ x, x < 8 → gA t (X + 121 + 21) x = (trD c n st).2.2 x) ∧ fX12_wholeBehind_b43 (X + 121) a1 (n : Int) FU h (st.1 : Int) 1 = some (((trD c n st).1 : Int), t) := by
  exact fk (S := Hp × Int) (T := Hp) (fun fu x u => fX12_wholeBehind_b43 (X + 121) a1 (n : Int) fu u.1 u.2 x) (fun t => some (((trD c n st).1 : Int), t)) (n + 1)
    (fun i u => 1 ≤ i ∧ QM X h u.1 ∧ gI u.1 768 (X + 121) = gI h 768 (X + 121) ∧ gI u.1 812 (X + 121) = (trD c (i - 1) st).2.1 ∧ (∀ x, x < 8 → gA u.1 (X + 121 + 21) x = (trD c (i - 1) st).2.2 x) ∧ u.2 = ((trD c (i - 1) st).1 : Int)) _ 1 (h, (st.1 : Int)) (by omega) ⟨Nat.le_refl _, QR.rf h, rfl, hz, hB, rfl⟩ (by omega)
    (fun fu i u hi hI => by
      obtain ⟨t, s⟩ := u
      obtain ⟨p0, p1, p5, p4, p2, p3⟩ := hI
      obtain ⟨i', rfl⟩ : ∃ i', i = i' + 1 := ⟨i - 1, by omega⟩
      have p1 : QM X h t := p1
      have p5 : gI t 768 (X + 121) = gI h 768 (X + 121) := p5
      have p4 : gI t 812 (X + 121) = (trD c i' st).2.1 := p4
      have p2 : ∀ x, x < 8 → gA t (X + 121 + 21) x = (trD c i' st).2.2 x := p2
      have p3 : s = ((trD c i' st).1 : Int) := p3
      have le := trD_le c i' st
      obtain ⟨t', ⟨y1, y5, y4, y2⟩, y3⟩ := rTrJ (a1 := a1) (a2 := (n : Int)) (d := ((i' + 1 : Nat) : Int)) (G.q p1) w (by omega) (by omega) (trD c i' st) (by omega) p4 p2 (fX12_wholeBehind_b43 (X + 121) a1 (n : Int) fu)
      left
      refine ⟨(t', ((trD c (i' + 1) st).1 : Int)), ⟨by omega, p1.tr y1, y5.trans p5, y4, y2, rfl⟩, ?_⟩
      show fX12_wholeBehind_b43 (X + 121) a1 (n : Int) (fu + 1) t s ((i' + 1 : Nat) : Int) = _
      rw [fX12_wholeBehind_b43.eq_2, p3]
      exact iteT (by omega) y3)
    (fun fu u hI => by
      obtain ⟨t, s⟩ := u
      obtain ⟨p0, p1, p5, p4, p2, p3⟩ := hI
      have p3 : s = ((trD c n st).1 : Int) := p3
      refine ⟨t, ⟨p1, p5, p2⟩, ?_⟩
      show fX12_wholeBehind_b43 (X + 121) a1 (n : Int) (fu + 1) t s ((n + 1 : Nat) : Int) = _
      rw [fX12_wholeBehind_b43.eq_2, p3]
      exact iteF (by omega) rfl)
set_option maxHeartbeats 200000 in
/-- WHOLEBEHIND, in the reference -/
theorem rTrv {h : Hp} {X n : Nat} {c : Nat → Int} {a1 : Int} (G : CM h X c) (w : WF c) (n8 : n ≤ 30) (r1 : rg a1) :
    ∃ t : Hp, (QM X h t ∧ gI t 768 (X + 121) = gI h 768 (X + 121) ∧ ∀ x, x < 8 → gA t (X + 121 + 21) x = (trS c a1 n).2.2 x) ∧ fX12_wholeBehind h (X + 121) a1 (n : Int) = some (((trS c a1 n).1 : Int), t) := by
  have hj := w.nj
  have pw := pw8 w
  obtain ⟨ms, hc, -⟩ := id G
  have qd : QM X h (pI h 812 (X + 121) a1) := q_pI h (show pM X 812 (X + 121) from ⟨rfl, by omega⟩)
  obtain ⟨ms2, hc2, -⟩ := G.q qd
  have z812 : gI (pI h 812 (X + 121) a1) 812 (X + 121) = a1 := gI_pIs r1
  have z768 : gI (pI h 812 (X + 121) a1) 768 (X + 121) = gI h 768 (X + 121) := by rw [gI_pI, if_neg (by omega)]
  have hcc : gA (pI h 812 (X + 121) a1) (X + 121 + 5) 2 = c 2 := by rw [hc2]
  have k1 := fk (S := Hp) (T := Hp) (fun fu x t => fX12_wholeBehind_b19 (X + 121) a1 (n : Int) fu t (((2 ^ (c 2).toNat - 1 : Nat)) : Int) x) (fun t => fX12_wholeBehind_b43 (X + 121) a1 (n : Int) FU t (((2 ^ (c 2).toNat - 1 : Nat)) : Int) 1) 8 (fun i t => QM X h t ∧ gI t 768 (X + 121) = gI h 768 (X + 121) ∧ gI t 812 (X + 121) = a1 ∧ ∀ x, x < i → gA t (X + 121 + 21) x = 0) (fun t => QM X h t ∧ gI t 768 (X + 121) = gI h 768 (X + 121) ∧ gI t 812 (X + 121) = a1 ∧ ∀ x, x < 8 → gA t (X + 121 + 21) x = 0) 0 (pI h 812 (X + 121) a1) (by omega) ⟨qd, z768, z812, fun x hx => absurd hx (by omega)⟩ (by omega)
    (fun fu i t hi hI => by
      obtain ⟨p1, p5, p4, p2⟩ := hI
      have e5 : WE ((i : Int) + 1) := we (by omega) (by omega)
      obtain ⟨ms, -⟩ := G.q p1
      left
      refine ⟨sA t (X + 121 + 21) (i : Int) 0, ⟨p1.tr (q_sA _ (show sc X (X + 121 + 21) by unfold sc; omega)), p5, p4, fun x hx => ?_⟩, ?_⟩
      · rw [gA_sA]
        by_cases y : x = i
        · rw [if_pos ⟨rfl, by omega⟩, w32_id (by omega) (by omega)]
        · rw [if_neg (fun y2 => y (by have := y2.2; omega))]
          exact p2 x (by omega)
      · show fX12_wholeBehind_b19 (X + 121) a1 (n : Int) (fu + 1) t (((2 ^ (c 2).toNat - 1 : Nat)) : Int) (i : Int) = fX12_wholeBehind_b19 (X + 121) a1 (n : Int) fu (sA t (X + 121 + 21) (i : Int) 0) (((2 ^ (c 2).toNat - 1 : Nat)) : Int) ((i : Int) + 1)
        rw [fX12_wholeBehind_b19.eq_2]
        refine iteT (by omega) (gdg ms.k (nng ms.r814 (gdg (by rw [ms.k21]) (gdg (by rw [ms.k21]; show 0 ≤ _ ∧ _ < (8 : Int); omega) ?_))))
        rw [lt_d, lt_d, e5.e])
    (fun fu t hI => by
      refine ⟨t, hI, ?_⟩
      show fX12_wholeBehind_b19 (X + 121) a1 (n : Int) (fu + 1) t (((2 ^ (c 2).toNat - 1 : Nat)) : Int) ((8 : Nat) : Int) = _
      rw [fX12_wholeBehind_b19.eq_2]
      exact iteF (by omega) rfl)
  obtain ⟨t0, ⟨u1, u5, u4, u2⟩, u3⟩ := k1
  obtain ⟨t', ⟨y1, y5, y2⟩, y3⟩ := rTrD (n := n) (a1 := a1) (G.q u1) w n8 (2 ^ (c 2).toNat - 1, a1, fun _ => 0) (by show 2 ^ (c 2).toNat - 1 < 256; omega) u4 u2
  refine ⟨t', ⟨u1.tr y1, y5.trans u5, y2⟩, ?_⟩
  unfold fX12_wholeBehind
  refine gdg ms.k ?_
  rw [lt_d]
  refine nng ms2.r788 (gdg (by rw [ms2.k5]) (gdg (by rw [ms2.k5]; show 0 ≤ _ ∧ _ < (1850 : Int); omega) ?_))
  rw [show ((2 : Int)).toNat = 2 from rfl, hcc, shl_n hj.1 hj.2, lt_d, w32_id (by omega) (by omega), show ((2 ^ (c 2).toNat : Nat) : Int) - 1 = ((2 ^ (c 2).toNat - 1 : Nat) : Int) by omega]
  exact Eq.trans u3 y3
