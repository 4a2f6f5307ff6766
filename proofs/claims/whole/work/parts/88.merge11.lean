/-! MERGED ROWS, in the class: letters of the open states, the next states -/
/-- a state that may be open -/
def okT (l : List Nat) (s : Nat) : Prop := s % 6 < l.length ∧ s / 6 < 2 ^ l.length ∧ (s / 6).testBit (s % 6) = true
set_option maxHeartbeats 200000 in
theorem okT_lt {l : List Nat} {s : Nat} (n6 : l.length ≤ 6) (h : okT l s) : s < 384 ∧ 0 < s / 6 := by
  have := pw6 n6
  obtain ⟨h1, h2, h3⟩ := h
  refine ⟨by omega, ?_⟩
  rcases Nat.eq_zero_or_pos (s / 6) with e | e
  · rw [e, Nat.zero_testBit] at h3; cases h3
  · exact e
set_option maxHeartbeats 200000 in
theorem okT_mk {l : List Nat} {u j : Nat} (n6 : l.length ≤ 6) (hu : u < 2 ^ l.length) (hj : j < l.length) : okT l ((u ||| 2 ^ j) * 6 + j) ∧ ((u ||| 2 ^ j) * 6 + j) / 6 = (u ||| 2 ^ j) ∧ ((u ||| 2 ^ j) * 6 + j) % 6 = j := by
  have e1 : ((u ||| 2 ^ j) * 6 + j) / 6 = (u ||| 2 ^ j) := by omega
  have e2 : ((u ||| 2 ^ j) * 6 + j) % 6 = j := by omega
  refine ⟨?_, e1, e2⟩
  unfold okT
  rw [e1, e2]
  exact ⟨hj, pw_or hu hj, by rw [or2_tb, decide_eq_true rfl, Bool.or_true]⟩
def plc (c : Nat → Int) (l : List Nat) (s : Nat) (left : Int) : Int := (ptZ c l (s % 6) : Int) + rsC c l (s / 6) (s % 6) - left
def ltr (c : Nat → Int) (l : List Nat) (s : Nat) (left : Int) : Int := ptL c l (s % 6) (plc c l s left)
set_option maxHeartbeats 200000 in
theorem xPl {t : Hp} {X s : Nat} {c : Nat → Int} {l : List Nat} {left : Int} (m : MT t X c l) (k : okT l s) (l0 : 0 ≤ left ∧ left ≤ 1000000) : fX4_placeIn t (X + 104) (s : Int) left = some (plc c l s left) := by
  have n6 := m.1.six
  obtain ⟨s8, s0⟩ := okT_lt n6 k
  obtain ⟨k1, k2, k3⟩ := k
  have H := m.1.1
  have e1 : irm (s : Int) 6 = ((s % 6 : Nat) : Int) := irm_n (b := 6) (by omega) (by omega) (by omega)
  have rb := rsC_bd m.1 (s / 6) (s % 6)
  have sz := (m.1.T.2.1 _ k1)
  have g := m.2.2 (s / 6) (s % 6) s0 k2 k1 k3
  have e3 : WE ((ptZ c l (s % 6) : Int) + rsC c l (s / 6) (s % 6)) := we (by omega) (by omega)
  have e4 : WE ((ptZ c l (s % 6) : Int) + rsC c l (s / 6) (s % 6) - left) := we (by omega) (by omega)
  have mv := m.1.v k1
  unfold fX4_placeIn
  rw [e1]
  refine gdg m.1.k (nng (r256 H) (gdg (by rw [H.k105]) (gdg (by rw [H.k105]; show 0 ≤ _ ∧ _ < (6 : Int); omega) (nng (m.1.p k1) (gdg mv.k (nng (r258 H) (gdg (by rw [H.k107]) (gdg (by rw [H.k107]; show 0 ≤ _ ∧ _ < (384 : Int); omega) ?_))))))))
  rw [show (((s % 6 : Nat) : Int)).toNat = s % 6 from rfl, mv.z, ← sz.2.1, show ((s : Int)).toNat = s / 6 * 6 + s % 6 by omega, g, e3.e, e4.e]
  rfl
set_option maxHeartbeats 200000 in
theorem xLO {t : Hp} {X s : Nat} {c : Nat → Int} {l : List Nat} {left : Int} (m : MT t X c l) (k : okT l s) (l0 : 0 ≤ left ∧ left ≤ 1000000) : fX4_letterOf t (X + 104) (s : Int) left = some (ltr c l s left) := by
  have n6 := m.1.six
  obtain ⟨s8, s0⟩ := okT_lt n6 k
  have pl := xPl m k l0
  obtain ⟨k1, k2, k3⟩ := k
  have H := m.1.1
  have e1 : irm (s : Int) 6 = ((s % 6 : Nat) : Int) := irm_n (b := 6) (by omega) (by omega) (by omega)
  have mv := m.1.v k1
  unfold fX4_letterOf
  rw [e1]
  refine gdg m.1.k (nng (r256 H) (gdg (by rw [H.k105]) (gdg (by rw [H.k105]; show 0 ≤ _ ∧ _ < (6 : Int); omega) (nng (m.1.p k1) (bdg pl (gdg mv.k (bdg (xAt mv _) ?_)))))))
  rfl
def leaL (c : Nat → Int) (l os : List Nat) (left : Int) (k : Nat) : Int := mnO 26 (fun _ => true) (fun k => ltr c l (gtN os k) left) k
set_option maxHeartbeats 200000 in
theorem xLL {t : Hp} {X Y : Nat} {c : Nat → Int} {l os : List Nat} {left : Int} (m : MT t X c l) (rY : gR t 260 (X + 104) = some Y) (hY : Y = X + 109 ∨ Y = X + 110) (o : OpS t X Y os) (ok : ∀ s, s ∈ os → okT l s) (l0 : 0 ≤ left ∧ left ≤ 1000000) :
    fX4_leastLetter t (X + 104) left = some (leaL c l os left os.length) := by
  have H := m.1.1
  have kY : hK t Y = (21, 384) := by rcases hY with e | e <;> rw [e]; exact H.k109; exact H.k110
  have lt := pig 384 os o.2.2.2.1 o.2.2.2.2
  unfold fX4_leastLetter
  exact fg (S := Int) (fun fu v s => fX4_leastLetter_b5 t (X + 104) left fu s v) some os.length (leaL c l os left) (by omega)
    (fun fu i hi => by
      have e5 : WE ((i : Int) + 1) := we (by omega) (by omega)
      have lo := xLO m (ok _ (gtN_mem hi)) l0
      show fX4_leastLetter_b5 t (X + 104) left (fu + 1) (leaL c l os left i) (i : Int) = fX4_leastLetter_b5 t (X + 104) left fu (min (leaL c l os left i) (ltr c l (gtN os i) left)) ((i : Int) + 1)
      rw [fX4_leastLetter_b5.eq_2, o.1]
      refine gdg m.1.k (iteT (by omega) (nng rY (gdg (by rw [kY]) (gdg (by rw [kY]; show 0 ≤ _ ∧ _ < (384 : Int); omega) ?_))))
      rw [show ((i : Int)).toNat = i from rfl, o.2.1 i hi]
      refine bdg lo ?_
      rw [lt_d, lt_d, e5.e])
    (fun fu => by
      show fX4_leastLetter_b5 t (X + 104) left (fu + 1) _ (os.length : Int) = _
      rw [fX4_leastLetter_b5.eq_2, o.1]
      exact gdg m.1.k (iteF (by omega) rfl)) 0 (by omega)
/-- the states behind the end of a part -/
def nxL (c : Nat → Int) (l : List Nat) (u a : Nat) : Nat → List Nat → List Nat
  | 0, os => os
  | k + 1, os => if !u.testBit k && decide (sRW c l u a k = rsC c l u a) then addO (nxL c l u a k os) ((u ||| 2 ^ k) * 6 + k) else nxL c l u a k os
set_option maxHeartbeats 200000 in
theorem xNx {h : Hp} {X Y s : Nat} {c : Nat → Int} {l os : List Nat} (m : MT h X c l) (rY : gR h 260 (X + 104) = some Y) (hY : Y = X + 109 ∨ Y = X + 110) (o : OpS h X Y os) (k : okT l s) :
    ∃ t : Hp, (MO X h t ∧ OpS t X Y (nxL c l (s / 6) (s % 6) l.length os) ∧ ∀ Z, Z ≠ Y → Z ≠ X + 108 → ∀ k, gA t Z k = gA h Z k) ∧ fX4_addNexts h (X + 104) (s : Int) = some t := by
  have n6 := m.1.six
  have p6 := pw6 n6
  obtain ⟨s8, s0⟩ := okT_lt n6 k
  obtain ⟨k1, k2, k3⟩ := k
  have e1 : irm (s : Int) 6 = ((s % 6 : Nat) : Int) := irm_n (b := 6) (by omega) (by omega) (by omega)
  have e2 : idv (s : Int) 6 = ((s / 6 : Nat) : Int) := idv_n (b := 6) (by omega) (by omega) (by omega)
  unfold fX4_addNexts
  rw [e2, lt_d]
  exact fk (S := Hp) (T := Hp) (fun fu i t => fX4_addNexts_b7 (X + 104) (s : Int) fu t ((s / 6 : Nat) : Int) i) some l.length
    (fun i t => MO X h t ∧ OpS t X Y (nxL c l (s / 6) (s % 6) i os) ∧ ∀ Z, Z ≠ Y → Z ≠ X + 108 → ∀ k, gA t Z k = gA h Z k) (fun t => MO X h t ∧ OpS t X Y (nxL c l (s / 6) (s % 6) l.length os) ∧ ∀ Z, Z ≠ Y → Z ≠ X + 108 → ∀ k, gA t Z k = gA h Z k) 0 h (by omega) ⟨MO.rf h, o, fun _ _ _ _ => rfl⟩ (by omega)
    (fun fu i t hi hI => by
      obtain ⟨p1, p2, p3⟩ := hI
      have e5 : WE ((i : Int) + 1) := we (by omega) (by omega)
      have mt := m.mo p1
      have H := mt.1.1
      have ib := xIsIn (s := s / 6) (k := i) (by omega) (by omega)
      have st : nxL c l (s / 6) (s % 6) (i + 1) os = if !(s / 6).testBit i && decide (sRW c l (s / 6) (s % 6) i = rsC c l (s / 6) (s % 6)) then addO (nxL c l (s / 6) (s % 6) i os) ((s / 6 ||| 2 ^ i) * 6 + i) else nxL c l (s / 6) (s % 6) i os := rfl
      have e51 : ∀ t', fX4_addNexts_b51 (X + 104) (s : Int) (fX4_addNexts_b7 (X + 104) (s : Int) fu) t' ((s / 6 : Nat) : Int) (i : Int) = fX4_addNexts_b7 (X + 104) (s : Int) fu t' ((s / 6 : Nat) : Int) ((i : Int) + 1) := fun t' => by rw [fX4_addNexts_b51, lt_d, e5.e]
      left
      cases q : (s / 6).testBit i with
      | true =>
        rw [q] at ib st
        have st : nxL c l (s / 6) (s % 6) (i + 1) os = nxL c l (s / 6) (s % 6) i os := st
        refine ⟨t, ⟨p1, by rw [st]; exact p2, p3⟩, ?_⟩
        show fX4_addNexts_b7 (X + 104) (s : Int) (fu + 1) t ((s / 6 : Nat) : Int) (i : Int) = _
        rw [fX4_addNexts_b7.eq_2, mt.1.n]
        exact gdg mt.1.k (iteT (by omega) (bdg ib (iteF (by decide) (e51 t))))
      | false =>
        rw [q] at ib st
        obtain ⟨g1, g2, g3⟩ := okT_mk (l := l) n6 k2 hi
        have g := mt.2.2 (s / 6 ||| 2 ^ i) i (by have := gt_or q; omega) (pw_or k2 hi) hi (by rw [or2_tb, decide_eq_true rfl, Bool.or_true])
        have rw1 := xRW mt.1 mt.2.1 k2 k1 hi (fun z => by rw [← z, k3] at q; cases q) g
        have gs := mt.2.2 (s / 6) (s % 6) s0 k2 k1 k3
        have hd : ∀ (r1 r2 : Option Hp), (gd ((hK t (X + 104)).1 = 4) <| if (i : Int) < (l.length : Int) then (bd (fX11_isIn ((s / 6 : Nat) : Int) (i : Int)) fun r3 => if r3 = 0 then (bd (fX4_restWith t (X + 104) ((s / 6 : Nat) : Int) (irm (s : Int) 6) (i : Int)) fun r6 => nn (gR t 258 (X + 104)) fun q8 => gd ((hK t q8).1 = 21) <| gd (inA (s : Int) (hK t q8).2) <| if r6 = (gA t q8 ((s : Int)).toNat) then r1 else r2) else r2) else some t) = if sRW c l (s / 6) (s % 6) i = rsC c l (s / 6) (s % 6) then r1 else r2 := fun r1 r2 => by
          rw [e1]
          refine gdg mt.1.k (iteT (by omega) (bdg ib (iteT rfl (bdg rw1 (nng (r258 H) (gdg (by rw [H.k107]) (gdg (by rw [H.k107]; show 0 ≤ _ ∧ _ < (384 : Int); omega) ?_)))))))
          rw [show ((s : Int)).toNat = s / 6 * 6 + s % 6 by omega, gs]
        by_cases y : sRW c l (s / 6) (s % 6) i = rsC c l (s / 6) (s % 6)
        · rw [decide_eq_true y] at st
          have st : nxL c l (s / 6) (s % 6) (i + 1) os = addO (nxL c l (s / 6) (s % 6) i os) ((s / 6 ||| 2 ^ i) * 6 + i) := st
          obtain ⟨t', ⟨z1, z2, z3⟩, z4⟩ := xAO mt (by rw [p1.2.2.1]; exact rY) hY p2 (okT_lt n6 g1).1
          refine ⟨t', ⟨p1.tr z1, by rw [st]; exact z2, fun Z n1 n2 k => (z3 Z n1 n2 k).trans (p3 Z n1 n2 k)⟩, ?_⟩
          show fX4_addNexts_b7 (X + 104) (s : Int) (fu + 1) t ((s / 6 : Nat) : Int) (i : Int) = _
          rw [fX4_addNexts_b7.eq_2, mt.1.n]
          refine Eq.trans (hd _ _) (iteT y (bdg (xSW (by omega) (by omega)) ?_))
          refine bdg (Eq.trans ?_ z4) (e51 t')
          rw [show (((s / 6 ||| 2 ^ i : Nat) : Int) * 6 + (i : Int)) = (((s / 6 ||| 2 ^ i) * 6 + i : Nat) : Int) by omega]
        · rw [decide_eq_false y] at st
          have st : nxL c l (s / 6) (s % 6) (i + 1) os = nxL c l (s / 6) (s % 6) i os := st
          refine ⟨t, ⟨p1, by rw [st]; exact p2, p3⟩, ?_⟩
          show fX4_addNexts_b7 (X + 104) (s : Int) (fu + 1) t ((s / 6 : Nat) : Int) (i : Int) = _
          rw [fX4_addNexts_b7.eq_2, mt.1.n]
          exact Eq.trans (hd _ _) (iteF y (e51 t)))
    (fun fu t hI => by
      obtain ⟨p1, p2, p3⟩ := hI
      have mt := m.mo p1
      refine ⟨t, ⟨p1, p2, p3⟩, ?_⟩
      show fX4_addNexts_b7 (X + 104) (s : Int) (fu + 1) t ((s / 6 : Nat) : Int) (l.length : Int) = _
      rw [fX4_addNexts_b7.eq_2, mt.1.n]
      exact gdg mt.1.k (iteF (by omega) rfl))
