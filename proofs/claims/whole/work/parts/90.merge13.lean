/-! MERGED ROWS, in the class: the first states -/
set_option maxHeartbeats 200000 in
theorem ptO_n {c : Nat → Int} {l : List Nat} (j : Nat) : ptO c l l.length j = 0 := by unfold ptO; rw [if_neg (by omega)]
set_option maxHeartbeats 200000 in
theorem rsC_0 {c : Nat → Int} {l : List Nat} (n6 : l.length ≤ 6) : rsC c l 0 l.length = if l.length = 0 then 0 else mnO 1000000 (fun _ => true) (fun j => sRW c l 0 l.length j) l.length := by
  have b0 : bcu 0 = 0 := by decide
  unfold rsC
  rw [b0, Nat.sub_zero]
  by_cases e : l.length = 0
  · rw [if_pos e, e]; rfl
  · rw [if_neg e]
    obtain ⟨d, hd⟩ : ∃ d, l.length = d + 1 := ⟨l.length - 1, by omega⟩
    have : rsF l.length (ptZ c l) (ptO c l) l.length 0 l.length = rsF l.length (ptZ c l) (ptO c l) (d + 1) 0 l.length := by rw [← hd]
    rw [this]
    refine mnO_cg l.length (fun k hk => ⟨by show (!(0 : Nat).testBit k) = true; rw [Nat.zero_testBit]; rfl, fun _ => ?_⟩)
    have b := bcu_or (u := 0) (show k < 8 by omega) (by rw [Nat.zero_testBit])
    unfold sRW rsC
    rw [b, b0, show l.length - (0 + 1) = d by omega]
set_option maxHeartbeats 200000 in
theorem xOpF {h : Hp} {X Y : Nat} {c : Nat → Int} {l : List Nat} (m : MT h X c l) (rY : gR h 260 (X + 104) = some Y) (hY : Y = X + 109 ∨ Y = X + 110) (z8 : ∀ s, s < 384 → gA h (X + 108) s = 0) :
    ∃ t : Hp, (MO X h t ∧ OpS t X Y (nxL c l 0 l.length l.length [])) ∧ fX4_openFirsts h (X + 104) = some (rsC c l 0 l.length, t) := by
  have n6 := m.1.six
  have p6 := pw6 n6
  have H := m.1.1
  have e0 := rsC_0 (c := c) n6
  have sw : ∀ j, j < l.length → fX4_stateWith 0 (j : Int) = some ((((0 ||| 2 ^ j) * 6 + j : Nat)) : Int) := fun j hj => by
    have := xSW (u := 0) (j := j) (by omega) (by omega)
    rw [show (((0 ||| 2 ^ j) * 6 + j : Nat) : Int) = (((0 ||| 2 ^ j : Nat) : Int) * 6 + (j : Int)) by omega]
    exact this
  have z0 : (0 : Nat) < 2 ^ l.length := p6.1
  have g : ∀ t, MT t X c l → ∀ j, j < l.length → gA t (X + 107) ((0 ||| 2 ^ j) * 6 + j) = rsC c l (0 ||| 2 ^ j) j := fun t mt j hj => mt.2.2 _ j (gt_or (by rw [Nat.zero_testBit])) (pw_or z0 hj) hj (by rw [or2_tb, decide_eq_true rfl, Bool.or_true])
  have sr : ∀ j, sRW c l 0 l.length j = (ptZ c l j : Int) + rsC c l (0 ||| 2 ^ j) j := fun j => by
    unfold sRW
    rw [ptO_n]; omega
  -- the loops behind the start
  have L2 : ∀ v, v = rsC c l 0 l.length → ∃ t : Hp, (MO X h t ∧ OpS t X Y (nxL c l 0 l.length l.length [])) ∧ fX4_openFirsts_b62 (X + 104) FU (pI h 262 (X + 104) 0) v 0 = some (rsC c l 0 l.length, t) := by
    intro v hv
    have m1 := m.mo (mo_262 h (v := 0))
    have o1 : OpS (pI h 262 (X + 104) 0) X Y [] := ⟨gI_pIs (rg_lit rfl), fun k hk => absurd hk (by show ¬ k < 0; omega), fun s hs => by rw [gA_pI, z8 s hs]; simp, List.nodup_nil, fun s hs => absurd hs (by simp)⟩
    exact fk (S := Hp) (T := Hp) (fun fu i t => fX4_openFirsts_b62 (X + 104) fu t v i) (fun t => some (rsC c l 0 l.length, t)) l.length
      (fun i t => MO X h t ∧ OpS t X Y (nxL c l 0 l.length i [])) (fun t => MO X h t ∧ OpS t X Y (nxL c l 0 l.length l.length [])) 0 (pI h 262 (X + 104) 0) (by omega) ⟨mo_262 h, o1⟩ (by omega)
      (fun fu i t hi hI => by
        obtain ⟨p1, p2⟩ := hI
        have e5 : WE ((i : Int) + 1) := we (by omega) (by omega)
        have mt := m.mo p1
        have Ht := mt.1.1
        have mv := mt.1.v hi
        have sz := mt.1.T.2.1 i hi
        have rb := rsC_bd mt.1 (0 ||| 2 ^ i) i
        have gi := g t mt i hi
        have sri := sr i
        have q6 := pw_or z0 hi
        have e6 : WE ((ptZ c l i : Int) + rsC c l (0 ||| 2 ^ i) i) := we (by omega) (by omega)
        have st : nxL c l 0 l.length (i + 1) [] = if !(0 : Nat).testBit i && decide (sRW c l 0 l.length i = rsC c l 0 l.length) then addO (nxL c l 0 l.length i []) ((0 ||| 2 ^ i) * 6 + i) else nxL c l 0 l.length i [] := rfl
        rw [Nat.zero_testBit] at st
        have e103 : ∀ t', fX4_openFirsts_b103 (X + 104) (fX4_openFirsts_b62 (X + 104) fu) t' v (i : Int) = fX4_openFirsts_b62 (X + 104) fu t' v ((i : Int) + 1) := fun t' => by rw [fX4_openFirsts_b103, lt_d, e5.e]
        left
        show ∃ s', _ ∧ fX4_openFirsts_b62 (X + 104) (fu + 1) t v (i : Int) = _
        rw [fX4_openFirsts_b62.eq_2, mt.1.n]
        by_cases y : sRW c l 0 l.length i = rsC c l 0 l.length
        · rw [decide_eq_true y] at st
          have st : nxL c l 0 l.length (i + 1) [] = addO (nxL c l 0 l.length i []) ((0 ||| 2 ^ i) * 6 + i) := st
          obtain ⟨t', ⟨z1, z2, z3⟩, z4⟩ := xAO (s := (0 ||| 2 ^ i) * 6 + i) mt (by rw [p1.2.2.1]; exact rY) hY p2 (by omega)
          refine ⟨t', ⟨p1.tr z1, by rw [st]; exact z2⟩, ?_⟩
          refine gdg mt.1.k (iteT (by omega) (nng (r256 Ht) (gdg (by rw [Ht.k105]) (gdg (by rw [Ht.k105]; show 0 ≤ _ ∧ _ < (6 : Int); omega) (nng (mt.1.p hi) (gdg mv.k (nng (r258 Ht) (bdg (sw i hi) (gdg (by rw [Ht.k107]) (gdg (by rw [Ht.k107]; show 0 ≤ _ ∧ _ < (384 : Int); omega) (iteT ?_ (bdg (sw i hi) (bdg z4 (e103 t'))))))))))))))
          rw [show ((((0 ||| 2 ^ i) * 6 + i : Nat)) : Int).toNat = (0 ||| 2 ^ i) * 6 + i from rfl, show ((i : Int)).toNat = i from rfl, gi, mv.z, ← sz.2.1, e6.e, hv, ← y, sri]
        · rw [decide_eq_false y] at st
          have st : nxL c l 0 l.length (i + 1) [] = nxL c l 0 l.length i [] := st
          refine ⟨t, ⟨p1, by rw [st]; exact p2⟩, ?_⟩
          refine gdg mt.1.k (iteT (by omega) (nng (r256 Ht) (gdg (by rw [Ht.k105]) (gdg (by rw [Ht.k105]; show 0 ≤ _ ∧ _ < (6 : Int); omega) (nng (mt.1.p hi) (gdg mv.k (nng (r258 Ht) (bdg (sw i hi) (gdg (by rw [Ht.k107]) (gdg (by rw [Ht.k107]; show 0 ≤ _ ∧ _ < (384 : Int); omega) (iteF ?_ (e103 t))))))))))))
          rw [show ((((0 ||| 2 ^ i) * 6 + i : Nat)) : Int).toNat = (0 ||| 2 ^ i) * 6 + i from rfl, show ((i : Int)).toNat = i from rfl, gi, mv.z, ← sz.2.1, e6.e, hv, ← sri]
          exact y)
      (fun fu t hI => by
        obtain ⟨p1, p2⟩ := hI
        have mt := m.mo p1
        refine ⟨t, ⟨p1, p2⟩, ?_⟩
        show fX4_openFirsts_b62 (X + 104) (fu + 1) t v (l.length : Int) = _
        rw [fX4_openFirsts_b62.eq_2, mt.1.n, hv]
        exact gdg mt.1.k (iteF (by omega) rfl))
  have L1 : ∀ s0 : Int, rg s0 → fX4_openFirsts_b16 (X + 104) FU h s0 0 = fX4_openFirsts_b62 (X + 104) FU (pI h 262 (X + 104) 0) (mnO s0 (fun _ => true) (fun j => sRW c l 0 l.length j) l.length) 0 := by
    intro s0 _
    exact fg (S := Int) (fun fu v s => fX4_openFirsts_b16 (X + 104) fu h s v) (fun s => fX4_openFirsts_b62 (X + 104) FU (pI h 262 (X + 104) 0) s 0) l.length (mnO s0 (fun _ => true) (fun j => sRW c l 0 l.length j)) (by omega)
      (fun fu i hi => by
        have e5 : WE ((i : Int) + 1) := we (by omega) (by omega)
        have mv := m.1.v hi
        have sz := m.1.T.2.1 i hi
        have rb := rsC_bd m.1 (0 ||| 2 ^ i) i
        have gi := g h m i hi
        have q6 := pw_or z0 hi
        have e6 : WE ((ptZ c l i : Int) + rsC c l (0 ||| 2 ^ i) i) := we (by omega) (by omega)
        show fX4_openFirsts_b16 (X + 104) (fu + 1) h (mnO s0 (fun _ => true) (fun j => sRW c l 0 l.length j) i) (i : Int) = fX4_openFirsts_b16 (X + 104) fu h (min (mnO s0 (fun _ => true) (fun j => sRW c l 0 l.length j) i) (sRW c l 0 l.length i)) ((i : Int) + 1)
        rw [fX4_openFirsts_b16.eq_2, m.1.n]
        refine gdg m.1.k (iteT (by omega) (nng (r256 H) (gdg (by rw [H.k105]) (gdg (by rw [H.k105]; show 0 ≤ _ ∧ _ < (6 : Int); omega) (nng (m.1.p hi) (gdg mv.k (nng (r258 H) (bdg (sw i hi) (gdg (by rw [H.k107]) (gdg (by rw [H.k107]; show 0 ≤ _ ∧ _ < (384 : Int); omega) ?_))))))))))
        rw [show ((((0 ||| 2 ^ i) * 6 + i : Nat)) : Int).toNat = (0 ||| 2 ^ i) * 6 + i from rfl, show ((i : Int)).toNat = i from rfl, gi, mv.z, ← sz.2.1, e6.e, ← sr, lt_d, lt_d, e5.e])
      (fun fu => by
        show fX4_openFirsts_b16 (X + 104) (fu + 1) h _ (l.length : Int) = _
        rw [fX4_openFirsts_b16.eq_2, m.1.n]
        refine gdg m.1.k (iteF (by omega) ?_)
        rw [lt_d]) 0 (by omega)
  unfold fX4_openFirsts
  rw [m.1.n]
  by_cases e : l.length = 0
  · rw [if_pos e] at e0
    obtain ⟨t, t1, t2⟩ := L2 (mnO 0 (fun _ => true) (fun j => sRW c l 0 l.length j) l.length) (by rw [e0]; exact mnO_no _ (fun k hk => absurd hk (by omega)))
    refine ⟨t, t1, gdg m.1.k (iteT (by omega) ?_)⟩
    rw [fX4_openFirsts_b13, L1 0 (rg_lit rfl)]
    exact t2
  · rw [if_neg e] at e0
    obtain ⟨t, t1, t2⟩ := L2 (mnO 1000000 (fun _ => true) (fun j => sRW c l 0 l.length j) l.length) e0.symm
    refine ⟨t, t1, gdg m.1.k (iteF (by omega) ?_)⟩
    rw [fX4_openFirsts_b13, L1 1000000 (rg_lit rfl)]
    exact t2
