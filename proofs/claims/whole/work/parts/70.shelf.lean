/-! SHELF (written by wip/whole/g70.py) -/
def flA (c : Nat → Int) : Nat := bs (c 2).toNat (flB c)
set_option maxHeartbeats 200000 in
theorem flA_lt {c : Nat → Int} (w : WF c) : flA c < 256 := by
  have hj := w.nj
  exact Nat.lt_of_lt_of_le (bs_lt (c 2).toNat (flB c)) (show 2 ^ (c 2).toNat ≤ 2 ^ 8 from Nat.pow_le_pow_right (by omega) (by omega))
set_option maxHeartbeats 200000 in
theorem flA_in {c : Nat → Int} {j : Nat} (h : (flA c).testBit j = true) : j < (c 2).toNat := by
  unfold flA at h
  rw [bs_tb, Bool.and_eq_true] at h
  exact of_decide_eq_true h.1
set_option maxHeartbeats 200000 in
theorem shP_in {c : Nat → Int} {A s j : Nat} (h : shP c A s j = true) : A.testBit j = true ∧ s.testBit j = false ∧ shV c (shR c A) A s j = shR c A s := by
  unfold shP inB at h
  rw [Bool.and_eq_true, Bool.and_eq_true] at h
  refine ⟨h.1.1, ?_, of_decide_eq_true h.2⟩
  cases q : s.testBit j with
  | false => rfl
  | true => have := h.1.2; rw [q] at this; cases this
set_option maxHeartbeats 200000 in
theorem shV_in {c : Nat → Int} {A s j : Nat} {T : Nat → Int} (h : inB A s j = true) : shV c T A s j = wS c (j : Int) (c 0 + bcN 8 s) + T (s ||| 2 ^ j) := by
  unfold shV
  unfold inB at h
  rw [if_pos h]
set_option maxHeartbeats 200000 in
theorem shV_out {c : Nat → Int} {A s j : Nat} {T : Nat → Int} (h : inB A s j = false) : shV c T A s j = 0 := by
  unfold shV
  unfold inB at h
  rw [h]; rfl
set_option maxHeartbeats 200000 in
theorem inB_b {A s j : Nat} (hA : A < 256) (hs : s < 256) (hj : j < 8) : fX11_isIn (bnd (A : Int) (bxr (s : Int) (-1))) (j : Int) = some (b01 (inB A s j)) := by
  rw [anN_e hA hs, xIsIn (by have := anN_le A s; omega) (by omega), anN_tb hA hs]; rfl
set_option maxHeartbeats 200000 in
theorem inB_r {A s j : Nat} (hA : A < 256) (hs : s < 256) (hj : j < 8) : fX12_has (bnd (A : Int) (bxr (s : Int) (-1))) (j : Int) = some (b01 (inB A s j)) := by
  rw [anN_e hA hs, rHas (by have := anN_le A s; omega) (by omega), anN_tb hA hs]; rfl
/-! the class's side -/
set_option maxHeartbeats 200000 in
theorem xGW {h : Hp} {X S s : Nat} {c : Nat → Int} {j : Nat} (H : XS h X) (v : SV h S c) (w : WF c) (hs : s < 256) (hj : (j : Int) < c 2) (b : 0 ≤ gA h (X + 116) (s ||| 2 ^ j) ∧ gA h (X + 116) (s ||| 2 ^ j) ≤ 1000000) :
    fX5_gainWith h (X + 113) S (c 0) (s : Int) (j : Int) = some (wS c (j : Int) (c 0 + bcN 8 s) + gA h (X + 116) (s ||| 2 ^ j)) := by
  have nj := w.nj
  obtain ⟨j1, j2, j3, j4, j5, j6, j7, j8⟩ := v.jar w (j := (j : Int)) (by omega) hj
  have bb := bcN_bd 8 s
  have wd := w.day
  have e1 : WE (c 0 + bcN 8 s) := we (by omega) (by omega)
  have xb := xBits (s := s) (by omega)
  rw [bcN_lt (n := 8) hs (by omega)] at xb
  have wb := wS_bd (d := c 0 + bcN 8 s) w (j := (j : Int)) (by omega) (by omega)
  have ew : w32 (gI h 4 (S + 5 + 3 * ((j : Int)).toNat) * leftS c (j : Int) (c 0 + bcN 8 s)) = wS c (j : Int) (c 0 + bcN 8 s) := by
    rw [j7.2.2.2.2.1]
    exact w32_id (show -2147483648 ≤ wS c (j : Int) (c 0 + bcN 8 s) by omega) (show wS c (j : Int) (c 0 + bcN 8 s) < 2147483648 by omega)
  have or8 := or2_lt hs (show j < 8 by omega)
  have k116 := H.k116
  unfold fX5_gainWith
  refine gdg j1 (nng j2 (gdg j3 (gdg j4 (nng j5 (bdg xb (gdg j6 ?_))))))
  rw [e1.e]
  refine bdg (xLef j6 j7 (w.wj (by omega) (by omega)) (by omega) (by omega)) (gdg j4 (nng j5 (gdg j6 (gdg (by rw [H.k113]) (nng H.r322 (gdg (by rw [k116]) ?_))))))
  rw [bor_or hs (by omega), ew]
  refine gdg (by rw [k116]; show 0 ≤ _ ∧ _ < (256 : Int); omega) ?_
  rw [show (((s ||| 2 ^ j : Nat) : Int)).toNat = s ||| 2 ^ j from rfl, w32_id (by omega) (by omega)]
set_option maxHeartbeats 200000 in
/-- BESTOPENING: the first of the best, -1 if nothing is left -/
theorem xBO {h : Hp} {X S A s : Nat} {c : Nat → Int} (H : XS h X) (v : SV h S c) (w : WF c) (hA : A = flA c) (hs : s < 256) (g : ∀ x, s < x → x < 256 → Sub x A → gA h (X + 116) x = shR c A x) (sb : Sub s A) :
    fX5_bestOpening h (X + 113) S (c 0) (s : Int) (A : Int) = some (if s = A then -1 else (shJ c A s : Int)) := by
  have nj := w.nj
  have A8 : A < 256 := by rw [hA]; exact flA_lt w
  have kS : (hK h S).1 = 7 := by rw [v.1]
  have v7 : gI h 451 S = c 2 := v.2.2.2.2.2.2.1
  unfold fX5_bestOpening
  obtain ⟨t, ht, e⟩ := fk (S := Int × Int) (T := Int) (fun fu v5 u => fX5_bestOpening_b9 h (X + 113) S (c 0) (s : Int) (A : Int) fu u.1 u.2 v5) some (c 2).toNat
    (fun i u => ((∀ k, k < i → inB A s k = false) ∧ u = (-1, -1)) ∨ (∃ j, j < i ∧ inB A s j = true ∧ u = ((j : Int), shV c (shR c A) A s j) ∧ (∀ k, k < i → shV c (shR c A) A s k ≤ shV c (shR c A) A s j) ∧ (∀ k, k < j → inB A s k = true → shV c (shR c A) A s k < shV c (shR c A) A s j)))
    (fun t => t = if s = A then -1 else (shJ c A s : Int)) 0 ((-1 : Int), (-1 : Int)) (by omega) (Or.inl ⟨fun k hk => absurd hk (by omega), rfl⟩) (by omega)
    (fun fu i u hi hI => by
      have e5 : WE ((i : Int) + 1) := we (by omega) (by omega)
      have ib := inB_b (j := i) A8 hs (by omega)
      have e58 : ∀ a b, fX5_bestOpening_b58 h (X + 113) S (c 0) (s : Int) (A : Int) (fX5_bestOpening_b9 h (X + 113) S (c 0) (s : Int) (A : Int) fu) a b (i : Int) = fX5_bestOpening_b9 h (X + 113) S (c 0) (s : Int) (A : Int) fu a b ((i : Int) + 1) := fun a b => by rw [fX5_bestOpening_b58, lt_d, e5.e]
      left
      cases q : inB A s i with
      | false =>
        rw [q] at ib
        refine ⟨u, ?_, ?_⟩
        · rcases hI with ⟨h1, h2⟩ | ⟨j, h1, h2, h3, h4, h5⟩
          · refine Or.inl ⟨fun k hk => ?_, h2⟩
            rcases Nat.lt_succ_iff_lt_or_eq.mp hk with z | z
            · exact h1 k z
            · rw [z]; exact q
          · refine Or.inr ⟨j, by omega, h2, h3, fun k hk => ?_, h5⟩
            rcases Nat.lt_succ_iff_lt_or_eq.mp hk with z | z
            · exact h4 k z
            · have := shV_bd w (A := A) (s := s) (show j < 8 by omega)
              rw [z, shV_out q]; omega
        · show fX5_bestOpening_b9 h (X + 113) S (c 0) (s : Int) (A : Int) (fu + 1) u.1 u.2 (i : Int) = fX5_bestOpening_b9 h (X + 113) S (c 0) (s : Int) (A : Int) fu u.1 u.2 ((i : Int) + 1)
          rw [fX5_bestOpening_b9.eq_2, v7]
          refine gdg kS (iteT (by omega) (bdg ib (iteT rfl ?_)))
          exact e58 _ _
      | true =>
        rw [q] at ib
        have qq := q
        unfold inB at qq
        rw [Bool.and_eq_true] at qq
        have nb : s.testBit i = false := by
          cases z : s.testBit i with
          | false => rfl
          | true => have := qq.2; rw [z] at this; cases this
        have or8 := or2_lt hs (show i < 8 by omega)
        have ge := g (s ||| 2 ^ i) (or2_gt nb) or8 (sb.or qq.1)
        have rb := shR_bd w A (s ||| 2 ^ i)
        have xg := xGW H v w hs (j := i) (by omega) (by rw [ge]; omega)
        rw [ge, ← shV_in q] at xg
        have vb := shV_bd w (A := A) (s := s) (show i < 8 by omega)
        by_cases y : shV c (shR c A) A s i ≤ u.2
        · refine ⟨u, ?_, ?_⟩
          · rcases hI with ⟨h1, h2⟩ | ⟨j, h1, h2, h3, h4, h5⟩
            · rw [h2] at y
              have y : shV c (shR c A) A s i ≤ -1 := y
              omega
            · refine Or.inr ⟨j, by omega, h2, h3, fun k hk => ?_, h5⟩
              rcases Nat.lt_succ_iff_lt_or_eq.mp hk with z | z
              · exact h4 k z
              · rw [h3] at y
                rw [z]; exact y
          · show fX5_bestOpening_b9 h (X + 113) S (c 0) (s : Int) (A : Int) (fu + 1) u.1 u.2 (i : Int) = fX5_bestOpening_b9 h (X + 113) S (c 0) (s : Int) (A : Int) fu u.1 u.2 ((i : Int) + 1)
            rw [fX5_bestOpening_b9.eq_2, v7]
            refine gdg kS (iteT (by omega) (bdg ib (iteF (by unfold b01; rw [if_pos rfl]; omega) (gdg (by rw [H.k113]) (bdg xg (iteT y ?_))))))
            exact e58 _ _
        · refine ⟨((i : Int), shV c (shR c A) A s i), Or.inr ⟨i, by omega, q, rfl, fun k hk => ?_, fun k hk hk2 => ?_⟩, ?_⟩
          · rcases Nat.lt_succ_iff_lt_or_eq.mp hk with z | z
            · rcases hI with ⟨h1, h2⟩ | ⟨j, h1, h2, h3, h4, h5⟩
              · rw [shV_out (h1 k z)]; omega
              · have := h4 k z
                rw [h3] at y
                have y : ¬ shV c (shR c A) A s i ≤ shV c (shR c A) A s j := y
                omega
            · rw [z]; omega
          · rcases hI with ⟨h1, h2⟩ | ⟨j, h1, h2, h3, h4, h5⟩
            · rw [h1 k hk] at hk2; cases hk2
            · have := h4 k hk
              rw [h3] at y
              have y : ¬ shV c (shR c A) A s i ≤ shV c (shR c A) A s j := y
              omega
          · show fX5_bestOpening_b9 h (X + 113) S (c 0) (s : Int) (A : Int) (fu + 1) u.1 u.2 (i : Int) = fX5_bestOpening_b9 h (X + 113) S (c 0) (s : Int) (A : Int) fu (i : Int) (shV c (shR c A) A s i) ((i : Int) + 1)
            rw [fX5_bestOpening_b9.eq_2, v7]
            refine gdg kS (iteT (by omega) (bdg ib (iteF (by unfold b01; rw [if_pos rfl]; omega) (gdg (by rw [H.k113]) (bdg xg (iteF y ?_))))))
            exact e58 _ _)
    (fun fu u hI => by
      have out : ∀ k, (c 2).toNat ≤ k → inB A s k = false := fun k hk => by
        unfold inB
        cases z : A.testBit k with
        | false => rfl
        | true =>
          rw [hA] at z
          have := flA_in z
          omega
      refine ⟨u.1, ?_, ?_⟩
      · rcases hI with ⟨h1, h2⟩ | ⟨j, h1, h2, h3, h4, h5⟩
        · have e : s = A := sb.eq hs A8 (fun j hj hb => by
            have z : inB A s j = false := if y : j < (c 2).toNat then h1 j y else out j (by omega)
            unfold inB at z
            rw [hb] at z
            cases q : s.testBit j with
            | true => rfl
            | false => rw [q] at z; cases z)
          rw [if_pos e, h2]
        · have ne : s ≠ A := by
            intro e
            unfold inB at h2
            rw [e] at h2
            cases q : A.testBit j <;> rw [q] at h2 <;> cases h2
          have em : shR c A s = shV c (shR c A) A s j := by
            rw [shR_eq hs]
            have m1 := mz_ge (n := 8) (f := shV c (shR c A) A s)
            have m2 := m1.2 j (by omega)
            have m3 := mz_le (n := 8) (f := shV c (shR c A) A s) (v := shV c (shR c A) A s j) (shV_bd w (by omega)).1 (fun k hk => by
              by_cases y : k < (c 2).toNat
              · exact h4 k y
              · rw [shV_out (out k (by omega))]; exact (shV_bd w (by omega)).1)
            omega
          have ej : shJ c A s = j := fsN_is (by omega) (by unfold shP; rw [h2, decide_eq_true em.symm]; rfl) (fun k hk => by
            unfold shP
            cases q : inB A s k with
            | false => rfl
            | true =>
              have := h5 k hk q
              rw [decide_eq_false (show ¬ shV c (shR c A) A s k = shR c A s by omega)]; rfl)
          rw [if_neg ne, ej, h3]
      · show fX5_bestOpening_b9 h (X + 113) S (c 0) (s : Int) (A : Int) (fu + 1) u.1 u.2 ((c 2).toNat : Int) = _
        rw [fX5_bestOpening_b9.eq_2, v7]
        exact gdg kS (iteF (by omega) rfl))
  rw [← ht]
  exact e
set_option maxHeartbeats 200000 in
/-- the class's table of gains -/
theorem xShG {h : Hp} {X S A : Nat} {c : Nat → Int} (H : XS h X) (v : SV h S c) (so : SO X S) (w : WF c) (hA : A = flA c) :
    ∃ t : Hp, (On (fun b => b = X + 116) h t ∧ ∀ x, x < 256 → Sub x A → gA t (X + 116) x = shR c A x) ∧ fX5_findShelf_b8 (X + 113) S (c 0) FU h (A : Int) (A : Int) = (gd ((hK t (X + 113)).1 = 5) <| nn (gR t 324 (X + 113)) fun q3 => gd ((hK t q3).1 = 6) <| bd (fX6_clear t q3) fun h7 => fX5_findShelf_b79 (X + 113) S (c 0) FU h7 (A : Int) 0 0) := by
  have nj := w.nj
  have A8 : A < 256 := by rw [hA]; exact flA_lt w
  have key := fk (S := Hp) (T := Hp) (fun fu i u => fX5_findShelf_b8 (X + 113) S (c 0) fu u (A : Int) ((A : Int) - i)) (fun t => gd ((hK t (X + 113)).1 = 5) <| nn (gR t 324 (X + 113)) fun q3 => gd ((hK t q3).1 = 6) <| bd (fX6_clear t q3) fun h7 => fX5_findShelf_b79 (X + 113) S (c 0) FU h7 (A : Int) 0 0) (A + 1)
    (fun i u => On (fun b => b = X + 116) h u ∧ ∀ x, A < x + i → x < 256 → Sub x A → gA u (X + 116) x = shR c A x) (fun t => On (fun b => b = X + 116) h t ∧ ∀ x, x < 256 → Sub x A → gA t (X + 116) x = shR c A x) 0 h (by omega)
    ⟨On.rf h, fun x h1 h2 h3 => by
      have : x ≤ A := by
        apply Classical.byContradiction
        intro y
        -- a part of A is no greater
        have e := (Nat.and_le_right : x &&& A ≤ A)
        have e2 : x &&& A = x := by
          apply Nat.eq_of_testBit_eq
          intro k
          rw [Nat.testBit_and]
          cases q : x.testBit k with
          | false => rfl
          | true => rw [h3 k q]; rfl
        omega
      omega⟩ (by omega)
    (fun fu i u hi hI => by
      obtain ⟨p1, p2⟩ := hI
      have e5 : WE (((A - i : Nat) : Int) + (-1)) := we (by omega) (by omega)
      have Hu : XS u X := H.q (q_on p1 (fun b hb => by rw [hb]; unfold sc; omega) : QX X h u) po_X
      have vu : SV u S c := v.on p1 (fun a h1 h2 y => by unfold SO at so; omega) nj.2
      have s8 : A - i < 256 := by omega
      have ea : (A : Int) - (i : Int) = ((A - i : Nat) : Int) := by omega
      have e60 : ∀ t, fX5_findShelf_b60 (X + 113) S (c 0) (fX5_findShelf_b8 (X + 113) S (c 0) fu) t (A : Int) ((A - i : Nat) : Int) = fX5_findShelf_b8 (X + 113) S (c 0) fu t (A : Int) ((A : Int) - ((i : Int) + 1)) := fun t => by
        rw [fX5_findShelf_b60, lt_d, e5.e, show ((A - i : Nat) : Int) + (-1) = (A : Int) - ((i : Int) + 1) by omega]
      left
      by_cases sb : Sub (A - i) A
      · have z0 : anN (A - i) A = 0 := (anN_0 s8 A8).mpr sb
        have bo := xBO Hu vu w hA s8 (fun x h1 h2 h3 => p2 x (by omega) h2 h3) sb
        have k116 := Hu.k116
        refine ⟨sA u (X + 116) ((A - i : Nat) : Int) (shR c A (A - i)), ⟨p1.tr (on_sA u rfl), fun x h1 h2 h3 => ?_⟩, ?_⟩
        · have rb := shR_bd w A (A - i)
          rw [gA_sA]
          by_cases y : x = A - i
          · rw [if_pos ⟨rfl, by omega⟩, w32_id (by omega) (by omega), y]
          · rw [if_neg (fun z => y (by have := z.2; omega))]
            exact p2 x (by omega) h2 h3
        · show fX5_findShelf_b8 (X + 113) S (c 0) (fu + 1) u (A : Int) ((A : Int) - (i : Int)) = fX5_findShelf_b8 (X + 113) S (c 0) fu (sA u (X + 116) ((A - i : Nat) : Int) (shR c A (A - i))) (A : Int) ((A : Int) - ((i : Int) + 1))
          rw [fX5_findShelf_b8.eq_2, ea, anN_e s8 A8, z0]
          refine iteF (by omega) (iteT rfl (gdg (by rw [Hu.k113]) (bdg bo (nng Hu.r322 ?_))))
          by_cases eA : A - i = A
          · rw [if_pos eA]
            refine iteT rfl ?_
            unfold fX5_findShelf_b59
            have r0 : shR c A (A - i) = 0 := by
              rw [shR_eq s8]
              rcases mz_is (n := 8) (f := shV c (shR c A) A (A - i)) with z | ⟨k, z1, z2⟩
              · exact z
              · rw [← z2]
                apply shV_out
                unfold inB
                rw [eA]
                cases A.testBit k <;> rfl
            refine gdg (by rw [k116]) (gdg (by rw [k116]; show 0 ≤ _ ∧ _ < (256 : Int); omega) ?_)
            rw [lt_d, r0]
            exact e60 _
          · rw [if_neg eA]
            have sj := shJ_ok w A8 s8 sb eA
            obtain ⟨n1, n2, n3⟩ := shP_in sj.2
            have jn : shJ c A (A - i) < (c 2).toNat := by rw [hA] at n1 ⊢; exact flA_in n1
            have or8 := or2_lt s8 sj.1
            have ge := p2 (A - i ||| 2 ^ shJ c A (A - i)) (by have := or2_gt n2; omega) or8 (sb.or n1)
            have rb := shR_bd w A (A - i ||| 2 ^ shJ c A (A - i))
            have xg := xGW Hu vu w s8 (j := shJ c A (A - i)) (by omega) (by rw [ge]; omega)
            rw [ge, ← shV_in (A := A) (T := shR c A) (by unfold inB; rw [n1, n2]; rfl), n3] at xg
            refine iteF (by omega) (bdg xg ?_)
            unfold fX5_findShelf_b59
            refine gdg (by rw [k116]) (gdg (by rw [k116]; show 0 ≤ _ ∧ _ < (256 : Int); omega) ?_)
            rw [lt_d]
            exact e60 _
      · have z0 : ¬ anN (A - i) A = 0 := fun z => sb ((anN_0 s8 A8).mp z)
        refine ⟨u, ⟨p1, fun x h1 h2 h3 => ?_⟩, ?_⟩
        · by_cases y : x = A - i
          · rw [y] at h3; exact absurd h3 sb
          · exact p2 x (by omega) h2 h3
        · show fX5_findShelf_b8 (X + 113) S (c 0) (fu + 1) u (A : Int) ((A : Int) - (i : Int)) = fX5_findShelf_b8 (X + 113) S (c 0) fu u (A : Int) ((A : Int) - ((i : Int) + 1))
          rw [fX5_findShelf_b8.eq_2, ea, anN_e s8 A8]
          refine iteF (by omega) (iteF (by omega) ?_)
          exact e60 _)
    (fun fu u hI => by
      obtain ⟨p1, p2⟩ := hI
      refine ⟨u, ⟨p1, fun x h2 h3 => p2 x (by omega) h2 h3⟩, ?_⟩
      show fX5_findShelf_b8 (X + 113) S (c 0) (fu + 1) u (A : Int) ((A : Int) - ((A + 1 : Nat) : Int)) = _
      rw [fX5_findShelf_b8.eq_2]
      exact iteT (by omega) rfl)
  have e0 : (A : Int) - ((0 : Nat) : Int) = (A : Int) := by omega
  rw [e0] at key
  exact key
