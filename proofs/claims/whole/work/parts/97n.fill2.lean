/-! A FILL, both sides -/
set_option maxHeartbeats 4000000 in
theorem tzp_fill {X S M L : Nat} {T : Nat → Int} {t : TkS} {h m : Hp} (P : tzPi X S M L T t h m) (f0 : tkF t = 0) (k1 : tkK t = 1) : tzPe X S M L T t h m (fX8_readFill h (X + 12)) (fX12_readFill m M) := by
  obtain ⟨H, K, R, G⟩ := id P
  obtain ⟨ns, nj, nS, nJ, ⟨b1, b2, b3, b4, b5, b6, b7, b8⟩, ⟨N1, N2, N3, N4, N5, N6⟩, sn, s0, jn, j0⟩ := G f0
  have k12 : (hK h (X + 12)).1 = 8 := by rw [R.1.k12]
  have k5 : ∀ {t : TkS} {m : Hp}, tzMt M L T t m → hK m (M + 5) = (21, 1850) := fun K => K.1.1.k5
  have XS1 := R.2.2.1
  have a0 := H.ok.2.2.2.2.1 (by rw [k1]; decide)
  clear P G
  obtain ⟨h1, p1, H1, e1⟩ := tzx_nt H
  have R1 := R.ft p1
  have f1 : tkF (tzNt L T t) = 0 := f0
  have s1 := tzNt_s H.ok
  obtain ⟨m1, q1, K1, g1⟩ := tzm_nt K
  generalize tzNt L T t = t1 at *
  have N2' : tzNX h1 (X + 15) (X + 16) nJ nj := fun k hk => by rw [p1.a (fun z => z), p1.a (fun z => z)]; exact N2 k hk
  obtain ⟨h2, p2, H2, e2⟩ := tzx_told (a4 := 1) H1 R1 b4 N2' N6 R1.1.k15 R1.1.k16 (Or.inr rfl)
  have R2 := R1.ft p2
  have N4' : tzNM M T m1 8 nJ nj := fun k hk => by rw [q1.b (fun z => z)]; exact N4 k hk
  obtain ⟨m2, q2, K2, g2⟩ := tzm_told (o := 8) K1 (by omega) b4 N4' N6
  have x2 := @tzRt_to L T t1 nJ nj (tzFl h1 S 1)
  have x2b := @tzRt_bd T t1 nJ nj
  have y2 := tzHd_m (@tzTo_0 L T t1 nJ nj (tzFl h1 S 1))
  have y2b := @tzTo_bd L T t1 nJ nj (tzFl h1 S 1)
  obtain ⟨⟨r1, t2⟩, hp2⟩ : ∃ p, p = tzTo L T t1 nJ nj (tzFl h1 S 1) := ⟨_, rfl⟩
  rw [← hp2] at H2 e2 x2 y2b
  replace H2 : tzXt X L T t2 h2 := H2
  have fl : ∀ j : Nat, j < nj → tzFl h1 S 1 j = decide (0 < gA m2 (M + 5) (1668 + j)) := fun j hj => by
    have c := (jn j hj).1.2.2.2.2.2.2.1
    have w := (jn j hj).2.1.2.2.2.2.2.2.1.1
    have e0 : gA m2 (M + 5) (1668 + j) = tzD M m (188 + j) := by
      rw [q2.a (fun z => z), q1.a (fun z => z)]
      show _ = gA m (M + 5) (1480 + (188 + j))
      rw [show 1480 + (188 + j) = 1668 + j by omega]
    unfold tzFl
    rw [p1.i (by omega), c, e0, decide_eq_true (rfl : (1 : Int) = 1), Bool.true_and]
    generalize tzD M m (188 + j) = v at *
    by_cases y : v = 0
    · rw [decide_eq_false (fun z => z y), decide_eq_false (by omega)]
    · rw [decide_eq_true y, decide_eq_true (by omega)]
  -- filled already
  have st3 : ∃ m3, GT M m2 m3 ∧ tzMt M L T (if tkF (tzRt T t1 nJ nj).2 = 0 ∧ tzFl h1 S 1 (tzRt T t1 nJ nj).1.toNat = true then tzSt (tzRt T t1 nJ nj).2 5 else (tzRt T t1 nJ nj).2) m3 ∧ (gd ((hK m2 M).1 = 12) <| if gI m2 780 M = 0 then (nn (gR m2 788 M) fun q14 => gd ((hK m2 q14).1 = 21) <| gd (inA (w32 (1668 + (tzRt T t1 nJ nj).1)) (hK m2 q14).2) <| if 0 < gA m2 q14 (w32 (1668 + (tzRt T t1 nJ nj).1)).toNat then (bd (fX12_fail m2 M 5 (gI m2 783 M)) fun h20 => fX12_readFill_b48 M h20 (tzRt T t1 nJ nj).1) else fX12_readFill_b48 M m2 (tzRt T t1 nJ nj).1) else fX12_readFill_b48 M m2 (tzRt T t1 nJ nj).1) = fX12_readFill_b48 M m3 (tzRt T t1 nJ nj).1 := by
    obtain ⟨⟨v, t2a⟩, hp⟩ : ∃ p, p = tzRt T t1 nJ nj := ⟨_, rfl⟩
    have kk : tkK t2a = 4 → ¬ tkF t2a = 0 := fun z4 z0 => by
      have zz : tkF (tzRt T t1 nJ nj).2 = 0 := by rw [← hp]; exact z0
      have e4 : tkK (tzRt T t1 nJ nj).2 = 4 := by rw [← hp]; exact z4
      unfold tzRt at zz e4
      by_cases w0 : tkF t1 = 0
      · rw [if_pos w0] at zz e4
        cases w1 : tzNa T t1 with
        | true =>
          rw [w1, if_pos (rfl : true = true)] at zz e4
          by_cases w2 : tzFn T t1 nJ nj = -1
          · rw [if_pos w2] at zz
            exact tzSt_0 (by omega) zz
          · rw [if_neg w2] at e4
            have := (tzNa_1 w1).1
            have e4' : tkK t1 = 4 := e4
            omega
        | false =>
          rw [w1, if_neg Bool.false_ne_true] at zz
          exact tzSt_0 (by omega) zz
      · exact w0 f1
    rw [← hp] at K2 x2b ⊢
    replace K2 : tzMt M L T t2a m2 := K2
    rw [K2.2.2.2.2.1, K2.2.2.1]
    show ∃ m3, GT M m2 m3 ∧ tzMt M L T (if tkF t2a = 0 ∧ tzFl h1 S 1 v.toNat = true then tzSt t2a 5 else t2a) m3 ∧ (gd ((hK m2 M).1 = 12) <| if tkF t2a = 0 then (nn (gR m2 788 M) fun q14 => gd ((hK m2 q14).1 = 21) <| gd (inA (w32 (1668 + v)) (hK m2 q14).2) <| if 0 < gA m2 q14 (w32 (1668 + v)).toNat then (bd (fX12_fail m2 M 5 (tkS t2a : Int)) fun h20 => fX12_readFill_b48 M h20 v) else fX12_readFill_b48 M m2 v) else fX12_readFill_b48 M m2 v) = fX12_readFill_b48 M m3 v
    by_cases z : tkF t2a = 0
    · obtain ⟨v0, v1⟩ := x2b.1 z
      obtain ⟨vn, hv⟩ := i2n v0
      replace hv : v = (vn : Int) := hv
      subst hv
      have vn8 : vn < nj := by
        have : ((vn : Int)) < (nj : Int) := v1
        omega
      have ew : WE (1668 + (vn : Int)) := we (by omega) (by omega)
      have ef := fl vn vn8
      rw [ew.e, show (1668 + (vn : Int)).toNat = 1668 + vn by omega, Int.toNat_natCast, ef]
      by_cases y : 0 < gA m2 (M + 5) (1668 + vn)
      · rw [if_pos ⟨z, decide_eq_true y⟩]
        obtain ⟨m3, r1', r2', r3'⟩ := tzm_fail (r := 5) K2 (by omega) (fun w => kk w z)
        exact ⟨m3, r1', r2', gdg K2.k (iteT z (nng K2.1.1.r788 (gdg (by rw [k5 K2]) (gdg (by rw [k5 K2]; show 0 ≤ _ ∧ _ < (1850 : Int); omega) (iteT y (bdg r3' (rfl)))))))⟩
      · rw [if_neg (fun w => y (of_decide_eq_true w.2))]
        exact ⟨m2, Fr.rf m2, K2, gdg K2.k (iteT z (nng K2.1.1.r788 (gdg (by rw [k5 K2]) (gdg (by rw [k5 K2]; show 0 ≤ _ ∧ _ < (1850 : Int); omega) (iteF y (rfl))))))⟩
    · rw [if_neg (fun w => z w.1)]
      exact ⟨m2, Fr.rf m2, K2, gdg K2.k (iteF z (rfl))⟩
  obtain ⟨m3, q3, K3, g3⟩ := st3
  obtain ⟨m4, q4, K4, g4⟩ := tzm_must (b := true) K3
  rw [x2.1] at K4
  replace K4 : tzMt M L T t2 m4 := K4
  have x2v := tzHd_m x2.2
  generalize (tzRt T t1 nJ nj).1 = kv1 at *
  clear x2 x2b K2 K3 fl
  replace y2b : r1 = -1 ∧ ¬ tkF t2 = 0 ∨ (0 ≤ r1 ∧ r1 < (nj : Int)) := y2b
  replace x2v : tkF t2 = 0 → kv1 = r1 := x2v
  -- of
  obtain ⟨h3, p3, H3, e3⟩ := tzx_take (w := [111, 102]) H2 rfl
  have R3 := R2.ft p3
  obtain ⟨m5, q5, K5, g5⟩ := tzm_must (b := tzI T t2 [111, 102]) K4
  have is4 := tzm_isOf K4
  have u3 := tzHd_m (@tzMu_s L T t2 (tzI T t2 [111, 102]) H2.ok)
  generalize tzI T t2 [111, 102] = bo1 at *
  generalize tzMu L T t2 bo1 = t3 at *
  -- the sound
  have N1' : tzNX h3 (X + 13) (X + 14) nS ns := fun k hk => by rw [p3.a (fun z => z), p3.a (fun z => z), p2.a (fun z => z), p2.a (fun z => z), p1.a (fun z => z), p1.a (fun z => z)]; exact N1 k hk
  have q15 := ((((q1.tr q2).tr q3).tr q4).tr q5)
  have N3' : tzNM M T m5 0 nS ns := fun k hk => by rw [q15.b (fun z => z)]; exact N3 k hk
  have c5 : gA m5 (M + 5) 1481 = (ns : Int) := by rw [q15.a (fun z => z)]; exact b5
  have i3 : gI h3 450 S = (ns : Int) := by rw [p3.i (by omega), p2.i (by omega), p1.i (by omega)]; exact b1
  have i1 : gI h1 451 S = (nj : Int) := by rw [p1.i (by omega)]; exact b2
  have c1 : gA m1 (M + 5) 1482 = (nj : Int) := by rw [q1.a (fun z => z)]; exact b6
  obtain ⟨h4, p4, H4, e4⟩ := tzx_told (a4 := 0) H3 R3 b3 N1' N5 R3.1.k13 R3.1.k14 (Or.inl rfl)
  have R4 := R3.ft p4
  obtain ⟨m6, q6, K6, g6⟩ := tzm_told (o := 0) K5 (by omega) b3 N3' N5
  have x4 := @tzRt_to L T t3 nS ns (tzFl h3 S 0)
  rw [tzFl_0, if_neg (fun w => by cases w.2)] at x4
  have y4 := tzHd_m (@tzTo_0 L T t3 nS ns (tzFl h3 S 0))
  have y4b := @tzTo_bd L T t3 nS ns (tzFl h3 S 0)
  obtain ⟨⟨r2, t4⟩, hp4⟩ : ∃ p, p = tzTo L T t3 nS ns (tzFl h3 S 0) := ⟨_, rfl⟩
  rw [← hp4] at H4 e4 x4 y4b
  replace H4 : tzXt X L T t4 h4 := H4
  obtain ⟨m7, q7, K7, g7⟩ := tzm_must (b := true) K6
  rw [x4.1] at K7
  replace K7 : tzMt M L T t4 m7 := K7
  have x4v : tkF t4 = 0 → (tzRt T t3 nS ns).1 = r2 := x4.2
  have k6k := K6.k
  generalize (tzRt T t3 nS ns).1 = kv2 at *
  clear x4 K6
  replace y4b : r2 = -1 ∧ ¬ tkF t4 = 0 ∨ (0 ≤ r2 ∧ r2 < (ns : Int)) := y4b
  -- from
  obtain ⟨h5, p5, H5, e5⟩ := tzx_take (w := [102, 114, 111, 109]) H4 rfl
  have R5 := R4.ft p5
  obtain ⟨m8, q8, K8, g8⟩ := tzm_must (b := tzI T t4 [102, 114, 111, 109]) K7
  have is7 := tzm_isFrom K7
  have u5 := tzHd_m (@tzMu_s L T t4 (tzI T t4 [102, 114, 111, 109]) H4.ok)
  generalize tzI T t4 [102, 114, 111, 109] = bo2 at *
  generalize tzMu L T t4 bo2 = t5 at *
  have p15 := ((((p1.tr p2).tr p3).tr p4).tr p5)
  have q18 := (((q15.tr q6).tr q7).tr q8)
  -- the code up to the numbers
  have ecl : ∀ x, (if r2 = (-1) then fX8_readFill_b88 (X + 12) h5 r1 r2 0 else gd ((hK h5 (X + 12)).1 = 8) <| nn (gR h5 517 (X + 12)) fun q37 => gd ((hK h5 q37).1 = 7) <| nn (gR h5 448 q37) fun q39 => gd ((hK h5 q39).1 = 26) <| gd (inA r2 (hK h5 q39).2) <| nn (gC h5 q39 r2.toNat) fun q42 => gd ((hK h5 q42).1 = 6) <| fX8_readFill_b88 (X + 12) h5 r1 r2 (gI h5 386 q42)) = x → fX8_readFill h (X + 12) = x := fun x hx => by
    unfold fX8_readFill
    refine gdg k12 (nng R.1.r512 (gdg H.k (bdg e1 (gdg (by rw [R1.1.k12]) (nng R1.1.r515 (nng R1.1.r516 (nng R1.2.1 (gdg (by rw [R1.2.2.2.1]) (?_)))))))))
    rw [i1]
    refine bd2g e2 (gdg (by rw [R2.1.k12]) (nng R2.1.r512 (gdg H2.k (bdg e3 (gdg (by rw [R3.1.k12]) (nng R3.1.r513 (nng R3.1.r514 (nng R3.2.1 (gdg (by rw [R3.2.2.2.1]) (?_))))))))))
    rw [i3]
    exact bd2g e4 (gdg (by rw [R4.1.k12]) (nng R4.1.r512 (gdg H4.k (bdg e5 (hx)))))
  have erf : ∀ x, (if gI m8 780 M = 0 then nn (gR m8 788 M) fun q30 => gd ((hK m8 q30).1 = 21) <| gd (inA (w32 (1484 + kv2)) (hK m8 q30).2) <| fX12_readFill_b113 M m8 kv1 kv2 (w32 (gA m8 q30 (w32 (1484 + kv2)).toNat - 1)) 0 M else fX12_readFill_b113 M m8 kv1 kv2 0 0 M) = x → fX12_readFill m M = x := fun x hx => by
    unfold fX12_readFill
    refine gdg K.k (bdg g1 (gdg K1.k (nng K1.1.1.r788 (gdg (by rw [k5 K1]) (gdg (by rw [k5 K1]; show 0 ≤ _ ∧ _ < (1850 : Int); omega) (?_))))))
    show (bd2 (fX12_readTold m1 M 8 (gA m1 (M + 5) 1482)) _) = _
    rw [c1]
    refine bd2g g2 (g3.trans ?_)
    unfold fX12_readFill_b48
    refine gdg (by rw [← K4.k, q4.k]) (bdg g4 (gdg K4.k (bdg is4 (bdg g5 (gdg K5.k (nng K5.1.1.r788 (gdg (by rw [k5 K5]) (gdg (by rw [k5 K5]; show 0 ≤ _ ∧ _ < (1850 : Int); omega) (?_)))))))))
    show (bd2 (fX12_readTold m5 M 0 (gA m5 (M + 5) 1481)) _) = _
    rw [c5]
    exact bd2g g6 (gdg k6k (bdg g7 (gdg K7.k (bdg is7 (bdg g8 (gdg K8.k (hx)))))))
  clear e1 e2 e3 e4 e5 g1 g2 g3 g4 g5 g6 g7 g8 is4 is7
  by_cases z5 : tkF t5 = 0
  · have z4 := (u5 z5).1
    have z3' := y4 (by rw [← hp4]; exact z4)
    have z3 := z3'.1
    have z2 := (u3 z3).1
    have z1' := y2 (by rw [← hp2]; exact z2)
    have et2 : t2 = tzNt L T t1 := by rw [← hp2] at z1'; exact congrArg Prod.snd z1'.2.2.2.2
    have et4 : t4 = tzNt L T t3 := by rw [← hp4] at z3'; exact congrArg Prod.snd z3'.2.2.2.2
    have l2 := tzNt_s H1.ok
    rw [← et2] at l2
    have l4 := tzNt_s H3.ok
    rw [← et4] at l4
    have l3 := (u3 z3).2
    have l5 := (u5 z5).2
    clear z1' z3' et2 et4 hp2 hp4 y2 y4 u3 u5
    have ek1 := x2v z2
    have ek2 := x4v z4
    subst ek1
    subst ek2
    clear x2v x4v
    obtain ⟨ja, rfl⟩ := i2n (show 0 ≤ kv1 by omega)
    obtain ⟨sa, rfl⟩ := i2n (show 0 ≤ kv2 by omega)
    have ja8 : ja < nj := by omega
    have sa8 : sa < ns := by omega
    clear y2b y4b
    have S1 := sn sa (by omega)
    have J1 := jn ja ja8
    obtain ⟨ln, hln⟩ := i2n S1.2.1.1
    have ln16 : ln ≤ 16 := by have := S1.2.1.2; omega
    have iln : gI h5 386 (S + 3 + 3 * sa) = (ln : Int) := by rw [p15.i (by omega), S1.1]; exact hln
    have cln : gA m8 (M + 5) (1484 + sa) = (ln : Int) := by
      rw [q18.a (fun z => z), ← hln]
      show _ = gA m (M + 5) (1480 + (4 + sa))
      rw [show 1480 + (4 + sa) = 1484 + sa by omega]
    have isz : gI h5 0 (S + 5 + 3 * ja) = tzD M m (140 + ja) := by rw [p15.i (by omega)]; exact J1.1.1
    have csz : gA m8 (M + 5) (1620 + ja) = tzD M m (140 + ja) := by
      rw [q18.a (fun z => z)]
      show _ = gA m (M + 5) (1480 + (140 + ja))
      rw [show 1480 + (140 + ja) = 1620 + ja by omega]
    have bsz := J1.2.1.1
    obtain ⟨h9, t6, t7, t8, t9, fr, dy, hp, ht7, hp8, ht9, ff, H9, ec, vx⟩ := tzx_f88 (ja := ja) (sa := sa) (ln := ln) H5 R5 z5 (by omega) ln16 (by rw [isz]; omega) (by omega)
    obtain ⟨m9, a9, K9, g9, vm⟩ := tzm_f113 (ja := ja) (sa := sa) (ln := ln) K8 (by omega) (by omega) ln16 cln (by rw [csz]; omega) hp ht7 hp8
    obtain ⟨m10, q10, K10, g10⟩ := tzm_sign K9
    rw [← ht9] at K10
    obtain ⟨c1, c2, c3, c4, c5'⟩ := R5.2.2.2.2.2.2.2.2.1 sa (by omega)
    have k26 := R5.2.2.2.2.2.2.1
    have ffc : FC X S h5 h9 := ff.mono (fun f x w => by omega) (fun _ v => v.elim)
    have w1 : WE (1484 + (sa : Int)) := we (by omega) (by omega)
    have w2 : WE ((ln : Int) - 1) := we (by omega) (by omega)
    have o6 : tzOk L T t6 := by have := tzNm_ok (a := 0) (b := (ln : Int) - 1) H5.ok; rw [← hp] at this; exact this
    have o7 : tzOk L T t7 := by rw [ht7]; exact tzMu_ok o6
    have o8 : tzOk L T t8 := by have := tzNm_ok (a := 0) (b := 999) o7; rw [← hp8] at this; exact this
    have u9 : tzHd (tkF t9 = 0 → tkF t8 = 0 ∧ tkS t8 ≤ tkS t9) := by rw [ht9]; exact tzMu_s o8
    have u8 : tzHd (tkF t8 = 0 → tkF t7 = 0 ∧ tkS t7 ≤ tkS t8) := by have := @tzNm_s L T t7 0 999 o7; rw [← hp8] at this; exact this
    have u7 : tzHd (tkF t7 = 0 → tkF t6 = 0 ∧ tkS t6 ≤ tkS t7) := by rw [ht7]; exact tzMu_s o6
    have u6 : tzHd (tkF t6 = 0 → tkF t5 = 0 ∧ tkS t5 ≤ tkS t6) := by have := @tzNm_s L T t5 0 ((ln : Int) - 1) H5.ok; rw [← hp] at this; exact this
    have d6 : tzHd (tkF t6 = 0 → 0 ≤ fr ∧ fr ≤ (ln : Int) - 1) := by
      have := @tzNm_0 L T t5 0 ((ln : Int) - 1)
      rw [← hp] at this
      exact fun z => ⟨(this z).2.1, (this z).2.2.1⟩
    have d8 : dy = 0 ∨ (0 ≤ dy ∧ dy ≤ 999) := by
      have := tzNm_bd (L := L) (T := T) (t := t7) (a := 0) (b := 999) (by omega)
      rw [← hp8] at this
      exact this
    clear hp ht7 hp8 ht9
    refine ⟨h9, m9, m10, t9, (ft_fc p15).tr ffc, ((gt_gk q18).tr a9.k).tr (gt_gk q10), ecl _ ?_, erf _ ?_, K9.k, g10, ⟨H9, K10, R5.fc ffc, fun y9 => ?_⟩, fun y9 => ?_⟩
    · refine iteF (by omega) (gdg (by rw [R5.1.k12]) (nng R5.2.1 (gdg (by rw [R5.2.2.2.1]) (nng R5.2.2.2.2.1 (gdg (by rw [k26]) (gdg (by rw [k26]; show 0 ≤ _ ∧ _ < ((8 : Nat) : Int); omega) (nng (by rw [Int.toNat_natCast]; exact c1) (gdg c2 (?_)))))))))
      rw [iln]
      exact ec
    · rw [K8.2.2.2.2.1, w1.e, show (1484 + (sa : Int)).toNat = 1484 + sa by omega]
      refine iteT z5 (nng K8.1.1.r788 (gdg (by rw [k5 K8]) (gdg (by rw [k5 K8]; show 0 ≤ _ ∧ _ < (1850 : Int); omega) (?_))))
      rw [cln, w2.e]
      exact g9
    · have y8 := (u9 y9).1
      have y7 := (u8 y8).1
      have y6 := (u7 y7).1
      have bfr := d6 y6
      obtain ⟨x8, x9, x6, x7⟩ := vx y9
      obtain ⟨mn, fn, efr, emn, sum, D1⟩ := vm y8
      clear u6 u7 u8 u9 d6 vx vm ecl erf ec g9 g10
      rw [csz] at emn
      rw [isz] at x6
      subst efr
      have D : ∀ k, gA m10 (M + 5) k = if 1692 + 12 * ja ≤ k ∧ k < 1692 + 12 * ja + mn then gA m (M + 5) (1492 + 16 * sa + fn + (k - (1692 + 12 * ja))) else if k = 1684 + ja then (sa : Int) else if k = 1676 + ja then dy else if k = 1668 + ja then (mn : Int) else gA m (M + 5) k := fun k => by
        rw [q10.a (fun z => z), D1, q18.a (fun z => z), q18.a (fun z => z)]
      have mn12 : mn ≤ 12 := by omega
      have D0 : ∀ k, (k < 1692 + 12 * ja ∨ 1704 + 12 * ja ≤ k) → k ≠ 1684 + ja → k ≠ 1676 + ja → k ≠ 1668 + ja → gA m10 (M + 5) k = gA m (M + 5) k := fun k a1 a2 a3 a4 => by
        rw [D, if_neg (by omega), if_neg a2, if_neg a3, if_neg a4]
      have E : ∀ f a, a ≠ X + 10 → ¬ (a = S + 5 + 3 * ja ∧ 6 ≤ f ∧ f ≤ 9) → gI h9 f a = gI h f a := fun f a a1 a2 => by rw [ff.i (by omega), p15.i (by omega)]
      have EA : ∀ a i, gA h9 a i = gA h a i := fun a i => by rw [ff.a (fun z => z), p15.a (fun z => z)]
      have B6 : ∀ i, gB m10 (M + 6) i = gB m (M + 6) i := fun i => by rw [q10.b (fun z => z), a9.b, q18.b (fun z => z)]
      refine ⟨ns, nj, nS, nJ, ⟨?_, ?_, b3, b4, ?_, ?_, ?_, ?_⟩, ⟨?_, ?_, ?_, ?_, N5, N6⟩, ?_, ?_, ?_, ?_⟩
      · rw [E _ _ (by omega) (by omega)]; exact b1
      · rw [E _ _ (by omega) (by omega)]; exact b2
      · rw [D0 _ (by omega) (by omega) (by omega) (by omega)]; exact b5
      · rw [D0 _ (by omega) (by omega) (by omega) (by omega)]; exact b6
      · rw [D0 _ (by omega) (by omega) (by omega) (by omega)]; exact b7
      · rw [D0 _ (by omega) (by omega) (by omega) (by omega)]; exact b8
      · intro k hk; rw [EA, EA]; exact N1 k hk
      · intro k hk; rw [EA, EA]; exact N2 k hk
      · intro k hk; rw [B6]; exact N3 k hk
      · intro k hk; rw [B6]; exact N4 k hk
      · intro s hs
        exact (sn s hs).cg (E _ _ (by omega) (by omega)) (fun k => EA _ _) (D0 _ (by omega) (by omega) (by omega) (by omega)) (fun k hk => D0 _ (by omega) (by omega) (by omega) (by omega))
      · intro s v1 v2
        show gA m10 (M + 5) (1480 + (4 + s)) = 0
        rw [D0 _ (by omega) (by omega) (by omega) (by omega)]
        exact s0 s v1 v2
      · intro j hj
        by_cases y : j = ja
        · subst y
          have e6 : tzD M m10 (188 + j) = (mn : Int) := by
            show gA m10 (M + 5) (1480 + (188 + j)) = _
            rw [D, if_neg (by omega), if_neg (by omega), if_neg (by omega), if_pos (by omega)]
          have e7 : tzD M m10 (196 + j) = dy := by
            show gA m10 (M + 5) (1480 + (196 + j)) = _
            rw [D, if_neg (by omega), if_neg (by omega), if_pos (by omega)]
          have e8 : tzD M m10 (204 + j) = (sa : Int) := by
            show gA m10 (M + 5) (1480 + (204 + j)) = _
            rw [D, if_neg (by omega), if_pos (by omega)]
          have r0 : tzD M m10 (140 + j) = tzD M m (140 + j) := D0 _ (by omega) (by omega) (by omega) (by omega)
          have r1 : tzD M m10 (148 + j) = tzD M m (148 + j) := D0 _ (by omega) (by omega) (by omega) (by omega)
          have r2 : tzD M m10 (156 + j) = tzD M m (156 + j) := D0 _ (by omega) (by omega) (by omega) (by omega)
          have r3 : tzD M m10 (164 + j) = tzD M m (164 + j) := D0 _ (by omega) (by omega) (by omega) (by omega)
          have r4 : tzD M m10 (172 + j) = tzD M m (172 + j) := D0 _ (by omega) (by omega) (by omega) (by omega)
          have r5 : tzD M m10 (180 + j) = tzD M m (180 + j) := D0 _ (by omega) (by omega) (by omega) (by omega)
          have r9 : tzD M m10 (4 + sa) = tzD M m (4 + sa) := D0 _ (by omega) (by omega) (by omega) (by omega)
          obtain ⟨F1, W1, -⟩ := J1
          unfold tzJN tzJF tzJW tzJH
          rw [e6, e7, e8, x9, r0, r1, r2, r3, r4, r5, Int.toNat_natCast, r9, Int.toNat_natCast]
          refine ⟨⟨?_, ?_, ?_, ?_, ?_, ?_, ?_, x7, x8⟩, ⟨W1.1, W1.2.1, W1.2.2.1, W1.2.2.2.1, W1.2.2.2.2.1, W1.2.2.2.2.2.1, by omega, by omega, by omega⟩, by omega, fun w => by omega, fun _ => ⟨by omega, by omega⟩, fun k hk => ?_⟩
          · rw [E _ _ (by omega) (by omega)]; exact F1.1
          · rw [E _ _ (by omega) (by omega)]; exact F1.2.1
          · rw [E _ _ (by omega) (by omega)]; exact F1.2.2.1
          · rw [E _ _ (by omega) (by omega)]; exact F1.2.2.2.1
          · rw [E _ _ (by omega) (by omega)]; exact F1.2.2.2.2.1
          · rw [E _ _ (by omega) (by omega)]; exact F1.2.2.2.2.2.1
          · rw [x6]; omega
          · show gA m10 (M + 5) (1480 + (12 + 16 * sa + (fn + k))) = gA m10 (M + 5) (1480 + (212 + 12 * j + k))
            rw [D0 _ (by omega) (by omega) (by omega) (by omega), D, if_pos (by omega), show 1492 + 16 * sa + fn + (1480 + (212 + 12 * j + k) - (1692 + 12 * j)) = 1480 + (12 + 16 * sa + (fn + k)) by omega]
        · exact (jn j hj).cg b3 (Nat.le_refl _) (fun f hf => E _ _ (by omega) (by omega)) ⟨D0 _ (by omega) (by omega) (by omega) (by omega), D0 _ (by omega) (by omega) (by omega) (by omega), D0 _ (by omega) (by omega) (by omega) (by omega), D0 _ (by omega) (by omega) (by omega) (by omega), D0 _ (by omega) (by omega) (by omega) (by omega), D0 _ (by omega) (by omega) (by omega) (by omega), D0 _ (by omega) (by omega) (by omega) (by omega), D0 _ (by omega) (by omega) (by omega) (by omega), D0 _ (by omega) (by omega) (by omega) (by omega)⟩ (fun k hk => D0 _ (by omega) (by omega) (by omega) (by omega)) (fun s hs => ⟨D0 _ (by omega) (by omega) (by omega) (by omega), (sn s (by omega)).2.1.2, fun k hk => D0 _ (by omega) (by omega) (by omega) (by omega)⟩)
      · intro j hj v8
        exact (j0 j hj v8).cg (fun f hf => E _ _ (by omega) (by omega)) ⟨D0 _ (by omega) (by omega) (by omega) (by omega), D0 _ (by omega) (by omega) (by omega) (by omega), D0 _ (by omega) (by omega) (by omega) (by omega), D0 _ (by omega) (by omega) (by omega) (by omega), D0 _ (by omega) (by omega) (by omega) (by omega), D0 _ (by omega) (by omega) (by omega) (by omega), D0 _ (by omega) (by omega) (by omega) (by omega), D0 _ (by omega) (by omega) (by omega) (by omega), D0 _ (by omega) (by omega) (by omega) (by omega)⟩
    · have v9 := u9 y9
      have v8 := u8 v9.1
      have v7 := u7 v8.1
      have v6 := u6 v7.1
      have o1 := H1.ok.1
      have o3 := H3.ok.1
      exact Nat.lt_of_lt_of_le a0 (Nat.le_trans s1 (Nat.le_trans o1 (Nat.le_trans l2 (Nat.le_trans l3 (Nat.le_trans o3 (Nat.le_trans l4 (Nat.le_trans l5 (Nat.le_trans v6.2 (Nat.le_trans v7.2 (Nat.le_trans v8.2 v9.2))))))))))
  · -- behind a fault
    clear hp2 hp4 y2 y4 u3 u5 x2v x4v
    have cl : ∃ h', FT X h5 h' ∧ tzXt X L T t5 h' ∧ (if r2 = (-1) then fX8_readFill_b88 (X + 12) h5 r1 r2 0 else gd ((hK h5 (X + 12)).1 = 8) <| nn (gR h5 517 (X + 12)) fun q37 => gd ((hK h5 q37).1 = 7) <| nn (gR h5 448 q37) fun q39 => gd ((hK h5 q39).1 = 26) <| gd (inA r2 (hK h5 q39).2) <| nn (gC h5 q39 r2.toNat) fun q42 => gd ((hK h5 q42).1 = 6) <| fX8_readFill_b88 (X + 12) h5 r1 r2 (gI h5 386 q42)) = some h' := by
      by_cases w : r2 = -1
      · obtain ⟨h', r1', r2', r3'⟩ := tzx_f88n (v1 := r1) (v2 := r2) (s0 := 0) H5 R5 z5
        exact ⟨h', r1', r2', iteT w r3'⟩
      · obtain ⟨c1, c2, c3, c4, c5'⟩ := R5.2.2.2.2.2.2.2.2.1 r2.toNat (by omega)
        have k26 := R5.2.2.2.2.2.2.1
        obtain ⟨h', r1', r2', r3'⟩ := tzx_f88n (v1 := r1) (v2 := r2) (s0 := gI h5 386 (S + 3 + 3 * r2.toNat)) H5 R5 z5
        exact ⟨h', r1', r2', iteF w (gdg (by rw [R5.1.k12]) (nng R5.2.1 (gdg (by rw [R5.2.2.2.1]) (nng R5.2.2.2.2.1 (gdg (by rw [k26]) (gdg (by rw [k26]; show 0 ≤ _ ∧ _ < ((8 : Nat) : Int); omega) (nng c1 (gdg c2 (r3')))))))))⟩
    obtain ⟨h9, p9, H9, ec⟩ := cl
    obtain ⟨m9, q9, K9, g9⟩ := tzm_f113n (v1 := kv1) (v2 := kv2) (s0 := 0) K8 z5
    obtain ⟨m10, q10, K10, g10⟩ := tzm_sign K9
    rw [tzMu_n z5] at K10
    refine ⟨h9, m9, m10, t5, (ft_fc p15).tr (ft_fc p9), ((gt_gk q18).tr (gt_gk q9)).tr (gt_gk q10), ecl _ ec, erf _ ?_, K9.k, g10, ⟨H9, K10, R5.ft p9, fun y => absurd y z5⟩, fun y => absurd y z5⟩
    rw [K8.2.2.2.2.1]
    exact iteF z5 g9
