/-! A JAR, both sides (written by program, see NOTES.md) -/
set_option maxHeartbeats 8000000 in
theorem tzp_jar {X S M L : Nat} {T : Nat → Int} {t : TkS} {h m : Hp} (P : tzPi X S M L T t h m) (f0 : tkF t = 0) (k1 : tkK t = 1) : tzPe X S M L T t h m (fX8_readJar h (X + 12)) (fX12_readJar m M) := by
  obtain ⟨H, K, R, G⟩ := id P
  obtain ⟨ns, nj, nS, nJ, ⟨b1, b2, b3, b4, b5, b6, b7, b8⟩, ⟨N1, N2, N3, N4, N5, N6⟩, sn, s0, jn, j0⟩ := G f0
  have k12 : (hK h (X + 12)).1 = 8 := by rw [R.1.k12]
  have kS : (hK h S).1 = 7 := by rw [R.2.2.2.1]
  have k5 : ∀ {t : TkS} {m : Hp}, tzMt M L T t m → hK m (M + 5) = (21, 1850) := fun K => K.1.1.k5
  have XS1 := R.2.2.1
  by_cases n8 : nj = 8
  · refine tz_ninth P k1 (fun h' e => ?_) (fun m' e e2 => ?_)
    · unfold fX8_readJar
      refine gdg k12 (nng R.2.1 (gdg kS (?_)))
      rw [b2]
      exact iteF (by omega) (nng R.1.r512 (gdg H.k (bdg e (rfl))))
    · have nf : ¬ tkF (tzSt t 6) = 0 := tzSt_0 (by omega)
      have hf := e2.f0
      unfold fX12_readJar
      refine gdg K.k (nng K.1.1.r788 (gdg (by rw [k5 K]) (gdg (by rw [k5 K]; show 0 ≤ _ ∧ _ < (1850 : Int); omega) (ltg (?_)))))
      show (if gA m (M + 5) 1482 = 8 then _ else _) = _
      rw [b6, K.2.2.1]
      refine iteT (by omega) (bdg e ?_)
      unfold fX12_readJar_b25
      rw [e2.2.2.2.2.1]
      exact gdg e2.k (iteT (by omega) (rfl))
  · have nj8 : nj < 8 := by omega
    obtain ⟨h1, p1, H1, e1⟩ := tzx_nt H
    have R1 := R.ft p1
    have f1 : tkF (tzNt L T t) = 0 := f0
    have s1 := tzNt_s H.ok
    have b1' : gI h1 450 S = (ns : Int) := by rw [p1.i (by omega)]; exact b1
    have b2' : gI h1 451 S = (nj : Int) := by rw [p1.i (by omega)]; exact b2
    have N1' : tzNX h1 (X + 13) (X + 14) nS ns := fun k hk => by rw [p1.a (fun z => z), p1.a (fun z => z)]; exact N1 k hk
    have N2' : tzNX h1 (X + 15) (X + 16) nJ nj := fun k hk => by rw [p1.a (fun z => z), p1.a (fun z => z)]; exact N2 k hk
    obtain ⟨m1, q1, K1, g1, w1⟩ := tzm_readNew (o := 8) (k := nj) K f0 b5 b6 b3 b4 N3 N4 N5 N6 (by omega) (by omega)
    replace w1 := tzHd_m w1
    generalize tzNt L T t = t1 at *
    obtain ⟨h2, p2, H2, e2, v2⟩ := tzx_new (k := nj) H1 R1 f1 b1' b2' b3 b4 N1' N2' N5 N6 (Or.inr ⟨rfl, rfl⟩) nj8
    replace v2 := tzHd_m v2
    have z2 := tzHd_m (@tzNw_0 L T t1 nS ns nJ nj)
    generalize tzNw L T t1 nS ns nJ nj = t2 at *
    have R2 := R1.fc (fn_fc p2 (Or.inr ⟨rfl, rfl⟩))
    obtain ⟨jc, jk⟩ := R2.2.2.2.2.2.2.2.2.2 nj nj8
    have JF := (j0 nj (by omega) nj8).1
    have E2 : ∀ f, gI h2 f (S + 5 + 3 * nj) = gI h f (S + 5 + 3 * nj) := fun f => by rw [p2.i (by omega), p1.i (by omega)]
    have i2 : gI h2 451 S = (nj : Int) := by rw [p2.i (by omega)]; exact b2'
    -- size
    obtain ⟨h3, p3, H3, e3⟩ := tzx_take (w := [115, 105, 122, 101]) H2 rfl
    have R3 := R2.ft p3
    obtain ⟨m2, q2, K2, g2⟩ := tzm_must (b := tzI T t2 [115, 105, 122, 101]) K1
    have u3 := tzHd_m (@tzMu_s L T t2 (tzI T t2 [115, 105, 122, 101]) H2.ok)
    have is2 := tzm_isSize K1
    generalize tzI T t2 [115, 105, 122, 101] = bo1 at *
    generalize tzMu L T t2 bo1 = t3 at *
    obtain ⟨h4, p4, H4, e4⟩ := tzx_num (a := 1) (b := 12) H3
    have R4 := R3.ft p4
    obtain ⟨m3, q3, K3, g3⟩ := tzm_count (a := 1) (b := 12) K2
    have d0 := tzNm_bd (L := L) (T := T) (t := t3) (a := 1) (b := 12) (by omega)
    have u4 := tzHd_m (@tzNm_s L T t3 1 12 H3.ok)
    have x0 := tzHd_m (@tzNm_0 L T t3 1 12)
    obtain ⟨⟨n0, t4⟩, hp4⟩ : ∃ p, p = tzNm L T t3 1 12 := ⟨_, rfl⟩
    rw [← hp4] at H4 e4 K3 g3 d0 u4 x0
    clear hp4
    replace d0 : n0 = 0 ∨ (1 ≤ n0 ∧ n0 ≤ 12) := d0
    have f5 : FJ X (S + 5 + 3 * nj) 0 h4 (pI h4 0 (S + 5 + 3 * nj) n0) := fj_pI h4 (by omega)
    have H5 : tzXt X L T t4 (pI h4 0 (S + 5 + 3 * nj) n0) := H4.fj (by omega)
    have R5 := R4.fc (fj_fc f5)
    have y0 : gI (pI h4 0 (S + 5 + 3 * nj) n0) 0 (S + 5 + 3 * nj) = n0 := gI_pIs (by unfold rg; omega)
    have kj4 := (R4.2.2.2.2.2.2.2.2.2 nj nj8).2
    generalize hh5 : pI h4 0 (S + 5 + 3 * nj) n0 = h5 at *
    have K4 : tzMt M L T t4 (sA m3 (M + 5) ((1620 + nj : Nat) : Int) n0) := K3.sA
    have c4 : ∀ k, gA (sA m3 (M + 5) ((1620 + nj : Nat) : Int) n0) (M + 5) k = if k = 1620 + nj then n0 else gA m3 (M + 5) k := fun k => gA_sAi (by unfold rg; omega)
    have a4 : GA M m3 (sA m3 (M + 5) ((1620 + nj : Nat) : Int) n0) := ga_sA m3 (by omega)
    generalize hm4 : sA m3 (M + 5) ((1620 + nj : Nat) : Int) n0 = m4 at *
    -- leaks
    obtain ⟨h6, p6, H6, e6⟩ := tzx_take (w := [108, 101, 97, 107, 115]) H5 rfl
    have R6 := R5.ft p6
    obtain ⟨m5, q5, K5, g5⟩ := tzm_must (b := tzI T t4 [108, 101, 97, 107, 115]) K4
    have u5 := tzHd_m (@tzMu_s L T t4 (tzI T t4 [108, 101, 97, 107, 115]) H5.ok)
    have is4 := tzm_isLeaks K4
    generalize tzI T t4 [108, 101, 97, 107, 115] = bo2 at *
    generalize tzMu L T t4 bo2 = t5 at *
    obtain ⟨h7, p7, H7, e7⟩ := tzx_num (a := 0) (b := 99) H6
    have R7 := R6.ft p7
    obtain ⟨m6, q6, K6, g6⟩ := tzm_count (a := 0) (b := 99) K5
    have d1 := tzNm_bd (L := L) (T := T) (t := t5) (a := 0) (b := 99) (by omega)
    have u6 := tzHd_m (@tzNm_s L T t5 0 99 H6.ok)
    obtain ⟨⟨n1, t6⟩, hp6⟩ : ∃ p, p = tzNm L T t5 0 99 := ⟨_, rfl⟩
    rw [← hp6] at H7 e7 K6 g6 d1 u6
    clear hp6
    replace d1 : n1 = 0 ∨ (0 ≤ n1 ∧ n1 ≤ 99) := d1
    have f8 : FJ X (S + 5 + 3 * nj) 1 h7 (pI h7 1 (S + 5 + 3 * nj) n1) := fj_pI h7 (by omega)
    have H8 : tzXt X L T t6 (pI h7 1 (S + 5 + 3 * nj) n1) := H7.fj (by omega)
    have R8 := R7.fc (fj_fc f8)
    have y1 : gI (pI h7 1 (S + 5 + 3 * nj) n1) 1 (S + 5 + 3 * nj) = n1 := gI_pIs (by unfold rg; omega)
    have kj7 := (R7.2.2.2.2.2.2.2.2.2 nj nj8).2
    generalize hh8 : pI h7 1 (S + 5 + 3 * nj) n1 = h8 at *
    have K7 : tzMt M L T t6 (sA m6 (M + 5) ((1628 + nj : Nat) : Int) n1) := K6.sA
    have c7 : ∀ k, gA (sA m6 (M + 5) ((1628 + nj : Nat) : Int) n1) (M + 5) k = if k = 1628 + nj then n1 else gA m6 (M + 5) k := fun k => gA_sAi (by unfold rg; omega)
    have a7 : GA M m6 (sA m6 (M + 5) ((1628 + nj : Nat) : Int) n1) := ga_sA m6 (by omega)
    generalize hm7 : sA m6 (M + 5) ((1628 + nj : Nat) : Int) n1 = m7 at *
    -- the side
    obtain ⟨h9, p9, H9, e9⟩ := tzx_side H8 R8
    have R9 := R8.ft p9
    obtain ⟨m8, q8, K8, g8⟩ := tzm_side (v1 := (nj : Int)) K7
    have d2 := tzSV_bd (L := L) (T := T) (t := t6)
    have u7 := tzS2_s H8.ok
    generalize tzSV L T t6 = n2 at *
    generalize tzS2 L T t6 = t7 at *
    have f10 : FJ X (S + 5 + 3 * nj) 2 h9 (pI h9 2 (S + 5 + 3 * nj) n2) := fj_pI h9 (by omega)
    have H10 : tzXt X L T t7 (pI h9 2 (S + 5 + 3 * nj) n2) := H9.fj (by omega)
    have R10 := R9.fc (fj_fc f10)
    have y2 : gI (pI h9 2 (S + 5 + 3 * nj) n2) 2 (S + 5 + 3 * nj) = n2 := gI_pIs (by unfold rg; omega)
    have kj9 := (R9.2.2.2.2.2.2.2.2.2 nj nj8).2
    have K9 : tzMt M L T t7 (sA m8 (M + 5) ((1636 + nj : Nat) : Int) n2) := K8.sA
    have c9 : ∀ k, gA (sA m8 (M + 5) ((1636 + nj : Nat) : Int) n2) (M + 5) k = if k = 1636 + nj then n2 else gA m8 (M + 5) k := fun k => gA_sAi (by unfold rg; omega)
    have a9 : GA M m8 (sA m8 (M + 5) ((1636 + nj : Nat) : Int) n2) := ga_sA m8 (by omega)
    -- costs, worth, breaks
    have E5 : ∀ f, 3 ≤ f → gI (pI h9 2 (S + 5 + 3 * nj) n2) f (S + 5 + 3 * nj) = gI h f (S + 5 + 3 * nj) := fun f hf => by
      rw [gI_n (by omega), p9.i (by omega), ← hh8, gI_n (by omega), p7.i (by omega), p6.i (by omega), ← hh5, gI_n (by omega), p4.i (by omega), p3.i (by omega), E2]
    generalize hh10 : pI h9 2 (S + 5 + 3 * nj) n2 = h10 at *
    generalize hm9 : sA m8 (M + 5) ((1636 + nj : Nat) : Int) n2 = m9 at *
    obtain ⟨h11, p11, H11, y3, R11, e11⟩ := tzx_opt (w := [99, 111, 115, 116, 115]) (wo := 0) (a := 0) (b := 99) (f := 3) (fun h6 => fX8_readJar_b144 (X + 12) h6 (S + 5 + 3 * nj)) H10 R10 (by omega) nj8 (by rw [E5 3 (by omega)]; exact JF.2.2.2.1) rfl (by omega) (by omega) (by omega)
    obtain ⟨m10, q10, K10, g10⟩ := tzm_opt (w := [99, 111, 115, 116, 115]) (wo := 0) (a := 0) (b := 99) K9
    have is9 := tzm_isCosts K9
    have d3 := tzOp_bd (L := L) (T := T) (t := t7) (w := [99, 111, 115, 116, 115]) (wo := 0) (a := 0) (b := 99) (by omega)
    have u8 := tzHd_m (@tzOp_0 L T t7 [99, 111, 115, 116, 115] 0 0 99 H10.ok)
    obtain ⟨⟨n3, t8⟩, hp8⟩ : ∃ p, p = tzOp L T t7 [99, 111, 115, 116, 115] 0 0 99 := ⟨_, rfl⟩
    rw [← hp8] at H11 y3 K10 g10 d3 u8
    clear hp8
    replace d3 : n3 = 0 ∨ n3 = 0 ∨ (0 ≤ n3 ∧ n3 ≤ 99) := d3
    replace y3 : gI h11 3 (S + 5 + 3 * nj) = n3 := y3
    have K11 : tzMt M L T t8 (sA m10 (M + 5) ((1644 + nj : Nat) : Int) n3) := K10.sA
    have c11 : ∀ k, gA (sA m10 (M + 5) ((1644 + nj : Nat) : Int) n3) (M + 5) k = if k = 1644 + nj then n3 else gA m10 (M + 5) k := fun k => gA_sAi (by unfold rg; omega)
    have a11 : GA M m10 (sA m10 (M + 5) ((1644 + nj : Nat) : Int) n3) := ga_sA m10 (by omega)
    generalize hm11 : sA m10 (M + 5) ((1644 + nj : Nat) : Int) n3 = m11 at *
    obtain ⟨h12, p12, H12, y4, R12, e12⟩ := tzx_opt (w := [119, 111, 114, 116, 104]) (wo := 1) (a := 0) (b := 99) (f := 4) (fun h6 => fX8_readJar_b170 (X + 12) h6 (S + 5 + 3 * nj)) H11 R11 (by omega) nj8 (by rw [p11.i (by omega), E5 4 (by omega)]; exact JF.2.2.2.2.1) rfl (by omega) (by omega) (by omega)
    obtain ⟨m12, q12, K12, g12⟩ := tzm_opt (w := [119, 111, 114, 116, 104]) (wo := 1) (a := 0) (b := 99) K11
    have is11 := tzm_isWorth K11
    have d4 := tzOp_bd (L := L) (T := T) (t := t8) (w := [119, 111, 114, 116, 104]) (wo := 1) (a := 0) (b := 99) (by omega)
    have u9 := tzHd_m (@tzOp_0 L T t8 [119, 111, 114, 116, 104] 1 0 99 H11.ok)
    obtain ⟨⟨n4, t9⟩, hp9⟩ : ∃ p, p = tzOp L T t8 [119, 111, 114, 116, 104] 1 0 99 := ⟨_, rfl⟩
    rw [← hp9] at H12 y4 K12 g12 d4 u9
    clear hp9
    replace d4 : n4 = 1 ∨ n4 = 0 ∨ (0 ≤ n4 ∧ n4 ≤ 99) := d4
    replace y4 : gI h12 4 (S + 5 + 3 * nj) = n4 := y4
    have K13 : tzMt M L T t9 (sA m12 (M + 5) ((1652 + nj : Nat) : Int) n4) := K12.sA
    have c13 : ∀ k, gA (sA m12 (M + 5) ((1652 + nj : Nat) : Int) n4) (M + 5) k = if k = 1652 + nj then n4 else gA m12 (M + 5) k := fun k => gA_sAi (by unfold rg; omega)
    have a13 : GA M m12 (sA m12 (M + 5) ((1652 + nj : Nat) : Int) n4) := ga_sA m12 (by omega)
    generalize hm13 : sA m12 (M + 5) ((1652 + nj : Nat) : Int) n4 = m13 at *
    obtain ⟨h13, p13, H13, y5, R13, e13⟩ := tzx_opt (w := [98, 114, 101, 97, 107, 115]) (wo := 0) (a := 0) (b := 15) (f := 5) (fun h6 => fX8_readJar_b196 (X + 12) h6) H12 R12 (by omega) nj8 (by rw [p12.i (by omega), p11.i (by omega), E5 5 (by omega)]; exact JF.2.2.2.2.2.1) rfl (by omega) (by omega) (by omega)
    obtain ⟨m14, q14, K14, g14⟩ := tzm_opt (w := [98, 114, 101, 97, 107, 115]) (wo := 0) (a := 0) (b := 15) K13
    have is13 := tzm_isBreaks K13
    have d5 := tzOp_bd (L := L) (T := T) (t := t9) (w := [98, 114, 101, 97, 107, 115]) (wo := 0) (a := 0) (b := 15) (by omega)
    have u10 := tzHd_m (@tzOp_0 L T t9 [98, 114, 101, 97, 107, 115] 0 0 15 H12.ok)
    obtain ⟨⟨n5, t10⟩, hp10⟩ : ∃ p, p = tzOp L T t9 [98, 114, 101, 97, 107, 115] 0 0 15 := ⟨_, rfl⟩
    rw [← hp10] at H13 y5 K14 g14 d5 u10
    clear hp10
    replace d5 : n5 = 0 ∨ n5 = 0 ∨ (0 ≤ n5 ∧ n5 ≤ 15) := d5
    replace y5 : gI h13 5 (S + 5 + 3 * nj) = n5 := y5
    have K15 : tzMt M L T t10 (sA m14 (M + 5) ((1660 + nj : Nat) : Int) n5) := K14.sA
    have c15 : ∀ k, gA (sA m14 (M + 5) ((1660 + nj : Nat) : Int) n5) (M + 5) k = if k = 1660 + nj then n5 else gA m14 (M + 5) k := fun k => gA_sAi (by unfold rg; omega)
    have a15 : GA M m14 (sA m14 (M + 5) ((1660 + nj : Nat) : Int) n5) := ga_sA m14 (by omega)
    generalize hm15 : sA m14 (M + 5) ((1660 + nj : Nat) : Int) n5 = m15 at *
    -- the sign, the count
    obtain ⟨h14, p14, H14, e14⟩ := tzx_sign H13
    have R14 := R13.ft p14
    have i14 : gI h14 451 S = (nj : Int) := by
      rw [p14.i (by omega), p13.i (by omega), p12.i (by omega), p11.i (by omega), ← hh10, gI_n (by omega), p9.i (by omega), ← hh8, gI_n (by omega), p7.i (by omega), p6.i (by omega), ← hh5, gI_n (by omega), p4.i (by omega), p3.i (by omega)]
      exact i2
    have ew : WE ((nj : Int) + 1) := we (by omega) (by omega)
    have f15 : Fr (fun f a => a = S ∧ f = 451) (fun _ => False) h14 (pI h14 451 S ((nj : Int) + 1)) := fr_pI h14 ⟨rfl, rfl⟩
    have f15' : FC X S h14 (pI h14 451 S ((nj : Int) + 1)) := f15.mono (fun f x w => Or.inr (by omega)) (fun _ v => v.elim)
    have x451 : gI (pI h14 451 S ((nj : Int) + 1)) 451 S = ((nj + 1 : Nat) : Int) := by rw [gI_pIs (by unfold rg; omega)]; omega
    have gJ1 : FJ X (S + 5 + 3 * nj) 1 h5 h14 := (((((((ft_fj p6).tr (ft_fj p7)).tr f8).tr (ft_fj p9)).tr (fj_le f10 (by omega))).tr (fo_fj p11 (by omega) (by omega))).tr (fo_fj p12 (by omega) (by omega))).tr ((fo_fj p13 (by omega) (by omega)).tr (ft_fj p14))
    have gJ2 : FJ X (S + 5 + 3 * nj) 2 h8 h14 := ((((ft_fj p9).tr f10).tr (fo_fj p11 (by omega) (by omega))).tr (fo_fj p12 (by omega) (by omega))).tr ((fo_fj p13 (by omega) (by omega)).tr (ft_fj p14))
    have gJ3 : FJ X (S + 5 + 3 * nj) 3 h10 h14 := ((fo_fj p11 (by omega) (by omega)).tr (fo_fj p12 (by omega) (by omega))).tr ((fo_fj p13 (by omega) (by omega)).tr (ft_fj p14))
    have gJ4 : FJ X (S + 5 + 3 * nj) 4 h11 h14 := (fo_fj p12 (by omega) (by omega)).tr ((fo_fj p13 (by omega) (by omega)).tr (ft_fj p14))
    have gJ5 : FJ X (S + 5 + 3 * nj) 5 h12 h14 := (fo_fj p13 (by omega) (by omega)).tr (ft_fj p14)
    have gJ0 : FJ X (S + 5 + 3 * nj) 0 h2 h14 := (((ft_fj p3).tr (ft_fj p4)).tr f5).tr (fj_le gJ1 (by omega))
    have fall : FC X S h (pI h14 451 S ((nj : Int) + 1)) := (((ft_fc p1).tr (fn_fc p2 (Or.inr ⟨rfl, rfl⟩))).tr (fj_fc gJ0)).tr f15'
    have gall : GK M m m15 := (gn_gk q1).tr ((((((gt_ga q2).tr (gt_ga q3)).tr a4).tr (((gt_ga q5).tr (gt_ga q6)).tr a7)).tr (((gt_ga q8).tr a9).tr (((gt_ga q10).tr a11).tr (((gt_ga q12).tr a13).tr ((gt_ga q14).tr a15))))).k)
    have ecl : fX8_readJar h (X + 12) = some (pI h14 451 S ((nj : Int) + 1)) := by
      unfold fX8_readJar
      refine gdg k12 (nng R.2.1 (gdg kS (?_)))
      rw [b2]
      refine iteT (by omega) (nng R.1.r512 (gdg H.k (bdg e1 (gdg (by rw [R1.1.k12]) (nng R1.1.r515 (nng R1.1.r516 (nng R1.2.1 (gdg (by rw [R1.2.2.2.1]) (?_)))))))))
      rw [b2']
      refine bdg e2 (gdg (by rw [R2.1.k12]) (nng R2.2.1 (gdg (by rw [R2.2.2.2.1]) (nng R2.2.2.2.2.2.1 (gdg (by rw [R2.2.2.2.2.2.2.2.1]) (?_))))))
      rw [i2]
      refine gdg (by rw [R2.2.2.2.2.2.2.2.1]; show 0 ≤ _ ∧ _ < ((8 : Nat) : Int); omega) (nng (by rw [Int.toNat_natCast]; exact jc) (nng R2.1.r512 (gdg H2.k (bdg e3 (gdg (by rw [R3.1.k12]) (nng R3.1.r512 (gdg H3.k (bd2g e4 (gdg (by rw [kj4]) (ltg (?_)))))))))))
      rw [hh5]
      refine gdg (by rw [R5.1.k12]) (nng R5.1.r512 (gdg H5.k (bdg e6 (gdg (by rw [R6.1.k12]) (nng R6.1.r512 (gdg H6.k (bd2g e7 (gdg (by rw [kj7]) (ltg (?_))))))))))
      rw [hh8]
      refine gdg (by rw [R8.1.k12]) (bd2g e9 (gdg (by rw [kj9]) (ltg (?_))))
      rw [hh10]
      refine gdg (by rw [R10.1.k12]) (nng R10.1.r512 (gdg H10.k (?_)))
      refine Eq.trans e11 ?_
      show fX8_readJar_b144 (X + 12) h11 (S + 5 + 3 * nj) = _
      unfold fX8_readJar_b144
      refine gdg (by rw [R11.1.k12]) (nng R11.1.r512 (gdg H11.k (?_)))
      refine Eq.trans e12 ?_
      show fX8_readJar_b170 (X + 12) h12 (S + 5 + 3 * nj) = _
      unfold fX8_readJar_b170
      refine gdg (by rw [R12.1.k12]) (nng R12.1.r512 (gdg H12.k (?_)))
      refine Eq.trans e13 ?_
      show fX8_readJar_b196 (X + 12) h13 = _
      unfold fX8_readJar_b196
      refine gdg (by rw [R13.1.k12]) (nng R13.1.r512 (gdg H13.k (bdg e14 (gdg (by rw [R14.1.k12]) (nng R14.2.1 (gdg (by rw [R14.2.2.2.1]) (?_)))))))
      rw [i14, ew.e]
      rfl
    have erf : fX12_readJar m M = fX12_readJar_b173 M m8 (nj : Int) n2 ((1636 + nj : Nat) : Int) (M + 5) := by
      unfold fX12_readJar
      refine gdg K.k (nng K.1.1.r788 (gdg (by rw [k5 K]) (gdg (by rw [k5 K]; show 0 ≤ _ ∧ _ < (1850 : Int); omega) (ltg (?_)))))
      show (if gA m (M + 5) 1482 = 8 then _ else fX12_readJar_b25 M m (gA m (M + 5) 1482)) = _
      rw [b6]
      refine iteF (by omega) ?_
      unfold fX12_readJar_b25
      rw [K.2.2.2.2.1, show w32 (1620 + (nj : Int)) = ((1620 + nj : Nat) : Int) by rw [w32_id (by omega) (by omega)]; omega, show w32 (1628 + (nj : Int)) = ((1628 + nj : Nat) : Int) by rw [w32_id (by omega) (by omega)]; omega]
      refine gdg K.k (iteF (by omega) (bdg g1 (gdg K1.k (bdg is2 (bdg g2 (gdg K2.k (nng K2.1.1.r788 (bd2g g3 (gdg (by rw [k5 K3]) (gdg (by rw [k5 K3]; show 0 ≤ _ ∧ _ < (1850 : Int); omega) (ltg (?_))))))))))))
      rw [hm4]
      refine gdg K4.k (bdg is4 (bdg g5 (gdg K5.k (nng K5.1.1.r788 (bd2g g6 (gdg (by rw [k5 K6]) (gdg (by rw [k5 K6]; show 0 ≤ _ ∧ _ < (1850 : Int); omega) (ltg (?_)))))))))
      rw [hm7]
      refine gdg K7.k (g8.trans ?_)
      rw [show w32 (1636 + (nj : Int)) = ((1636 + nj : Nat) : Int) by rw [w32_id (by omega) (by omega)]; omega]
    have e173 : fX12_readJar_b173 M m8 (nj : Int) n2 ((1636 + nj : Nat) : Int) (M + 5) = if tkF t10 = 0 then some (sA m15 (M + 5) ((1482 : Nat) : Int) (w32 (gA m15 (M + 5) 1482 + 1))) else some m15 := by
      unfold fX12_readJar_b173
      rw [show w32 (1644 + (nj : Int)) = ((1644 + nj : Nat) : Int) by rw [w32_id (by omega) (by omega)]; omega, show w32 (1652 + (nj : Int)) = ((1652 + nj : Nat) : Int) by rw [w32_id (by omega) (by omega)]; omega, show w32 (1660 + (nj : Int)) = ((1660 + nj : Nat) : Int) by rw [w32_id (by omega) (by omega)]; omega]
      refine gdg (by rw [k5 K8]) (gdg (by rw [k5 K8]; show 0 ≤ _ ∧ _ < (1850 : Int); omega) (ltg (?_)))
      rw [hm9]
      refine gdg K9.k (nng K9.1.1.r788 (bdg is9 (bd2g g10 (gdg (by rw [k5 K10]) (gdg (by rw [k5 K10]; show 0 ≤ _ ∧ _ < (1850 : Int); omega) (ltg (?_)))))))
      rw [hm11]
      refine gdg K11.k (nng K11.1.1.r788 (bdg is11 (bd2g g12 (gdg (by rw [k5 K12]) (gdg (by rw [k5 K12]; show 0 ≤ _ ∧ _ < (1850 : Int); omega) (ltg (?_)))))))
      rw [hm13]
      refine gdg K13.k (nng K13.1.1.r788 (bdg is13 (bd2g g14 (gdg (by rw [k5 K14]) (gdg (by rw [k5 K14]; show 0 ≤ _ ∧ _ < (1850 : Int); omega) (ltg (?_)))))))
      rw [hm15]
      rw [K15.2.2.2.2.1]
      refine gdg K15.k ?_
      by_cases z : tkF t10 = 0
      · rw [if_pos z, if_pos z]
        refine nng K15.1.1.r788 (gdg (by rw [k5 K15]) (gdg (by rw [k5 K15]; show 0 ≤ _ ∧ _ < (1850 : Int); omega) (gdg (by rw [k5 K15]; show 0 ≤ _ ∧ _ < (1850 : Int); omega) (?_))))
        rfl
      · rw [if_neg z, if_neg z]
    have R15 := R14.fc f15'
    have D : ∀ k, gA m15 (M + 5) k = if k = 1660 + nj then n5 else if k = 1652 + nj then n4 else if k = 1644 + nj then n3 else if k = 1636 + nj then n2 else if k = 1628 + nj then n1 else if k = 1620 + nj then n0 else gA m (M + 5) k := fun k => by
      rw [c15, q14.a (fun z => z), c13, q12.a (fun z => z), c11, q10.a (fun z => z), c9, q8.a (fun z => z), c7, q6.a (fun z => z), q5.a (fun z => z), c4, q3.a (fun z => z), q2.a (fun z => z), q1.a (by omega)]
    have D6 : ∀ i, gB m15 (M + 6) i = gB m1 (M + 6) i := fun i => by
      rw [a15.b, q14.b (fun z => z), a13.b, q12.b (fun z => z), a11.b, q10.b (fun z => z), a9.b, q8.b (fun z => z), a7.b, q6.b (fun z => z), q5.b (fun z => z), a4.b, q3.b (fun z => z), q2.b (fun z => z)]
    have E : ∀ f a, a ≠ X + 10 → ¬ (a = S ∧ f = 451) → ¬ (a = S + 5 + 3 * nj ∧ f ≤ 5) → gI (pI h14 451 S ((nj : Int) + 1)) f a = gI h f a := fun f a a1 a2 a3 => by
      rw [f15.i a2, gJ0.i (by omega), p2.i (by omega), p1.i (by omega)]
    have EA : ∀ a i, gA (pI h14 451 S ((nj : Int) + 1)) a i = gA h2 a i := fun a i => by
      rw [f15.a (fun z => z), gJ0.a (fun z => z)]
    have Y : gI h14 0 (S + 5 + 3 * nj) = n0 ∧ gI h14 1 (S + 5 + 3 * nj) = n1 ∧ gI h14 2 (S + 5 + 3 * nj) = n2 ∧ gI h14 3 (S + 5 + 3 * nj) = n3 ∧ gI h14 4 (S + 5 + 3 * nj) = n4 ∧ gI h14 5 (S + 5 + 3 * nj) = n5 :=
      ⟨by rw [gJ1.i (by omega)]; exact y0, by rw [gJ2.i (by omega)]; exact y1, by rw [gJ3.i (by omega)]; exact y2, by rw [gJ4.i (by omega)]; exact y3, by rw [gJ5.i (by omega)]; exact y4, by rw [p14.i (by omega)]; exact y5⟩
    clear e1 e2 e3 e4 e6 e7 e9 e11 e12 e13 e14 g1 g2 g3 g5 g6 g8 g10 g12 g14 is2 is4 is9 is11 is13
    have H15 : tzXt X L T (tzMu L T t10 (decide (tkK t10 = 3))) (pI h14 451 S ((nj : Int) + 1)) := H14.fr f15 (fun f _ _ => by omega) (fun z => z)
    by_cases z : tkF t10 = 0
    · have e16 : w32 (gA m15 (M + 5) 1482 + 1) = (nj : Int) + 1 := by
        rw [D, if_neg (by omega), if_neg (by omega), if_neg (by omega), if_neg (by omega), if_neg (by omega), if_neg (by omega), b6]
        exact ew.e
      rw [if_pos z, e16] at e173
      clear e16
      have K16 : tzMt M L T t10 (sA m15 (M + 5) ((1482 : Nat) : Int) ((nj : Int) + 1)) := K15.sA
      have c16 : ∀ k, gA (sA m15 (M + 5) ((1482 : Nat) : Int) ((nj : Int) + 1)) (M + 5) k = if k = 1482 then (nj : Int) + 1 else gA m15 (M + 5) k := fun k => gA_sAi (by unfold rg; omega)
      have a16 : GA M m15 (sA m15 (M + 5) ((1482 : Nat) : Int) ((nj : Int) + 1)) := ga_sA m15 (by omega)
      generalize sA m15 (M + 5) ((1482 : Nat) : Int) ((nj : Int) + 1) = m16 at *
      obtain ⟨m17, q17, K17, g17⟩ := tzm_sign K16
      have u11 := tzHd_m (@tzMu_s L T t10 (decide (tkK t10 = 3)) H13.ok)
      generalize tzMu L T t10 (decide (tkK t10 = 3)) = t11 at *
      refine ⟨_, m16, m17, t11, fall, (gall.tr a16.k).tr (gt_gk q17), ecl, erf.trans e173, K16.k, g17, ⟨H15, K17, R15, fun y => ?_⟩, fun y => ?_⟩
      · have y9 := (u10 z).1
        have y8 := (u9 y9).1
        have y7 := (u8 y8).1
        have y6 : tkF t6 = 0 := u7.1.symm.trans y7
        have y5' := (u6 y6).1
        have y4' := (u5 y5').1
        have X0 := x0 y4'
        have y3' := (u4 y4').1
        have y2' := (u3 y3').1
        obtain ⟨-, zn, -, ze2⟩ := z2 y2'
        obtain ⟨zk1, zl1⟩ := tzNa_1 zn
        have o1 := H1.ok
        have V2 := v2 y2'
        have W1 := w1 y2'
        clear u3 u4 u5 u6 u8 u9 u10 u11 v2 w1 z2 x0 ecl erf e173 g17 G P d0
        have X0' : 1 ≤ n0 ∧ n0 ≤ 12 := ⟨X0.2.1, X0.2.2.1⟩
        clear X0
        have D' : ∀ k, gA m17 (M + 5) k = if k = 1482 then (nj : Int) + 1 else gA m15 (M + 5) k := fun k => by
          rw [q17.a (fun z => z), c16]
        have D0 : ∀ k, k ≠ 1482 → k ≠ 1660 + nj → k ≠ 1652 + nj → k ≠ 1644 + nj → k ≠ 1636 + nj → k ≠ 1628 + nj → k ≠ 1620 + nj → gA m17 (M + 5) k = gA m (M + 5) k := fun k a0 a1 a2 a3 a4 a5 a6 => by
          rw [D', if_neg a0, D, if_neg a1, if_neg a2, if_neg a3, if_neg a4, if_neg a5, if_neg a6]
        have B6 : ∀ i, gB m17 (M + 6) i = gB m1 (M + 6) i := fun i => by rw [q17.b (fun z => z), a16.b, D6]
        refine ⟨ns, nj + 1, nS, tzAd nJ nj (tkS t1, tkE t1 - tkS t1), ⟨?_, x451, b3, by omega, ?_, ?_, ?_, ?_⟩, ⟨?_, ?_, ?_, ?_, N5, ?_⟩, ?_, ?_, ?_, ?_⟩
        · rw [E _ _ (by omega) (by omega) (by omega)]; exact b1
        · rw [D0 _ (by omega) (by omega) (by omega) (by omega) (by omega) (by omega) (by omega)]; exact b5
        · rw [D', if_pos rfl]; omega
        · rw [D0 _ (by omega) (by omega) (by omega) (by omega) (by omega) (by omega) (by omega)]; exact b7
        · rw [D0 _ (by omega) (by omega) (by omega) (by omega) (by omega) (by omega) (by omega)]; exact b8
        · intro k hk
          rw [EA, EA, p2.a (by omega), p2.a (by omega)]
          exact N1' k hk
        · intro k hk
          rw [EA, EA]
          by_cases y : k = nj
          · rw [y, tzAd_s]
            exact ⟨V2.1, V2.2.1⟩
          · rw [tzAd_n y, (V2.2.2 k y).1, (V2.2.2 k y).2]
            exact N2' k (by omega)
        · intro k hk
          rw [B6, W1.2 _ (by omega)]
          exact N3 k hk
        · intro k hk
          rw [B6]
          by_cases y : k = nj
          · rw [y, tzAd_s]
            exact W1.1
          · rw [tzAd_n y, W1.2 _ (by omega)]
            exact N4 k (by omega)
        · intro k hk
          by_cases y : k = nj
          · rw [y, tzAd_s]
            have oa := o1.1
            have ob := o1.2.1
            exact ⟨show tkS t1 + (tkE t1 - tkS t1) ≤ L by omega, zl1, fun i hi => o1.2.2.2.2.2.1 zk1 (tkS t1 + i) (by omega) (by have : i < tkE t1 - tkS t1 := hi; omega)⟩
          · rw [tzAd_n y]
            exact N6 k (by omega)
        · intro s hs
          refine (sn s hs).cg (E _ _ (by omega) (by omega) (by omega)) (fun k => ?_) (D0 _ (by omega) (by omega) (by omega) (by omega) (by omega) (by omega) (by omega)) (fun k hk => D0 _ (by omega) (by omega) (by omega) (by omega) (by omega) (by omega) (by omega))
          rw [EA, p2.a (by omega), p1.a (fun z => z)]
        · intro s h1 h2
          show gA m17 (M + 5) (1480 + (4 + s)) = 0
          rw [D0 _ (by omega) (by omega) (by omega) (by omega) (by omega) (by omega) (by omega)]
          exact s0 s h1 h2
        · intro j hj
          by_cases y : j = nj
          · subst y
            have e0 : tzD M m17 (140 + j) = n0 := by
              show gA m17 (M + 5) (1480 + (140 + j)) = _
              rw [D', if_neg (by omega), D, if_neg (by omega), if_neg (by omega), if_neg (by omega), if_neg (by omega), if_neg (by omega), if_pos (by omega)]
            have e1 : tzD M m17 (148 + j) = n1 := by
              show gA m17 (M + 5) (1480 + (148 + j)) = _
              rw [D', if_neg (by omega), D, if_neg (by omega), if_neg (by omega), if_neg (by omega), if_neg (by omega), if_pos (by omega)]
            have e2 : tzD M m17 (156 + j) = n2 := by
              show gA m17 (M + 5) (1480 + (156 + j)) = _
              rw [D', if_neg (by omega), D, if_neg (by omega), if_neg (by omega), if_neg (by omega), if_pos (by omega)]
            have e3 : tzD M m17 (164 + j) = n3 := by
              show gA m17 (M + 5) (1480 + (164 + j)) = _
              rw [D', if_neg (by omega), D, if_neg (by omega), if_neg (by omega), if_pos (by omega)]
            have e4 : tzD M m17 (172 + j) = n4 := by
              show gA m17 (M + 5) (1480 + (172 + j)) = _
              rw [D', if_neg (by omega), D, if_neg (by omega), if_pos (by omega)]
            have e5 : tzD M m17 (180 + j) = n5 := by
              show gA m17 (M + 5) (1480 + (180 + j)) = _
              rw [D', if_neg (by omega), D, if_pos (by omega)]
            obtain ⟨-, c0⟩ := j0 j (by omega) (by omega)
            have e6 : tzD M m17 (188 + j) = 0 := (D0 _ (by omega) (by omega) (by omega) (by omega) (by omega) (by omega) (by omega)).trans c0.2.2.2.2.2.2.1
            have e7 : tzD M m17 (196 + j) = 0 := (D0 _ (by omega) (by omega) (by omega) (by omega) (by omega) (by omega) (by omega)).trans c0.2.2.2.2.2.2.2.1
            have e8 : tzD M m17 (204 + j) = 0 := (D0 _ (by omega) (by omega) (by omega) (by omega) (by omega) (by omega) (by omega)).trans c0.2.2.2.2.2.2.2.2
            have e9 : gI (pI h14 451 S ((j : Int) + 1)) 9 (S + 5 + 3 * j) = 0 := by rw [E _ _ (by omega) (by omega) (by omega)]; exact JF.2.2.2.2.2.2.2.2.2
            unfold tzJN tzJF tzJW tzJH
            rw [e0, e1, e2, e3, e4, e5, e6, e7, e8, e9]
            refine ⟨⟨?_, ?_, ?_, ?_, ?_, ?_, ?_, ?_, ?_⟩, ⟨by omega, by omega, by omega, by omega, by omega, by omega, by omega, by omega, by omega⟩, by omega, fun _ => rfl, fun w => absurd w (by omega), fun k hk => absurd hk (by omega)⟩
            · rw [f15.i (by omega)]; exact Y.1
            · rw [f15.i (by omega)]; exact Y.2.1
            · rw [f15.i (by omega)]; exact Y.2.2.1
            · rw [f15.i (by omega)]; exact Y.2.2.2.1
            · rw [f15.i (by omega)]; exact Y.2.2.2.2.1
            · rw [f15.i (by omega)]; exact Y.2.2.2.2.2
            · rw [E _ _ (by omega) (by omega) (by omega)]; exact JF.2.2.2.2.2.2.1
            · rw [E _ _ (by omega) (by omega) (by omega)]; exact JF.2.2.2.2.2.2.2.1
            · rw [E _ _ (by omega) (by omega) (by omega)]; exact JF.2.2.2.2.2.2.2.2.1
          · refine (jn j (by omega)).cg b3 (Nat.le_refl _) (fun f hf => E _ _ (by omega) (by omega) (by omega)) ⟨D0 _ (by omega) (by omega) (by omega) (by omega) (by omega) (by omega) (by omega), D0 _ (by omega) (by omega) (by omega) (by omega) (by omega) (by omega) (by omega), D0 _ (by omega) (by omega) (by omega) (by omega) (by omega) (by omega) (by omega), D0 _ (by omega) (by omega) (by omega) (by omega) (by omega) (by omega) (by omega), D0 _ (by omega) (by omega) (by omega) (by omega) (by omega) (by omega) (by omega), D0 _ (by omega) (by omega) (by omega) (by omega) (by omega) (by omega) (by omega), D0 _ (by omega) (by omega) (by omega) (by omega) (by omega) (by omega) (by omega), D0 _ (by omega) (by omega) (by omega) (by omega) (by omega) (by omega) (by omega), D0 _ (by omega) (by omega) (by omega) (by omega) (by omega) (by omega) (by omega)⟩ (fun k hk => D0 _ (by omega) (by omega) (by omega) (by omega) (by omega) (by omega) (by omega)) (fun s hs => ⟨D0 _ (by omega) (by omega) (by omega) (by omega) (by omega) (by omega) (by omega), (sn s (by omega)).2.1.2, fun k hk => D0 _ (by omega) (by omega) (by omega) (by omega) (by omega) (by omega) (by omega)⟩)
        · intro j hj h8
          exact (j0 j (by omega) h8).cg (fun f hf => E _ _ (by omega) (by omega) (by omega)) ⟨D0 _ (by omega) (by omega) (by omega) (by omega) (by omega) (by omega) (by omega), D0 _ (by omega) (by omega) (by omega) (by omega) (by omega) (by omega) (by omega), D0 _ (by omega) (by omega) (by omega) (by omega) (by omega) (by omega) (by omega), D0 _ (by omega) (by omega) (by omega) (by omega) (by omega) (by omega) (by omega), D0 _ (by omega) (by omega) (by omega) (by omega) (by omega) (by omega) (by omega), D0 _ (by omega) (by omega) (by omega) (by omega) (by omega) (by omega) (by omega), D0 _ (by omega) (by omega) (by omega) (by omega) (by omega) (by omega) (by omega), D0 _ (by omega) (by omega) (by omega) (by omega) (by omega) (by omega) (by omega), D0 _ (by omega) (by omega) (by omega) (by omega) (by omega) (by omega) (by omega)⟩
      · have y10 := u11 y
        have y9 := u10 y10.1
        have y8 := u9 y9.1
        have y7 := u8 y8.1
        have y6 : tkF t6 = 0 := u7.1.symm.trans y7.1
        have y5' := u6 y6
        have y4' := u5 y5'.1
        have y3' := u4 y4'.1
        have y2' := u3 y3'.1
        have a0 := H.ok.2.2.2.2.1 (by rw [k1]; decide)
        have a2 := H1.ok.1
        have a3 := tzNt_s H1.ok
        rw [← (z2 y2'.1).2.2.2] at a3
        have u72 := u7.2
        have y21 := y2'.2
        have y31 := y3'.2
        have y41 := y4'.2
        have y51 := y5'.2
        have y71 := y7.2
        have y81 := y8.2
        have y91 := y9.2
        have y101 := y10.2
        clear y10 y9 y8 y7 y6 y5' y4' y3' y2' u7 d0 d1 d2 d3 d4 d5
        exact Nat.lt_of_lt_of_le a0 (Nat.le_trans s1 (Nat.le_trans a2 (Nat.le_trans a3 (Nat.le_trans y21 (Nat.le_trans y31 (Nat.le_trans y41 (Nat.le_trans y51 (Nat.le_trans u72 (Nat.le_trans y71 (Nat.le_trans y81 (Nat.le_trans y91 y101)))))))))))
    · rw [if_neg z] at e173
      obtain ⟨m17, q17, K17, g17⟩ := tzm_sign K15
      rw [tzMu_n z] at H15 K17
      exact ⟨_, m15, m17, t10, fall, gall.tr (gt_gk q17), ecl, erf.trans e173, K15.k, g17, ⟨H15, K17, R15, fun y => absurd y z⟩, fun y => absurd y z⟩
