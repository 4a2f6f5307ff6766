/-! CHAINS, in the class: followers, the table, the order -/
def lkS (c : Nat → Int) (n : Int) (j : Nat) : Nat := bs (c 2).toNat (fun k => !(k == j) && decide (n ≤ lapS c (j : Int) (k : Int)))
def alA (c : Nat → Int) : Nat := 2 ^ (c 2).toNat - 1
set_option maxHeartbeats 200000 in
theorem alA_tb {c : Nat → Int} (j : Nat) : (alA c).testBit j = decide (j < (c 2).toNat) := by
  unfold alA
  rw [← bs_all, bs_tb, Bool.and_true]
set_option maxHeartbeats 200000 in
theorem alA_lt {c : Nat → Int} (w : WF c) : alA c < 256 := by
  have := pw8 w
  unfold alA
  omega
set_option maxHeartbeats 200000 in
theorem lkS_ok {c : Nat → Int} (w : WF c) (n : Int) (j : Nat) : lkS c n j < 256 ∧ Sub (lkS c n j) (alA c) := by
  have hj := w.nj
  refine ⟨Nat.lt_of_lt_of_le (bs_lt _ _) (show 2 ^ (c 2).toNat ≤ 2 ^ 8 from Nat.pow_le_pow_right (by omega) (by omega)), fun k hk => ?_⟩
  unfold lkS at hk
  rw [bs_tb, Bool.and_eq_true] at hk
  rw [alA_tb]; exact hk.1
set_option maxHeartbeats 200000 in
theorem lkS_tb {c : Nat → Int} {n : Int} {j k : Nat} : (lkS c n j).testBit k = (decide (k < (c 2).toNat) && (!(k == j) && decide (n ≤ lapS c (j : Int) (k : Int)))) := by unfold lkS; rw [bs_tb]
set_option maxHeartbeats 200000 in
theorem xFol {h : Hp} {X j : Nat} {c : Nat → Int} {n : Int} (H : CX h X c) (q : okJ c (j : Int)) :
    ∃ t : Hp × Int, (QX X h t.1 ∧ CX t.1 X c ∧ t.2 = ((lkS c n j : Nat) : Int) ∧ ∀ l, gA t.1 (X + 114) l = gA h (X + 114) l) ∧ fX11_followers h X (j : Int) n = some (t.2, t.1) := by
  have w := H.wf
  have nj := w.nj
  have j8 := nj_lt w q
  obtain ⟨h0, g1, g2, g3, g4, g5, g6⟩ := H.hearV q
  have key := fk (S := Hp × Int) (T := Hp × Int) (fun fu i u => fX11_followers_b12 X (j : Int) n fu u.1 (X + 81 + 2 * ((j : Int)).toNat) u.2 i) (fun t => some (t.2, t.1)) (c 2).toNat
    (fun i u => (QX X h u.1 ∧ CX u.1 X c ∧ VW u.1 X c (j : Int) ∧ ∀ l, gA u.1 (X + 114) l = gA h (X + 114) l) ∧ u.2 = ((bs i (fun k => !(k == j) && decide (n ≤ lapS c (j : Int) (k : Int))) : Nat) : Int)) (fun t => QX X h t.1 ∧ CX t.1 X c ∧ t.2 = ((lkS c n j : Nat) : Int) ∧ ∀ l, gA t.1 (X + 114) l = gA h (X + 114) l) 0 (h0, 0) (by omega) ⟨⟨g2, g3, g4, fun l => g6.a (by omega)⟩, rfl⟩ (by omega)
    (fun fu i u hi hI => by
      obtain ⟨u, v⟩ := u
      obtain ⟨⟨p1, p2, p3, p5⟩, p4⟩ := hI
      have p1 : QX X h u := p1
      have p2 : CX u X c := p2
      have p3 : VW u X c (j : Int) := p3
      have p4 : v = ((bs i (fun k => !(k == j) && decide (n ≤ lapS c (j : Int) (k : Int))) : Nat) : Int) := p4
      have e5 : WE ((i : Int) + 1) := we (by omega) (by omega)
      obtain ⟨S, f1, f2, f3, f4, f5, f6⟩ := p2.shop
      have e53 : ∀ t a, fX11_followers_b53 X (j : Int) n (fX11_followers_b12 X (j : Int) n fu) t (X + 81 + 2 * ((j : Int)).toNat) a (i : Int) = fX11_followers_b12 X (j : Int) n fu t (X + 81 + 2 * ((j : Int)).toNat) a ((i : Int) + 1) := fun t a => by rw [fX11_followers_b53, lt_d, e5.e]
      left
      by_cases e : i = j
      · refine ⟨(u, v), ⟨⟨p1, p2, p3, p5⟩, ?_⟩, ?_⟩
        · show v = _
          rw [p4, bs_no (p := fun k => !(k == j) && decide (n ≤ lapS c (j : Int) (k : Int))) (by simp [e])]
        · show fX11_followers_b12 X (j : Int) n (fu + 1) u (X + 81 + 2 * ((j : Int)).toNat) v (i : Int) = fX11_followers_b12 X (j : Int) n fu u (X + 81 + 2 * ((j : Int)).toNat) v ((i : Int) + 1)
          rw [fX11_followers_b12.eq_2]
          refine gdg p2.k (nng f1 (gdg f2 (iteT (by omega) (iteT (by omega) ?_))))
          exact e53 _ _
      · obtain ⟨u', k1, k2, k3, k4, k5, k6⟩ := p2.hearV (k := (i : Int)) ⟨by omega, by omega⟩
        have va := k5 (j : Int) q.1 j8 p3
        have p6 : ∀ l, gA u' (X + 114) l = gA h (X + 114) l := fun l => (k6.a (by omega)).trans (p5 l)
        have ov := xLap va.v k4.v
        have eo : lapR (hN c (j : Int)) (hL c (j : Int)) (hN c (i : Int)) (hL c (i : Int)) = lapS c (j : Int) (i : Int) := rfl
        rw [eo] at ov
        by_cases y : lapS c (j : Int) (i : Int) < n
        · refine ⟨(u', v), ⟨⟨p1.tr k2, k3, va, p6⟩, ?_⟩, ?_⟩
          · show v = _
            rw [p4, bs_no (p := fun k => !(k == j) && decide (n ≤ lapS c (j : Int) (k : Int))) (by
              show (!(i == j) && decide (n ≤ lapS c (j : Int) (i : Int))) = false
              rw [decide_eq_false (by omega), Bool.and_false])]
          · show fX11_followers_b12 X (j : Int) n (fu + 1) u (X + 81 + 2 * ((j : Int)).toNat) v (i : Int) = fX11_followers_b12 X (j : Int) n fu u' (X + 81 + 2 * ((j : Int)).toNat) v ((i : Int) + 1)
            rw [fX11_followers_b12.eq_2]
            refine gdg p2.k (nng f1 (gdg f2 (iteT (by omega) (iteF (by omega) (bd2g k1 (gdg va.k (bdg ov (iteT y ?_))))))))
            exact e53 _ _
        · refine ⟨(u', ((bs (i + 1) (fun k => !(k == j) && decide (n ≤ lapS c (j : Int) (k : Int))) : Nat) : Int)), ⟨⟨p1.tr k2, k3, va, p6⟩, rfl⟩, ?_⟩
          show fX11_followers_b12 X (j : Int) n (fu + 1) u (X + 81 + 2 * ((j : Int)).toNat) v (i : Int) = fX11_followers_b12 X (j : Int) n fu u' (X + 81 + 2 * ((j : Int)).toNat) _ ((i : Int) + 1)
          rw [fX11_followers_b12.eq_2, p4]
          refine gdg p2.k (nng f1 (gdg f2 (iteT (by omega) (iteF (by omega) (bd2g k1 (gdg va.k (bdg ov (iteF y ?_))))))))
          rw [lt_d, bor_set (p := fun k => !(k == j) && decide (n ≤ lapS c (j : Int) (k : Int))) (by omega) (by
            show (!(i == j) && decide (n ≤ lapS c (j : Int) (i : Int))) = true
            rw [decide_eq_true (by omega), Bool.and_true, beq_eq_false_iff_ne.mpr e]; rfl)]
          exact e53 _ _)
    (fun fu u hI => by
      obtain ⟨u, v⟩ := u
      obtain ⟨⟨p1, p2, p3, p5⟩, p4⟩ := hI
      have p2 : CX u X c := p2
      obtain ⟨S, f1, f2, f3, f4, f5, f6⟩ := p2.shop
      refine ⟨(u, v), ⟨p1, p2, p4, p5⟩, ?_⟩
      show fX11_followers_b12 X (j : Int) n (fu + 1) u (X + 81 + 2 * ((j : Int)).toNat) v ((c 2).toNat : Int) = _
      rw [fX11_followers_b12.eq_2]
      exact gdg p2.k (nng f1 (gdg f2 (iteF (by omega) rfl))))
  obtain ⟨t, h1, h2⟩ := key
  refine ⟨t, h1, ?_⟩
  unfold fX11_followers
  exact gdg H.k (bd2g g1 h2)
set_option maxHeartbeats 200000 in
/-- one set of the table of lengths -/
theorem xFC1 {h : Hp} {X x N : Nat} {lk : Nat → Nat} (H : XS h X) (N8 : N ≤ 8) (hl : ∀ j, lk j < 256 ∧ Sub (lk j) (2 ^ N - 1)) (gl : ∀ l, l < N → gA h (X + 114) l = (lk l : Int)) (x8 : x ≤ 2 ^ N - 1)
    (tab : ∀ y l, x < y → y ≤ 2 ^ N - 1 → l < N → y.testBit l = true → gA h (X + 115) (y * 8 + l) = 1 + chM lk y (lk l)) (k13 : Hp → Int → Int → Option Hp) :
    ∃ t : Hp, (On (fun b => b = X + 115) h t ∧ (∀ y l, y ≠ x → l < 8 → gA t (X + 115) (y * 8 + l) = gA h (X + 115) (y * 8 + l)) ∧ ∀ l, l < N → x.testBit l = true → gA t (X + 115) (x * 8 + l) = 1 + chM lk x (lk l)) ∧
      fX5_findChain_b20 (X + 113) (N : Int) k13 FU h (N : Int) (x : Int) 0 = k13 t (N : Int) ((x : Int) - 1) := by
  have p256 : 2 ^ N ≤ 256 := show 2 ^ N ≤ 2 ^ 8 from Nat.pow_le_pow_right (by omega) N8
  have p0 : 0 < 2 ^ N := Nat.pow_pos (by omega)
  have x256 : x < 256 := by omega
  exact fk (S := Hp) (T := Hp) (fun fu i u => fX5_findChain_b20 (X + 113) (N : Int) k13 fu u (N : Int) (x : Int) i) (fun t => k13 t (N : Int) ((x : Int) - 1)) N
    (fun i u => On (fun b => b = X + 115) h u ∧ (∀ y l, y ≠ x → l < 8 → gA u (X + 115) (y * 8 + l) = gA h (X + 115) (y * 8 + l)) ∧ ∀ l, l < i → x.testBit l = true → gA u (X + 115) (x * 8 + l) = 1 + chM lk x (lk l)) _ 0 h (by omega) ⟨On.rf h, fun _ _ _ _ => rfl, fun l hl => absurd hl (by omega)⟩ (by omega)
    (fun fu i u hi hI => by
      obtain ⟨p1, p2, p3⟩ := hI
      have e5 : WE ((i : Int) + 1) := we (by omega) (by omega)
      have e6 : WE ((x : Int) * 8) := we (by omega) (by omega)
      have e7 : WE ((x : Int) * 8 + (i : Int)) := we (by omega) (by omega)
      have Hu : XS u X := H.q (q_on p1 (fun b hb => by rw [hb]; unfold sc; omega) : QX X h u) po_X
      have k113 : (hK u (X + 113)).1 = 5 := by rw [Hu.k113]
      have k114 := Hu.k114
      have k115 := Hu.k115
      have ib := xIsIn (s := x) (k := i) (by omega) (by omega)
      have e80 : ∀ t, fX5_findChain_b80 (X + 113) (N : Int) k13 (fX5_findChain_b20 (X + 113) (N : Int) k13 fu) t (N : Int) (x : Int) (i : Int) = fX5_findChain_b20 (X + 113) (N : Int) k13 fu t (N : Int) (x : Int) ((i : Int) + 1) := fun t => by rw [fX5_findChain_b80, lt_d, e5.e]
      left
      cases q : x.testBit i with
      | false =>
        rw [q] at ib
        refine ⟨u, ⟨p1, p2, fun l hl hb => ?_⟩, ?_⟩
        · rcases Nat.lt_succ_iff_lt_or_eq.mp hl with y | y
          · exact p3 l y hb
          · rw [y, q] at hb; cases hb
        · show fX5_findChain_b20 (X + 113) (N : Int) k13 (fu + 1) u (N : Int) (x : Int) (i : Int) = fX5_findChain_b20 (X + 113) (N : Int) k13 fu u (N : Int) (x : Int) ((i : Int) + 1)
          rw [fX5_findChain_b20.eq_2]
          refine iteT (by omega) (bdg ib (iteT rfl ?_))
          exact e80 _
      | true =>
        rw [q] at ib
        have l0 : gA u (X + 114) ((i : Int)).toNat = (lk i : Int) := by
          rw [show ((i : Int)).toNat = i from rfl, p1.a (by omega)]; exact gl i (by omega)
        have bl := xBL (u := x) (f := lk i) (lk := lk) Hu x256 (hl i).1 (fun j hj hb => by
          obtain ⟨n1, n2⟩ := inB_t hb
          have gt := or2_gt n2
          have jN : j < N := by
            have := (hl i).2 j n1
            rw [← bs_all, bs_tb, Bool.and_eq_true] at this
            exact of_decide_eq_true this.1
          have lt : x ||| 2 ^ j < 2 ^ N := Nat.or_lt_two_pow (by omega) (Nat.pow_lt_pow_right (by omega) jN)
          rw [p2 _ _ (by omega) hj]
          exact tab _ _ gt (by omega) jN (by rw [or2_tb]; simp))
        have mb := chM_bd lk x (lk i)
        have fin : ∀ r : Int, r = chM lk x (lk i) → fX5_findChain_b78 (X + 113) (N : Int) k13 (fX5_findChain_b20 (X + 113) (N : Int) k13 fu) u (N : Int) (x : Int) (i : Int) r 1 (w32 ((w32 ((x : Int) * 8)) + (i : Int))) (X + 115) = fX5_findChain_b20 (X + 113) (N : Int) k13 fu (sA u (X + 115) ((x * 8 + i : Nat) : Int) (1 + chM lk x (lk i))) (N : Int) (x : Int) ((i : Int) + 1) := by
          intro r hr
          unfold fX5_findChain_b78
          rw [e6.e, e7.e]
          refine gdg (by rw [k115]) (gdg (by rw [k115]; show 0 ≤ _ ∧ _ < (2048 : Int); omega) ?_)
          rw [lt_d, hr, w32_id (x := 1 + chM lk x (lk i)) (by omega) (by omega), show (x : Int) * 8 + (i : Int) = ((x * 8 + i : Nat) : Int) by omega]
          exact e80 _
        refine ⟨sA u (X + 115) ((x * 8 + i : Nat) : Int) (1 + chM lk x (lk i)), ⟨p1.tr (on_sA u rfl), fun y l hy h8 => ?_, fun l h8 hb => ?_⟩, ?_⟩
        · rw [gA_sA, if_neg (fun zz => hy (by have := zz.2; omega))]
          exact p2 y l hy h8
        · rw [gA_sA]
          by_cases y : l = i
          · rw [if_pos ⟨rfl, by omega⟩, w32_id (by omega) (by omega), y]
          · rw [if_neg (fun zz => y (by have := zz.2; omega))]
            exact p3 l (by omega) hb
        · show fX5_findChain_b20 (X + 113) (N : Int) k13 (fu + 1) u (N : Int) (x : Int) (i : Int) = fX5_findChain_b20 (X + 113) (N : Int) k13 fu (sA u (X + 115) ((x * 8 + i : Nat) : Int) (1 + chM lk x (lk i))) (N : Int) (x : Int) ((i : Int) + 1)
          rw [fX5_findChain_b20.eq_2]
          refine iteT (by omega) (bdg ib (iteF (by unfold b01; rw [if_pos rfl]; omega) (gdg k113 (nng Hu.r320 (gdg (by rw [k114]) (gdg (by rw [k114]; show 0 ≤ _ ∧ _ < (8 : Int); omega) ?_))))))
          rw [l0]
          refine bdg bl (nng Hu.r321 ?_)
          by_cases m0 : chM lk x (lk i) = 0
          · rw [if_pos m0]
            exact iteT rfl (fin 0 m0.symm)
          · rw [if_neg m0]
            obtain ⟨b1, b2, b3⟩ := chB_ok (lk := lk) (u := x) (hl i).1 (by omega)
            obtain ⟨n1, n2⟩ := inB_t b2
            have gt := or2_gt n2
            have jN : chB lk x (lk i) < N := by
              have := (hl i).2 _ n1
              rw [← bs_all, bs_tb, Bool.and_eq_true] at this
              exact of_decide_eq_true this.1
            have lt : x ||| 2 ^ chB lk x (lk i) < 2 ^ N := Nat.or_lt_two_pow (by omega) (Nat.pow_lt_pow_right (by omega) jN)
            have lw := xLW (v := chM lk x (lk i)) Hu x256 b1 (by
              rw [p2 _ _ (by omega) b1, tab _ _ gt (by omega) jN (by rw [or2_tb]; simp)]
              exact b3)
            exact iteF (by omega) (bdg lw (fin _ rfl)))
    (fun fu u hI => by
      have e5 : WE ((x : Int) + (-1)) := we (by omega) (by omega)
      refine ⟨u, hI, ?_⟩
      show fX5_findChain_b20 (X + 113) (N : Int) k13 (fu + 1) u (N : Int) (x : Int) (N : Int) = _
      rw [fX5_findChain_b20.eq_2]
      refine iteF (by omega) ?_
      rw [lt_d, e5.e, show (x : Int) + (-1) = (x : Int) - 1 by omega])
set_option maxHeartbeats 200000 in
/-- the whole table -/
theorem xFC2 {h : Hp} {X N : Nat} {lk : Nat → Nat} (H : XS h X) (N8 : N ≤ 8) (hl : ∀ j, lk j < 256 ∧ Sub (lk j) (2 ^ N - 1)) (gl : ∀ l, l < N → gA h (X + 114) l = (lk l : Int)) :
    ∃ t : Hp, (On (fun b => b = X + 115) h t ∧ ∀ y l, 0 < y → y ≤ 2 ^ N - 1 → l < N → y.testBit l = true → gA t (X + 115) (y * 8 + l) = 1 + chM lk y (lk l)) ∧
      fX5_findChain_b13 (X + 113) (N : Int) FU h (N : Int) ((2 ^ N - 1 : Nat) : Int) = (gd ((hK t (X + 113)).1 = 5) <| nn (gR t 323 (X + 113)) fun q3 => gd ((hK t q3).1 = 6) <| bd (fX6_clear t q3) fun h7 => gd ((hK h7 (X + 113)).1 = 5) <| bd (fX5_bestLink h7 (X + 113) 0 (w32 ((shl 1 (N : Int)) - 1))) fun r9 => fX5_findChain_b116 (X + 113) (N : Int) FU h7 (N : Int) 0 r9 0) := by
  have p256 : 2 ^ N ≤ 256 := show 2 ^ N ≤ 2 ^ 8 from Nat.pow_le_pow_right (by omega) N8
  have p0 : 0 < 2 ^ N := Nat.pow_pos (by omega)
  have key := fk (S := Hp) (T := Hp) (fun fu i u => fX5_findChain_b13 (X + 113) (N : Int) fu u (N : Int) (((2 ^ N - 1 : Nat) : Int) - i)) (fun t => gd ((hK t (X + 113)).1 = 5) <| nn (gR t 323 (X + 113)) fun q3 => gd ((hK t q3).1 = 6) <| bd (fX6_clear t q3) fun h7 => gd ((hK h7 (X + 113)).1 = 5) <| bd (fX5_bestLink h7 (X + 113) 0 (w32 ((shl 1 (N : Int)) - 1))) fun r9 => fX5_findChain_b116 (X + 113) (N : Int) FU h7 (N : Int) 0 r9 0) (2 ^ N - 1)
    (fun i u => On (fun b => b = X + 115) h u ∧ ∀ y l, 2 ^ N - 1 - i < y → y ≤ 2 ^ N - 1 → l < N → y.testBit l = true → gA u (X + 115) (y * 8 + l) = 1 + chM lk y (lk l)) (fun t => On (fun b => b = X + 115) h t ∧ ∀ y l, 0 < y → y ≤ 2 ^ N - 1 → l < N → y.testBit l = true → gA t (X + 115) (y * 8 + l) = 1 + chM lk y (lk l)) 0 h (by omega) ⟨On.rf h, fun y l h1 h2 => absurd h1 (by omega)⟩ (by omega)
    (fun fu i u hi hI => by
      obtain ⟨p1, p2⟩ := hI
      have Hu : XS u X := H.q (q_on p1 (fun b hb => by rw [hb]; unfold sc; omega) : QX X h u) po_X
      have ea : ((2 ^ N - 1 : Nat) : Int) - (i : Int) = ((2 ^ N - 1 - i : Nat) : Int) := by omega
      obtain ⟨t, ⟨y1, y2, y3⟩, y4⟩ := xFC1 (x := 2 ^ N - 1 - i) Hu N8 hl (fun l hl' => by rw [p1.a (by omega)]; exact gl l hl') (by omega) p2 (fX5_findChain_b13 (X + 113) (N : Int) fu)
      left
      refine ⟨t, ⟨p1.tr y1, fun y l h1 h2 h3 h4 => ?_⟩, ?_⟩
      · by_cases e : y = 2 ^ N - 1 - i
        · rw [e] at h4 ⊢
          exact y3 l h3 h4
        · rw [y2 y l e (by omega)]
          exact p2 y l (by omega) h2 h3 h4
      · show fX5_findChain_b13 (X + 113) (N : Int) (fu + 1) u (N : Int) (((2 ^ N - 1 : Nat) : Int) - (i : Int)) = fX5_findChain_b13 (X + 113) (N : Int) fu t (N : Int) (((2 ^ N - 1 : Nat) : Int) - ((i : Int) + 1))
        rw [fX5_findChain_b13.eq_2, ea]
        refine iteT (by omega) ?_
        rw [y4, show ((2 ^ N - 1 - i : Nat) : Int) - 1 = ((2 ^ N - 1 : Nat) : Int) - ((i : Int) + 1) by omega])
    (fun fu u hI => by
      obtain ⟨p1, p2⟩ := hI
      refine ⟨u, ⟨p1, fun y l h1 h2 h3 h4 => p2 y l (by omega) h2 h3 h4⟩, ?_⟩
      show fX5_findChain_b13 (X + 113) (N : Int) (fu + 1) u (N : Int) (((2 ^ N - 1 : Nat) : Int) - ((2 ^ N - 1 : Nat) : Int)) = _
      rw [fX5_findChain_b13.eq_2]
      exact iteF (by omega) rfl)
  have e0 : ((2 ^ N - 1 : Nat) : Int) - ((0 : Nat) : Int) = ((2 ^ N - 1 : Nat) : Int) := by omega
  rw [e0] at key
  exact key
set_option maxHeartbeats 2000000 in
theorem xFC3 {h : Hp} {X N m : Nat} {lk : Nat → Nat} (H : XS h X) (z : X + 144 ≤ hZ h) (N8 : N ≤ 8) (hl : ∀ j, lk j < 256 ∧ Sub (lk j) (2 ^ N - 1)) (gl : ∀ l, l < N → gA h (X + 114) l = (lk l : Int)) (n0 : gI h 386 (X + 117) = 0)
    (tab : ∀ y l, 0 < y → y ≤ 2 ^ N - 1 → l < N → y.testBit l = true → gA h (X + 115) (y * 8 + l) = 1 + chM lk y (lk l)) (hm : (m : Int) = chM lk 0 (2 ^ N - 1)) :
    ∃ t : Hp, (FL [118] [(386, 117)] X h t ∧ gI t 386 (X + 117) = (m : Int) ∧ ∀ k, k < m → gA t (X + 118) k = (chB lk (chU lk (2 ^ N - 1) k).1 (chU lk (2 ^ N - 1) k).2 : Int)) ∧
      (bd (fX5_bestLink h (X + 113) 0 ((2 ^ N - 1 : Nat) : Int)) fun r9 => fX5_findChain_b116 (X + 113) (N : Int) FU h (N : Int) 0 r9 0) = some t := by
  have p256 : 2 ^ N ≤ 256 := show 2 ^ N ≤ 2 ^ 8 from Nat.pow_le_pow_right (by omega) N8
  have p0 : 0 < 2 ^ N := Nat.pow_pos (by omega)
  have A8 : 2 ^ N - 1 < 256 := by omega
  have mb := chM_bd lk 0 (2 ^ N - 1)
  have Atb : ∀ j, (2 ^ N - 1).testBit j = decide (j < N) := fun j => by rw [← bs_all, bs_tb, Bool.and_true]
  have blk : ∀ (u : Hp) (k : Nat), (k : Int) ≤ chM lk 0 (2 ^ N - 1) → XS u X → (∀ x, gA u (X + 115) x = gA h (X + 115) x) → fX5_bestLink u (X + 113) ((chU lk (2 ^ N - 1) k).1 : Int) ((chU lk (2 ^ N - 1) k).2 : Int) = some (if chM lk (chU lk (2 ^ N - 1) k).1 (chU lk (2 ^ N - 1) k).2 = 0 then -1 else (chB lk (chU lk (2 ^ N - 1) k).1 (chU lk (2 ^ N - 1) k).2 : Int)) := by
    intro u k hk Hu e
    obtain ⟨u1, u2, u3, u4, u5, u6⟩ := chU_ok A8 hl k hk
    refine xBL Hu u1 u2 (fun j hj hb => ?_)
    obtain ⟨n1, n2⟩ := inB_t hb
    have jN : j < N := by
      have := u4 j n1
      rw [Atb] at this
      exact of_decide_eq_true this
    have lt : (chU lk (2 ^ N - 1) k).1 ||| 2 ^ j < 2 ^ N := by
      have : (chU lk (2 ^ N - 1) k).1 < 2 ^ N := by
        have h9 : (chU lk (2 ^ N - 1) k).1 &&& (2 ^ N - 1) = (chU lk (2 ^ N - 1) k).1 := by
          apply Nat.eq_of_testBit_eq
          intro i
          rw [Nat.testBit_and]
          cases q : (chU lk (2 ^ N - 1) k).1.testBit i with
          | false => rfl
          | true => rw [u3 i q]; rfl
        have h10 : (chU lk (2 ^ N - 1) k).1 &&& (2 ^ N - 1) ≤ 2 ^ N - 1 := Nat.and_le_right
        omega
      exact Nat.or_lt_two_pow this (Nat.pow_lt_pow_right (by omega) jN)
    have gt := or2_gt n2
    rw [e]
    exact tab _ _ (by omega) (by omega) jN (by rw [or2_tb]; simp)
  have mN : m ≤ N := by
    obtain ⟨u1, u2, u3, u4, u5, u6⟩ := chU_ok A8 hl m (by omega)
    have h1 := (bcN_sub u3 8).1
    have h2 := bcu_le (chU lk (2 ^ N - 1) m).1
    have h3 : bcN 8 (2 ^ N - 1) = (N : Int) := by
      rw [bcN_lt (n := N) (by omega) N8]
      unfold bcN
      have : sm N (fun k => if (2 ^ N - 1).testBit k = true then (1 : Int) else 0) = sm N (fun _ => 1) := sm_congr (fun k hk => by rw [Atb, decide_eq_true hk]; rfl)
      rw [this]
      clear this
      induction N with
      | zero => rfl
      | succ n ih =>
        show sm n (fun _ => 1) + 1 = _
        have : ∀ n : Nat, sm n (fun _ => 1) = (n : Int) := fun n => by
          induction n with
          | zero => rfl
          | succ n ih => show sm n (fun _ => 1) + 1 = _; rw [ih]; omega
        rw [this]; omega
    omega
  obtain ⟨t, h1, h2⟩ := fk (S := Hp × Int × Int) (T := Hp) (fun fu i u => fX5_findChain_b116 (X + 113) (N : Int) fu u.1 (N : Int) u.2.1 u.2.2 i) some m
    (fun i u => FL [118] [(386, 117)] X h u.1 ∧ gI u.1 386 (X + 117) = (i : Int) ∧ (∀ k, k < i → gA u.1 (X + 118) k = (chB lk (chU lk (2 ^ N - 1) k).1 (chU lk (2 ^ N - 1) k).2 : Int)) ∧ (∀ x, gA u.1 (X + 115) x = gA h (X + 115) x) ∧ (∀ x, gA u.1 (X + 114) x = gA h (X + 114) x) ∧ u.2.1 = ((chU lk (2 ^ N - 1) i).1 : Int) ∧ u.2.2 = if chM lk (chU lk (2 ^ N - 1) i).1 (chU lk (2 ^ N - 1) i).2 = 0 then -1 else (chB lk (chU lk (2 ^ N - 1) i).1 (chU lk (2 ^ N - 1) i).2 : Int))
    (fun t => FL [118] [(386, 117)] X h t ∧ gI t 386 (X + 117) = (m : Int) ∧ ∀ k, k < m → gA t (X + 118) k = (chB lk (chU lk (2 ^ N - 1) k).1 (chU lk (2 ^ N - 1) k).2 : Int)) 0 (h, 0, if chM lk 0 (2 ^ N - 1) = 0 then -1 else (chB lk 0 (2 ^ N - 1) : Int)) (by omega) ⟨FL.rf h, n0, fun k hk => absurd hk (by omega), fun _ => rfl, fun _ => rfl, rfl, rfl⟩ (by omega)
    (fun fu i u hi hI => by
      obtain ⟨u, v3, v4⟩ := u
      obtain ⟨p1, p2, p3, p4, p5, p6, p7⟩ := hI
      have p1 : FL [118] [(386, 117)] X h u := p1
      have p2 : gI u 386 (X + 117) = (i : Int) := p2
      have p3 : ∀ k, k < i → gA u (X + 118) k = (chB lk (chU lk (2 ^ N - 1) k).1 (chU lk (2 ^ N - 1) k).2 : Int) := p3
      have p4 : ∀ x, gA u (X + 115) x = gA h (X + 115) x := p4
      have p5 : ∀ x, gA u (X + 114) x = gA h (X + 114) x := p5
      have p6 : v3 = ((chU lk (2 ^ N - 1) i).1 : Int) := p6
      have p7 : v4 = if chM lk (chU lk (2 ^ N - 1) i).1 (chU lk (2 ^ N - 1) i).2 = 0 then -1 else (chB lk (chU lk (2 ^ N - 1) i).1 (chU lk (2 ^ N - 1) i).2 : Int) := p7
      have e5 : WE ((i : Int) + 1) := we (by omega) (by omega)
      have Hu : XS u X := H.fl p1 z (by decide +kernel)
      obtain ⟨u1, u2, u3, u4, u5, u6⟩ := chU_ok A8 hl i (by omega)
      obtain ⟨b1, b2, b3⟩ := chB_ok (lk := lk) (u := (chU lk (2 ^ N - 1) i).1) u2 (by omega)
      obtain ⟨n1, n2⟩ := inB_t b2
      have jN : chB lk (chU lk (2 ^ N - 1) i).1 (chU lk (2 ^ N - 1) i).2 < N := by
        have := u4 _ n1
        rw [Atb] at this
        exact of_decide_eq_true this
      rw [if_neg (by omega)] at p7
      have k117 : (hK u (X + 117)).1 = 6 := by rw [Hu.k117]
      have k118 : (hK u (X + 118)).1 = 21 := by rw [Hu.k118]
      have xa := xAdd (h := u) (v := (chB lk (chU lk (2 ^ N - 1) i).1 (chU lk (2 ^ N - 1) i).2 : Int)) k117 Hu.r384_117 k118 (N := 8) (by rw [Hu.k118]; rfl) Hu.2.2.2.2.2.1 p2 (by omega) (by omega) (by omega)
      have pn : FL [118] [(386, 117)] X h (pI (sA u (X + 118) (i : Int) (chB lk (chU lk (2 ^ N - 1) i).1 (chU lk (2 ^ N - 1) i).2 : Int)) 386 (X + 117) ((i : Int) + 1)) := (p1.tr (fl_sA u 118 rfl (by decide))).tr (fl_pI _ 117 rfl (by decide))
      have Hn := H.fl pn z (by decide +kernel)
      have q5 : ∀ x, gA (pI (sA u (X + 118) (i : Int) (chB lk (chU lk (2 ^ N - 1) i).1 (chU lk (2 ^ N - 1) i).2 : Int)) 386 (X + 117) ((i : Int) + 1)) (X + 114) x = gA h (X + 114) x := fun x => by
        rw [gA_pI, gA_sA, if_neg (by omega)]; exact p5 x
      have q4 : ∀ x, gA (pI (sA u (X + 118) (i : Int) (chB lk (chU lk (2 ^ N - 1) i).1 (chU lk (2 ^ N - 1) i).2 : Int)) 386 (X + 117) ((i : Int) + 1)) (X + 115) x = gA h (X + 115) x := fun x => by
        rw [gA_pI, gA_sA, if_neg (by omega)]; exact p4 x
      have bn := blk _ (i + 1) (by omega) Hn q4
      have q3 : ∀ k, k < i + 1 → gA (pI (sA u (X + 118) (i : Int) (chB lk (chU lk (2 ^ N - 1) i).1 (chU lk (2 ^ N - 1) i).2 : Int)) 386 (X + 117) ((i : Int) + 1)) (X + 118) k = (chB lk (chU lk (2 ^ N - 1) k).1 (chU lk (2 ^ N - 1) k).2 : Int) := fun k hk => by
        rw [gA_pI, gA_sA]
        by_cases y : k = i
        · rw [if_pos ⟨rfl, by omega⟩, w32_id (by omega) (by omega), y]
        · rw [if_neg (fun zz => y (by have := zz.2; omega))]
          exact p3 k (by omega)
      have q2 : gI (pI (sA u (X + 118) (i : Int) (chB lk (chU lk (2 ^ N - 1) i).1 (chU lk (2 ^ N - 1) i).2 : Int)) 386 (X + 117) ((i : Int) + 1)) 386 (X + 117) = ((i + 1 : Nat) : Int) := by
        rw [gI_pIs (by unfold rg; omega)]; omega
      generalize pI (sA u (X + 118) (i : Int) (chB lk (chU lk (2 ^ N - 1) i).1 (chU lk (2 ^ N - 1) i).2 : Int)) 386 (X + 117) ((i : Int) + 1) = un at xa pn Hn q5 q4 bn q3 q2
      have kn114 := Hn.k114
      left
      refine ⟨(un, ((chU lk (2 ^ N - 1) (i + 1)).1 : Int), if chM lk (chU lk (2 ^ N - 1) (i + 1)).1 (chU lk (2 ^ N - 1) (i + 1)).2 = 0 then -1 else (chB lk (chU lk (2 ^ N - 1) (i + 1)).1 (chU lk (2 ^ N - 1) (i + 1)).2 : Int)), ⟨pn, q2, q3, q4, q5, rfl, rfl⟩, ?_⟩
      show fX5_findChain_b116 (X + 113) (N : Int) (fu + 1) u (N : Int) v3 v4 (i : Int) = fX5_findChain_b116 (X + 113) (N : Int) fu un (N : Int) ((chU lk (2 ^ N - 1) (i + 1)).1 : Int) (if chM lk (chU lk (2 ^ N - 1) (i + 1)).1 (chU lk (2 ^ N - 1) (i + 1)).2 = 0 then -1 else (chB lk (chU lk (2 ^ N - 1) (i + 1)).1 (chU lk (2 ^ N - 1) (i + 1)).2 : Int)) ((i : Int) + 1)
      rw [fX5_findChain_b116.eq_2, p6, p7]
      refine iteT (by omega) (iteF (by omega) (gdg (by rw [Hu.k113]) (nng Hu.r323 (gdg k117 (bdg xa ?_)))))
      rw [lt_d, bor_or u1 b1]
      refine gdg (by rw [Hn.k113]) (nng Hn.r320 (gdg (by rw [kn114]) (gdg (by rw [kn114]; show 0 ≤ _ ∧ _ < (8 : Int); omega) ?_)))
      rw [show ((chB lk (chU lk (2 ^ N - 1) i).1 (chU lk (2 ^ N - 1) i).2 : Int)).toNat = chB lk (chU lk (2 ^ N - 1) i).1 (chU lk (2 ^ N - 1) i).2 from rfl, q5, gl _ jN]
      refine bdg bn ?_
      rw [lt_d, e5.e]
      rfl)
    (fun fu u hI => by
      obtain ⟨u, v3, v4⟩ := u
      obtain ⟨p1, p2, p3, p4, p5, p6, p7⟩ := hI
      have p7 : v4 = if chM lk (chU lk (2 ^ N - 1) m).1 (chU lk (2 ^ N - 1) m).2 = 0 then -1 else (chB lk (chU lk (2 ^ N - 1) m).1 (chU lk (2 ^ N - 1) m).2 : Int) := p7
      obtain ⟨u1, u2, u3, u4, u5, u6⟩ := chU_ok A8 hl m (by omega)
      rw [if_pos (by omega)] at p7
      refine ⟨u, ⟨p1, p2, p3⟩, ?_⟩
      show fX5_findChain_b116 (X + 113) (N : Int) (fu + 1) u (N : Int) v3 v4 (m : Int) = _
      rw [fX5_findChain_b116.eq_2, p7]
      by_cases y : m < N
      · exact iteT (by omega) (iteT rfl rfl)
      · exact iteF (by omega) rfl)
  exact ⟨t, h1, bdg (blk h 0 (by omega) H (fun _ => rfl)) h2⟩
