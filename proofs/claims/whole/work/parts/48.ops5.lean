/-! QUERIES, fifth lot: kinds common anyTwo (written by wip/whole/g48.py) -/
set_option maxHeartbeats 200000 in
theorem ofJ_n (n : Nat) : Int64.ofInt (n : Int) = lN n := Int64.ofInt_eq_ofNat
set_option maxHeartbeats 200000 in
theorem lN_ti {n : Nat} (h : n < 9223372036854775808) : (lN n).toInt = (n : Int) := by rw [← ofJ_n]; exact tj_of ⟨by omega, by omega⟩
set_option maxHeartbeats 200000 in
theorem ldv_i {a b : Int} (ha : 0 ≤ a) (ha2 : a < 9223372036854775808) (h0 : 0 < b) (hb : b < 9223372036854775808) : ldv a b = a / b := by
  obtain ⟨m, rfl⟩ := i2n ha
  obtain ⟨n, rfl⟩ := i2n (Int.le_of_lt h0)
  unfold ldv
  rw [ofJ_n, ofJ_n, pk_lDiv (show m < 2 ^ 63 by omega) (by omega) (show n < 2 ^ 63 by omega), lN_ti (Nat.lt_of_le_of_lt (Nat.div_le_self _ _) (by omega))]
  simp
set_option maxHeartbeats 200000 in
theorem lrm_i {a b : Int} (ha : 0 ≤ a) (ha2 : a < 9223372036854775808) (h0 : 0 < b) (hb : b < 9223372036854775808) : lrm a b = a % b := by
  obtain ⟨m, rfl⟩ := i2n ha
  obtain ⟨n, rfl⟩ := i2n (Int.le_of_lt h0)
  unfold lrm
  rw [ofJ_n, ofJ_n, pk_lRem (show m < 2 ^ 63 by omega) (by omega) (show n < 2 ^ 63 by omega), lN_ti (Nat.lt_of_le_of_lt (Nat.mod_le _ _) (by omega))]
  simp
/-- THIRD of two LETTERS -/
def thS (a b : Int) : Int := (a + b - 2) % 26 + 1
set_option maxHeartbeats 200000 in
theorem xThird {a b : Int} (a0 : 1 ≤ a) (a8 : a ≤ 26) (b0 : 1 ≤ b) (b8 : b ≤ 26) : fX11_thirdOf a b = some (thS a b) := by
  unfold fX11_thirdOf thS
  rw [w64_id (x := a + b) (by omega) (by omega), w64_id (x := a + b - 2) (by omega) (by omega), lrm_i (by omega) (by omega) (by omega) (by omega), w64_id (by omega) (by omega)]
set_option maxHeartbeats 200000 in
theorem rThird {a b : Int} (a0 : 1 ≤ a) (a8 : a ≤ 26) (b0 : 1 ≤ b) (b8 : b ≤ 26) : w32 (irm (w32 (w32 (a + b) - 2)) 26 + 1) = thS a b := by
  unfold thS
  rw [w32_id (x := a + b) (by omega) (by omega), w32_id (x := a + b - 2) (by omega) (by omega), irm_i (by omega) (by omega) (by omega) (by omega), w32_id (by omega) (by omega)]
/-- the LETTERS of the first i jars of a set -/
def klS (c : Nat → Int) (s : Nat) : Nat → Nat
  | 0 => 0
  | i + 1 => if s.testBit i then klS c s i ||| lsN (hN c (i : Int)).toNat (fun k => hL c (i : Int) (k : Int)) else klS c s i
set_option maxHeartbeats 200000 in
theorem lsL_lt {c : Nat → Int} {j : Int} (w : WF c) (j0 : 0 ≤ j) (j8 : j < 8) (n : Nat) : lsN n (fun k => hL c j (k : Int)) < 2 ^ 27 := lsN_lt (fun k _ => (hL_bd w j0 j8).2)
set_option maxHeartbeats 200000 in
theorem klS_lt {c : Nat → Int} (w : WF c) (s i : Nat) (hi : i ≤ 8) : klS c s i < 2 ^ 27 := by
  induction i with
  | zero => exact Nat.pow_pos (by omega)
  | succ i ih =>
    show (if s.testBit i then klS c s i ||| lsN (hN c (i : Int)).toNat (fun k => hL c (i : Int) (k : Int)) else klS c s i) < 2 ^ 27
    split
    · exact Nat.or_lt_two_pow (ih (by omega)) (lsL_lt w (by omega) (by omega) _)
    · exact ih (by omega)
set_option maxHeartbeats 200000 in
theorem klS_0 {c : Nat → Int} (w : WF c) (s i : Nat) (hi : i ≤ 8) : (klS c s i).testBit 0 = false := by
  induction i with
  | zero => exact Nat.zero_testBit 0
  | succ i ih =>
    show (if s.testBit i then klS c s i ||| lsN (hN c (i : Int)).toNat (fun k => hL c (i : Int) (k : Int)) else klS c s i).testBit 0 = false
    split
    · rw [Nat.testBit_or, ih (by omega), Bool.false_or]
      cases z : (lsN (hN c (i : Int)).toNat (fun k => hL c (i : Int) (k : Int))).testBit 0 with
      | false => rfl
      | true =>
        obtain ⟨k, k1, k2⟩ := (lsN_tb 0).mp z
        have := hL_1 w (j := (i : Int)) (k := (k : Int)) (by omega) (by omega) (by omega) (by omega)
        omega
    · exact ih (by omega)
set_option maxHeartbeats 200000 in
theorem xKin {h : Hp} {X : Nat} {c : Nat → Int} {s : Nat} (H : CX h X c) (hs : s < 2147483648) :
    ∃ t : Hp × Int, (QX X h t.1 ∧ CX t.1 X c ∧ t.2 = bcN 31 (klS c s (c 2).toNat)) ∧ fX11_kinds_b18 X (s : Int) FU h 0 0 = fX11_answer t.1 X t.2 := by
  have w := H.wf
  have hj := w.nj
  exact fk (S := Hp × Int) (T := Hp × Int) (fun fu v t => fX11_kinds_b18 X (s : Int) fu t.1 t.2 v) (fun t => fX11_answer t.1 X t.2) (c 2).toNat (fun i t => QX X h t.1 ∧ CX t.1 X c ∧ t.2 = ((klS c s i : Nat) : Int)) _ 0 (h, _) (by omega) ⟨QR.rf h, H, rfl⟩ (by omega)
    (fun fu i t hi hI => by
      obtain ⟨h1, v⟩ := t
      obtain ⟨p1, p2, p3⟩ := hI
      have p1 : QX X h h1 := p1
      have p2 : CX h1 X c := p2
      have p3 : v = _ := p3
      have e5 : WE ((i : Int) + 1) := we (by omega) (by omega)
      obtain ⟨S, f1, f2, f3, f4, f5, -⟩ := p2.shop
      left
      by_cases q : s.testBit i = true
      · obtain ⟨h', g1, g2, g3, g4, g5, g6⟩ := p2.hearV (k := (i : Int)) ⟨by omega, by omega⟩
        have l1 := klS_lt w s i (by omega)
        have l2 := lsL_lt w (j := (i : Int)) (by omega) (by omega) (hN c (i : Int)).toNat
        have xs := xSet g4.v (fun k => hL_bd w (by omega) (by omega))
        have ek : klS c s (i + 1) = klS c s i ||| lsN (hN c (i : Int)).toNat (fun k => hL c (i : Int) (k : Int)) := if_pos q
        refine ⟨(h', ((klS c s (i + 1) : Nat) : Int)), ⟨p1.tr g2, g3, rfl⟩, ?_⟩
        show fX11_kinds_b18 X (s : Int) (fu + 1) h1 v (i : Int) = fX11_kinds_b18 X (s : Int) fu h' _ ((i : Int) + 1)
        rw [fX11_kinds_b18.eq_2, p3, ek]
        have e1 : fX11_isIn (s : Int) (i : Int) = some 1 := by rw [xIsIn hs (by omega), q]; rfl
        refine gdg p2.k (nng f1 (gdg f2 (iteT (by omega) (bdg e1 (iteF (by omega) (bd2g g1 (gdg g4.k (bdg xs ?_))))))))
        rw [lt_d, bor_n (by omega) (by omega), fX11_kinds_b48, lt_d, e5.e]
      · have q : s.testBit i = false := by simpa using q
        have ek : klS c s (i + 1) = klS c s i := if_neg (by simp [q])
        refine ⟨(h1, ((klS c s (i + 1) : Nat) : Int)), ⟨p1, p2, rfl⟩, ?_⟩
        show fX11_kinds_b18 X (s : Int) (fu + 1) h1 v (i : Int) = fX11_kinds_b18 X (s : Int) fu h1 _ ((i : Int) + 1)
        rw [fX11_kinds_b18.eq_2, p3, ek]
        have e1 : fX11_isIn (s : Int) (i : Int) = some 0 := by rw [xIsIn hs (by omega), q]; rfl
        refine gdg p2.k (nng f1 (gdg f2 (iteT (by omega) (bdg e1 (iteT rfl ?_)))))
        rw [fX11_kinds_b48, lt_d, e5.e])
    (fun fu t hI => by
      obtain ⟨h1, v⟩ := t
      obtain ⟨p1, p2, p3⟩ := hI
      have p2 : CX h1 X c := p2
      have p3 : v = _ := p3
      have l1 := klS_lt w s (c 2).toNat (by omega)
      obtain ⟨S, f1, f2, f3, f4, f5, -⟩ := p2.shop
      refine ⟨(h1, bcN 31 (klS c s (c 2).toNat)), ⟨p1, p2, rfl⟩, ?_⟩
      show fX11_kinds_b18 X (s : Int) (fu + 1) h1 v ((c 2).toNat : Int) = _
      rw [fX11_kinds_b18.eq_2, p3]
      exact gdg p2.k (nng f1 (gdg f2 (iteF (by omega) (bdg (xBits (by omega)) (bd2_id _))))))
set_option maxHeartbeats 200000 in
theorem rKinI {h : Hp} {M s A j : Nat} {c : Nat → Int} (ms : MS h M) (hc : gA h (M + 5) = c) (w : WF c) (hs : s < 2147483648) (hA : A < 2 ^ 27) (hj : j < 8) (k : Hp → Int → Int → Option (Int × Hp)) :
    fX12_kinds_b41 M (s : Int) k FU h (A : Int) (j : Int) 0 = k h ((if s.testBit j then A ||| lsN (hN c (j : Int)).toNat (fun k => hL c (j : Int) (k : Int)) else A : Nat) : Int) ((j : Int) + 1) := by
  have e5 : WE ((j : Int) + 1) := we (by omega) (by omega)
  have hb := hN_bd w (j := (j : Int)) (by omega) (by omega)
  by_cases q : s.testBit j = true
  · rw [if_pos q]
    have e1 : fX12_has (s : Int) (j : Int) = some 1 := by rw [rHas hs (by omega), q]; rfl
    have := fg (S := Int) (fun fu v t => fX12_kinds_b41 M (s : Int) k fu h t (j : Int) v) (fun t => k h t ((j : Int) + 1)) (hN c (j : Int)).toNat (fun i => ((A ||| lsN i (fun k => hL c (j : Int) (k : Int)) : Nat) : Int)) (by omega) ?_ ?_ 0 (by omega)
    · have e0 : A ||| lsN 0 (fun k => hL c (j : Int) (k : Int)) = A := Nat.or_zero A
      rw [e0] at this
      exact this
    · intro fu i hi
      have e6 : WE ((i : Int) + 1) := we (by omega) (by omega)
      have l2 := lsL_lt w (j := (j : Int)) (by omega) (by omega) i
      have l3 := Nat.or_lt_two_pow hA l2
      have hl := hL_bd w (j := (j : Int)) (k := (i : Int)) (by omega) (by omega)
      show fX12_kinds_b41 M (s : Int) k (fu + 1) h _ (j : Int) (i : Int) = fX12_kinds_b41 M (s : Int) k fu h ((A ||| (lsN i (fun k => hL c (j : Int) (k : Int)) ||| 2 ^ (hL c (j : Int) (i : Int)).toNat) : Nat) : Int) (j : Int) ((i : Int) + 1)
      rw [fX12_kinds_b41.eq_2]
      simp only [lt_d, ms.r788, nn_s, ms.k0, ms.k5, gd_T, eq_self, hc, bd2_id, Int.reduceToNat]
      refine bdg (rNow w (by omega) (by omega)) (iteT (by omega) (bdg e1 (iteF (by omega) (bdg (rLet w (by omega) (by omega) (by omega) (by omega)) ?_))))
      rw [e6.e, bor_bit (by omega) hl.1 hl.2, Nat.or_assoc]
    · intro fu
      show fX12_kinds_b41 M (s : Int) k (fu + 1) h _ (j : Int) ((hN c (j : Int)).toNat : Int) = _
      rw [fX12_kinds_b41.eq_2]
      simp only [lt_d, ms.r788, nn_s, ms.k0, ms.k5, gd_T, eq_self, hc, bd2_id, Int.reduceToNat]
      refine bdg (rNow w (by omega) (by omega)) (iteF (by omega) ?_)
      rw [fX12_kinds_b77, lt_d, e5.e]
  · rw [if_neg q]
    have q : s.testBit j = false := by simpa using q
    have e1 : fX12_has (s : Int) (j : Int) = some 0 := by rw [rHas hs (by omega), q]; rfl
    show fX12_kinds_b41 M (s : Int) k (999999 + 1) h (A : Int) (j : Int) 0 = _
    rw [fX12_kinds_b41.eq_2]
    simp only [lt_d, ms.r788, nn_s, ms.k0, ms.k5, gd_T, eq_self, hc, bd2_id, Int.reduceToNat]
    refine bdg (rNow w (by omega) (by omega)) ?_
    have e77 : fX12_kinds_b77 M (s : Int) k h (A : Int) (j : Int) = k h (A : Int) ((j : Int) + 1) := by rw [fX12_kinds_b77, lt_d, e5.e]
    by_cases z : 0 < hN c (j : Int)
    · exact iteT z (bdg e1 (iteT rfl e77))
    · exact iteF z e77
set_option maxHeartbeats 200000 in
theorem rKin {h : Hp} {M s : Nat} {c : Nat → Int} (ms : MS h M) (hc : gA h (M + 5) = c) (w : WF c) (hs : s < 2147483648) : fX12_kinds_b28 M (s : Int) FU h 0 0 = some (bcN 31 (klS c s (c 2).toNat), h) := by
  have hj := w.nj
  have l1 := klS_lt w s (c 2).toNat (by omega)
  have l0 := klS_0 w s (c 2).toNat (by omega)
  have e88 : fX12_kinds_b88 M (s : Int) FU h ((klS c s (c 2).toNat : Nat) : Int) 0 1 = some (bcN 31 (klS c s (c 2).toNat), h) := by
    rw [bcN_lt l1 (by omega)]
    generalize klS c s (c 2).toNat = K at l1 l0
    have := fg (S := Int) (fun fu v t => fX12_kinds_b88 M (s : Int) fu h (K : Int) t v) (fun t => some (t, h)) 27 (fun i => bcN i K) (by omega) ?_ ?_ 1 (by omega)
    · have e0 : bcN 1 K = 0 := by
        show sm 0 _ + (if K.testBit 0 then (1 : Int) else 0) = 0
        rw [l0]; rfl
      rw [e0] at this
      exact this
    · intro fu i hi
      have e6 : WE ((i : Int) + 1) := we (by omega) (by omega)
      have b1 := bcN_bd (i + 1) K
      have eb : bcN (i + 1) K = bcN i K + (if K.testBit i then 1 else 0) := rfl
      show fX12_kinds_b88 M (s : Int) (fu + 1) h (K : Int) (bcN i K) (i : Int) = fX12_kinds_b88 M (s : Int) fu h (K : Int) (bcN (i + 1) K) _
      rw [fX12_kinds_b88.eq_2, bit_n (by omega) (by omega), ← eb]
      refine iteT (by omega) ?_
      rw [lt_d, lt_d, e6.e, w32_id (by omega) (by omega)]
    · intro fu
      show fX12_kinds_b88 M (s : Int) (fu + 1) h (K : Int) _ ((27 : Nat) : Int) = _
      rw [fX12_kinds_b88.eq_2]
      exact iteF (by omega) rfl
  have := fg (S := Int) (fun fu v t => fX12_kinds_b28 M (s : Int) fu h t v) (fun t => fX12_kinds_b88 M (s : Int) FU h t 0 1) (c 2).toNat (fun i => ((klS c s i : Nat) : Int)) (by omega) ?_ ?_ 0 (by omega)
  · rw [← e88]
    exact this
  · intro fu i hi
    have l2 := klS_lt w s i (by omega)
    show fX12_kinds_b28 M (s : Int) (fu + 1) h _ (i : Int) = fX12_kinds_b28 M (s : Int) fu h _ _
    rw [fX12_kinds_b28.eq_2]
    simp only [lt_d, ms.r788, nn_s, ms.k0, ms.k5, gd_T, eq_self, hc, bd2_id, Int.reduceToNat]
    refine gdg (by omega) (iteT (by omega) ?_)
    rw [rKinI ms hc w hs l2 (by omega)]
    rfl
  · intro fu
    show fX12_kinds_b28 M (s : Int) (fu + 1) h _ ((c 2).toNat : Int) = _
    rw [fX12_kinds_b28.eq_2]
    simp only [lt_d, ms.r788, nn_s, ms.k0, ms.k5, gd_T, eq_self, hc, bd2_id, Int.reduceToNat]
    exact gdg (by omega) (iteF (by omega) rfl)

set_option maxHeartbeats 200000 in
theorem ok_kinds {h : Hp} {X : Nat} {c : Nat → Int} {a : Int} (H : CX h X c) (G : CM h X c) : OK2 (fun h => fX11_kinds h X a) (fun h => fX12_kinds h (X + 121) a) h X := by
  have w := H.wf
  by_cases q1 : okSet c a
  · have pw := pw8 w
    obtain ⟨s, rfl⟩ := i2n q1.1
    have q12 := q1.2
    have hs : s < 2147483648 := by omega
    obtain ⟨⟨h', v⟩, ⟨g2, g3, g4⟩, g1⟩ := xKin H hs
    have g4 : v = _ := g4
    subst g4
    have kx := g3.k
    refine ⟨0, bcN 31 (klS c s (c 2).toNat), ?_, fun h1 p => ?_⟩
    · show XR (fX11_kinds h X (s : Int)) h X _ _
      unfold fX11_kinds
      exact XR.of (by (have z_1 := xSet1 H q1; (repeat' (first | (with_reducible refine ltg ?_) | ((with_reducible refine iteT ?_ ?_); omega) | ((with_reducible refine iteF ?_ ?_); omega) | ((with_reducible refine gdg ?_ ?_); first | with_reducible exact H.k | with_reducible exact z_1 | omega) | ((with_reducible apply nng); first | with_reducible exact H.k | with_reducible exact z_1) | ((with_reducible apply bdg); first | with_reducible exact H.k | with_reducible exact z_1) | ((with_reducible apply bd2g); first | with_reducible exact H.k | with_reducible exact z_1)))); exact g1) (xr_an kx g2)
    · obtain ⟨ms, hc, -⟩ := G.q p
      have key := rKin (h := pI (pI h1 769 (X + 121) 0) 768 (X + 121) 0) ms hc w hs
      simp only [fX12_kinds, lt_d, hK_pI, gR_pI, gA_pI, gB_pI, gC_pI, gJ_pI, ms.r788, nn_s, ms.k0, ms.k5, gd_T, eq_self, hc, bd2_id, Int.reduceToNat]
      exact MR.of (bdg (rSet1 w q1) (iteF (by omega) key)) mr_m0
  · refine ⟨2, -1, ?_, fun h1 p => ?_⟩
    · show XR (fX11_kinds h X a) h X _ _
      unfold fX11_kinds
      exact XR.of (by (have z_1 := xSet0 H q1; (repeat' (first | (with_reducible refine ltg ?_) | ((with_reducible refine iteT ?_ ?_); omega) | ((with_reducible refine iteF ?_ ?_); omega) | ((with_reducible refine gdg ?_ ?_); first | with_reducible exact H.k | with_reducible exact z_1 | omega) | ((with_reducible apply nng); first | with_reducible exact H.k | with_reducible exact z_1) | ((with_reducible apply bdg); first | with_reducible exact H.k | with_reducible exact z_1) | ((with_reducible apply bd2g); first | with_reducible exact H.k | with_reducible exact z_1)))); exact bd2_id _) (xr_re H.k (QR.rf h) (rg_lit rfl))
    · obtain ⟨ms, hc, -⟩ := G.q p
      simp only [fX12_kinds, lt_d, hK_pI, gR_pI, gA_pI, gB_pI, gC_pI, gJ_pI, ms.r788, nn_s, ms.k0, ms.k5, gd_T, eq_self, hc, bd2_id, Int.reduceToNat]
      exact MR.of (by (have z_0 := rSet0 w q1; (repeat' (first | (with_reducible refine ltg ?_) | ((with_reducible refine iteT ?_ ?_); omega) | ((with_reducible refine iteF ?_ ?_); omega) | ((with_reducible refine gdg ?_ ?_); first | with_reducible exact z_0 | omega) | ((with_reducible apply nng); first | with_reducible exact z_0) | ((with_reducible apply bdg); first | with_reducible exact z_0) | ((with_reducible apply bd2g); first | with_reducible exact z_0)))); rfl) (mr_m0r ms (rg_lit rfl))

/-- COMMON -/
def comS (c : Nat → Int) (a b : Int) : Int := mx (hN c a).toNat (fun p => stR (hN c a) (hL c a) (hN c b) (hL c b) (p : Int))
set_option maxHeartbeats 200000 in
theorem stR_bd (n : Int) (L : Int → Int) (n' : Int) (L' : Int → Int) (p : Int) : 0 ≤ stR n L n' L' p ∧ stR n L n' L' p ≤ 1001 := ⟨mx_nn _ _, mx_bd (by omega) (fun k _ => (srS_bd n L n' L' p (k : Int)).2)⟩
set_option maxHeartbeats 200000 in
theorem xCom {h : Hp} {X va vb : Nat} {c : Nat → Int} {a b : Int} (kx : (hK h X).1 = 11) (ra : RV h va (hN c a) (hL c a)) (rb : RV h vb (hN c b) (hL c b)) (u1 u2 : Int) : fX11_common_b41 X u1 u2 FU h va vb 0 0 = fX11_answer h X (comS c a b) := by
  have hb := ra.b
  unfold comS
  have := fg (S := Int) (fun fu v t => fX11_common_b41 X u1 u2 fu h va vb t v) (fun t => fX11_answer h X t) (hN c a).toNat (fun i => mx i (fun p => stR (hN c a) (hL c a) (hN c b) (hL c b) (p : Int))) (by omega) ?_ ?_ 0 (by omega)
  · exact this
  · intro fu i hi
    have e6 : WE ((i : Int) + 1) := we (by omega) (by omega)
    show fX11_common_b41 X u1 u2 (fu + 1) h va vb (mx i (fun p => stR (hN c a) (hL c a) (hN c b) (hL c b) (p : Int))) (i : Int) = fX11_common_b41 X u1 u2 fu h va vb (max (mx i (fun p => stR (hN c a) (hL c a) (hN c b) (hL c b) (p : Int))) (stR (hN c a) (hL c a) (hN c b) (hL c b) (i : Int))) _
    rw [fX11_common_b41.eq_2, ra.z]
    refine gdg ra.k (iteT (by omega) (bdg (xStr ra rb (by omega) (by omega)) ?_))
    rw [lt_d, lt_d, e6.e]
  · intro fu
    show fX11_common_b41 X u1 u2 (fu + 1) h va vb _ ((hN c a).toNat : Int) = _
    rw [fX11_common_b41.eq_2, ra.z]
    exact gdg ra.k (iteF (by omega) (gdg kx (bd2_id _)))
set_option maxHeartbeats 200000 in
theorem rComI {h : Hp} {M : Nat} {c : Nat → Int} {a b p q : Int} (ms : MS h M) (hc : gA h (M + 5) = c) (w : WF c) (a0 : 0 ≤ a) (a8 : a < 8) (b0 : 0 ≤ b) (b8 : b < 8) (p0 : 0 ≤ p) (p8 : p ≤ 100) (q0 : 0 ≤ q) (q8 : q ≤ 100) (k37 : Hp → Int → Int → Option (Int × Hp)) (k50 : Hp → Int → Int → Int → Option (Int × Hp)) (v3 : Int) :
    fX12_common_b63 M a b k37 k50 FU h v3 p q 0 = k50 h (max v3 (srS (hN c a) (hL c a) (hN c b) (hL c b) p q)) p (q + 1) := by
  have ha := hN_bd w a0 a8
  have hb := hN_bd w b0 b8
  have e7 : WE (q + 1) := we (by omega) (by omega)
  have ej : ∀ i : Int, fX12_common_b118 M a b k37 k50 h v3 p q i = k50 h (max v3 i) p (q + 1) := fun i => by rw [fX12_common_b118, lt_d, lt_d, e7.e]
  refine (fke (S := Unit) (fun fu v _ => fX12_common_b63 M a b k37 k50 fu h v3 p q v) (fun (z : Option (Int × Hp)) => z) 1001 (fun i _ => rn (1001 - i) i (srB (hN c a) (hL c a) (hN c b) (hL c b) p q) = rn 1001 0 (srB (hN c a) (hL c a) (hN c b) (hL c b) p q)) (k50 h (max v3 (srS (hN c a) (hL c a) (hN c b) (hL c b) p q)) p (q + 1)) 0 () (by omega) rfl (by omega) ?_ ?_ : _)
  · intro fu i _ hi hI
    have e5 : WE ((i : Int) + 1) := we (by omega) (by omega)
    have e6 : WE (p + (i : Int)) := we (by omega) (by omega)
    have e8 : WE (q + (i : Int)) := we (by omega) (by omega)
    rw [show 1001 - i = (1001 - (i + 1)) + 1 by omega] at hI
    have hI : (if srB (hN c a) (hL c a) (hN c b) (hL c b) p q i then rn (1001 - (i + 1)) (i + 1) (srB (hN c a) (hL c a) (hN c b) (hL c b) p q) else i) = rn 1001 0 (srB (hN c a) (hL c a) (hN c b) (hL c b) p q) := hI
    by_cases g : srB (hN c a) (hL c a) (hN c b) (hL c b) p q i = true
    · left
      rw [if_pos g] at hI
      refine ⟨(), hI, ?_⟩
      unfold srB at g
      simp only [Bool.and_eq_true, decide_eq_true_eq, beq_iff_eq] at g
      show fX12_common_b63 M a b k37 k50 (fu + 1) h v3 p q (i : Int) = fX12_common_b63 M a b k37 k50 fu h v3 p q ((i : Int) + 1)
      rw [fX12_common_b63.eq_2, e6.e, e8.e, e5.e]
      simp only [lt_d, ms.r788, nn_s, ms.k0, ms.k5, gd_T, eq_self, hc, bd2_id, Int.reduceToNat]
      exact bdg (rNow w a0 a8) (iteT (by omega) (bdg (rNow w b0 b8) (iteT (by omega) (bdg (rLet w a0 a8 (by omega) (by omega)) (bdg (rLet w b0 b8 (by omega) (by omega)) (iteT g.2 rfl))))))
    · right
      rw [if_neg g] at hI
      have es : srS (hN c a) (hL c a) (hN c b) (hL c b) p q = (i : Int) := by unfold srS; rw [← hI]
      show fX12_common_b63 M a b k37 k50 (fu + 1) h v3 p q (i : Int) = _
      rw [fX12_common_b63.eq_2, e6.e, e8.e, es]
      simp only [lt_d, ms.r788, nn_s, ms.k0, ms.k5, gd_T, eq_self, hc, bd2_id, Int.reduceToNat]
      unfold srB at g
      simp only [Bool.and_eq_true, decide_eq_true_eq, beq_iff_eq] at g
      refine bdg (rNow w a0 a8) ?_
      by_cases g1 : p + (i : Int) < hN c a
      · refine iteT g1 (bdg (rNow w b0 b8) ?_)
        by_cases g2 : q + (i : Int) < hN c b
        · exact iteT g2 (bdg (rLet w a0 a8 (by omega) (by omega)) (bdg (rLet w b0 b8 (by omega) (by omega)) (iteF (fun z => g ⟨⟨g1, g2⟩, z⟩) (ej _))))
        · exact iteF g2 (ej _)
      · exact iteF g1 (ej _)
  · intro fu _ hI
    have es : srS (hN c a) (hL c a) (hN c b) (hL c b) p q = (1001 : Int) := by unfold srS; rw [← hI]; rfl
    have e6 : WE (p + ((1001 : Nat) : Int)) := we (by omega) (by omega)
    show fX12_common_b63 M a b k37 k50 (fu + 1) h v3 p q ((1001 : Nat) : Int) = _
    rw [fX12_common_b63.eq_2, e6.e, es]
    simp only [lt_d, ms.r788, nn_s, ms.k0, ms.k5, gd_T, eq_self, hc, bd2_id, Int.reduceToNat]
    exact bdg (rNow w a0 a8) (iteF (by omega) (ej _))
set_option maxHeartbeats 200000 in
theorem rCom {h : Hp} {M : Nat} {c : Nat → Int} {a b : Int} (ms : MS h M) (hc : gA h (M + 5) = c) (w : WF c) (a0 : 0 ≤ a) (a8 : a < 8) (b0 : 0 ≤ b) (b8 : b < 8) : fX12_common_b37 M a b FU h 0 0 = some (comS c a b, h) := by
  have ha := hN_bd w a0 a8
  have hb := hN_bd w b0 b8
  unfold comS
  have := fg (S := Int) (fun fu v t => fX12_common_b37 M a b fu h t v) (fun t => some (t, h)) (hN c a).toNat (fun i => mx i (fun p => stR (hN c a) (hL c a) (hN c b) (hL c b) (p : Int))) (by omega) ?_ ?_ 0 (by omega)
  · exact this
  · intro fu i hi
    have e6 : WE ((i : Int) + 1) := we (by omega) (by omega)
    show fX12_common_b37 M a b (fu + 1) h (mx i (fun p => stR (hN c a) (hL c a) (hN c b) (hL c b) (p : Int))) (i : Int) = fX12_common_b37 M a b fu h (max (mx i (fun p => stR (hN c a) (hL c a) (hN c b) (hL c b) (p : Int))) (stR (hN c a) (hL c a) (hN c b) (hL c b) (i : Int))) _
    have m0 := mx_nn i (fun p => stR (hN c a) (hL c a) (hN c b) (hL c b) (p : Int))
    generalize mx i (fun p => stR (hN c a) (hL c a) (hN c b) (hL c b) (p : Int)) = A at m0 ⊢
    rw [fX12_common_b37.eq_2]
    simp only [lt_d, ms.r788, nn_s, ms.k0, ms.k5, gd_T, eq_self, hc, bd2_id, Int.reduceToNat]
    refine bdg (rNow w a0 a8) (iteT (by omega) ?_)
    have mid := fg (S := Int) (fun fu2 v t => fX12_common_b50 M a b (fX12_common_b37 M a b fu) fu2 h t (i : Int) v) (fun t => fX12_common_b37 M a b fu h t ((i : Int) + 1)) (hN c b).toNat (fun q => max A (mx q (fun q => srS (hN c a) (hL c a) (hN c b) (hL c b) (i : Int) (q : Int)))) (by omega)
      (fun fu2 q hq => by
        show fX12_common_b50 M a b (fX12_common_b37 M a b fu) (fu2 + 1) h _ (i : Int) (q : Int) = fX12_common_b50 M a b (fX12_common_b37 M a b fu) fu2 h (max A (max (mx q (fun q => srS (hN c a) (hL c a) (hN c b) (hL c b) (i : Int) (q : Int))) (srS (hN c a) (hL c a) (hN c b) (hL c b) (i : Int) (q : Int)))) (i : Int) ((q : Int) + 1)
        rw [fX12_common_b50.eq_2]
        simp only [lt_d, ms.r788, nn_s, ms.k0, ms.k5, gd_T, eq_self, hc, bd2_id, Int.reduceToNat]
        refine bdg (rNow w b0 b8) (iteT (by omega) ?_)
        rw [rComI ms hc w a0 a8 b0 b8 (by omega) (by omega) (by omega) (by omega)]
        rw [show max (max A (mx q (fun q => srS (hN c a) (hL c a) (hN c b) (hL c b) (i : Int) (q : Int)))) (srS (hN c a) (hL c a) (hN c b) (hL c b) (i : Int) (q : Int)) = max A (max (mx q (fun q => srS (hN c a) (hL c a) (hN c b) (hL c b) (i : Int) (q : Int))) (srS (hN c a) (hL c a) (hN c b) (hL c b) (i : Int) (q : Int))) by omega])
      (fun fu2 => by
        show fX12_common_b50 M a b (fX12_common_b37 M a b fu) (fu2 + 1) h _ (i : Int) ((hN c b).toNat : Int) = _
        rw [fX12_common_b50.eq_2]
        simp only [lt_d, ms.r788, nn_s, ms.k0, ms.k5, gd_T, eq_self, hc, bd2_id, Int.reduceToNat]
        refine bdg (rNow w b0 b8) (iteF (by omega) ?_)
        rw [e6.e]) 0 (by omega)
    have e0 : max A (mx 0 (fun q => srS (hN c a) (hL c a) (hN c b) (hL c b) (i : Int) (q : Int))) = A := by show max A 0 = A; omega
    rw [e0] at mid
    exact mid
  · intro fu
    show fX12_common_b37 M a b (fu + 1) h _ ((hN c a).toNat : Int) = _
    rw [fX12_common_b37.eq_2]
    simp only [lt_d, ms.r788, nn_s, ms.k0, ms.k5, gd_T, eq_self, hc, bd2_id, Int.reduceToNat]
    exact bdg (rNow w a0 a8) (iteF (by omega) rfl)

set_option maxHeartbeats 200000 in
theorem ok_common {h : Hp} {X : Nat} {c : Nat → Int} {a b : Int} (H : CX h X c) (G : CM h X c) : OK2 (fun h => fX11_common h X a b) (fun h => fX12_common h (X + 121) a b) h X := by
  have w := H.wf
  by_cases q1 : okJ c a
  · by_cases q2 : okJ c b
    · have a8 := nj_lt w q1
      have b8 := nj_lt w q2
      obtain ⟨h', g1, g2, g3, g4, g5, g6⟩ := H.hearV q1
      obtain ⟨h'', k1, k2, k3, k4, k5, k6⟩ := g3.hearV q2
      have va := k5 a q1.1 a8 g4
      have gk := va.k
      have kx := g3.k
      have ky := k3.k
      refine ⟨0, comS c a b, ?_, fun h1 p => ?_⟩
      · show XR (fX11_common h X a b) h X _ _
        unfold fX11_common
        exact XR.of (by (have z_1 := xJr1 H q1.1 q1.2; have z_2 := xJr1 H q2.1 q2.2; (repeat' (first | (with_reducible refine ltg ?_) | ((with_reducible refine iteT ?_ ?_); omega) | ((with_reducible refine iteF ?_ ?_); omega) | ((with_reducible refine gdg ?_ ?_); first | with_reducible exact H.k | with_reducible exact z_1 | with_reducible exact z_2 | with_reducible exact g1 | with_reducible exact kx | with_reducible exact k1 | omega) | ((with_reducible apply nng); first | with_reducible exact H.k | with_reducible exact z_1 | with_reducible exact z_2 | with_reducible exact g1 | with_reducible exact kx | with_reducible exact k1) | ((with_reducible apply bdg); first | with_reducible exact H.k | with_reducible exact z_1 | with_reducible exact z_2 | with_reducible exact g1 | with_reducible exact kx | with_reducible exact k1) | ((with_reducible apply bd2g); first | with_reducible exact H.k | with_reducible exact z_1 | with_reducible exact z_2 | with_reducible exact g1 | with_reducible exact kx | with_reducible exact k1)))); exact xCom ky va.v k4.v _ _) (xr_an ky (g2.tr k2))
      · obtain ⟨ms, hc, -⟩ := G.q p
        have key := rCom (h := pI (pI h1 769 (X + 121) 0) 768 (X + 121) 0) ms hc w q1.1 a8 q2.1 b8
        simp only [fX12_common, lt_d, hK_pI, gR_pI, gA_pI, gB_pI, gC_pI, gJ_pI, ms.r788, nn_s, ms.k0, ms.k5, gd_T, eq_self, hc, bd2_id, Int.reduceToNat]
        exact MR.of (by (have z_0 := rJr1 w q1.1 q1.2; have z_1 := rJr1 w q2.1 q2.2; (repeat' (first | (with_reducible refine ltg ?_) | ((with_reducible refine iteT ?_ ?_); omega) | ((with_reducible refine iteF ?_ ?_); omega) | ((with_reducible refine gdg ?_ ?_); first | with_reducible exact z_0 | with_reducible exact z_1 | omega) | ((with_reducible apply nng); first | with_reducible exact z_0 | with_reducible exact z_1) | ((with_reducible apply bdg); first | with_reducible exact z_0 | with_reducible exact z_1) | ((with_reducible apply bd2g); first | with_reducible exact z_0 | with_reducible exact z_1)))); exact key) mr_m0
    · refine ⟨2, -1, ?_, fun h1 p => ?_⟩
      · show XR (fX11_common h X a b) h X _ _
        unfold fX11_common
        exact XR.of (by (have z_1 := xJr1 H q1.1 q1.2; have z_2 := xJr0 H (noJ q2); (repeat' (first | (with_reducible refine ltg ?_) | ((with_reducible refine iteT ?_ ?_); omega) | ((with_reducible refine iteF ?_ ?_); omega) | ((with_reducible refine gdg ?_ ?_); first | with_reducible exact H.k | with_reducible exact z_1 | with_reducible exact z_2 | omega) | ((with_reducible apply nng); first | with_reducible exact H.k | with_reducible exact z_1 | with_reducible exact z_2) | ((with_reducible apply bdg); first | with_reducible exact H.k | with_reducible exact z_1 | with_reducible exact z_2) | ((with_reducible apply bd2g); first | with_reducible exact H.k | with_reducible exact z_1 | with_reducible exact z_2)))); exact bd2_id _) (xr_re H.k (QR.rf h) (rg_lit rfl))
      · obtain ⟨ms, hc, -⟩ := G.q p
        simp only [fX12_common, lt_d, hK_pI, gR_pI, gA_pI, gB_pI, gC_pI, gJ_pI, ms.r788, nn_s, ms.k0, ms.k5, gd_T, eq_self, hc, bd2_id, Int.reduceToNat]
        exact MR.of (by (have z_0 := rJr1 w q1.1 q1.2; have z_1 := rJr0 w (noJ q2); (repeat' (first | (with_reducible refine ltg ?_) | ((with_reducible refine iteT ?_ ?_); omega) | ((with_reducible refine iteF ?_ ?_); omega) | ((with_reducible refine gdg ?_ ?_); first | with_reducible exact z_0 | with_reducible exact z_1 | omega) | ((with_reducible apply nng); first | with_reducible exact z_0 | with_reducible exact z_1) | ((with_reducible apply bdg); first | with_reducible exact z_0 | with_reducible exact z_1) | ((with_reducible apply bd2g); first | with_reducible exact z_0 | with_reducible exact z_1)))); rfl) (mr_m0r ms (rg_lit rfl))
  · refine ⟨2, -1, ?_, fun h1 p => ?_⟩
    · show XR (fX11_common h X a b) h X _ _
      unfold fX11_common
      exact XR.of (by (have z_1 := xJr0 H (noJ q1); (repeat' (first | (with_reducible refine ltg ?_) | ((with_reducible refine iteT ?_ ?_); omega) | ((with_reducible refine iteF ?_ ?_); omega) | ((with_reducible refine gdg ?_ ?_); first | with_reducible exact H.k | with_reducible exact z_1 | omega) | ((with_reducible apply nng); first | with_reducible exact H.k | with_reducible exact z_1) | ((with_reducible apply bdg); first | with_reducible exact H.k | with_reducible exact z_1) | ((with_reducible apply bd2g); first | with_reducible exact H.k | with_reducible exact z_1)))); exact bd2_id _) (xr_re H.k (QR.rf h) (rg_lit rfl))
    · obtain ⟨ms, hc, -⟩ := G.q p
      simp only [fX12_common, lt_d, hK_pI, gR_pI, gA_pI, gB_pI, gC_pI, gJ_pI, ms.r788, nn_s, ms.k0, ms.k5, gd_T, eq_self, hc, bd2_id, Int.reduceToNat]
      exact MR.of (by (have z_0 := rJr0 w (noJ q1); (repeat' (first | (with_reducible refine ltg ?_) | ((with_reducible refine iteT ?_ ?_); omega) | ((with_reducible refine iteF ?_ ?_); omega) | ((with_reducible refine gdg ?_ ?_); first | with_reducible exact z_0 | omega) | ((with_reducible apply nng); first | with_reducible exact z_0) | ((with_reducible apply bdg); first | with_reducible exact z_0) | ((with_reducible apply bd2g); first | with_reducible exact z_0)))); rfl) (mr_m0r ms (rg_lit rfl))

/-- ANY TWO -/
def anB (c : Nat → Int) (a b d : Int) : Bool := decide (0 < hN c a) && decide (hN c a = hN c b) && decide (hN c a = hN c d) && ab (hN c a).toNat (fun k => thS (hL c a (k : Int)) (hL c b (k : Int)) == hL c d (k : Int))
set_option maxHeartbeats 200000 in
theorem xAny {h : Hp} {va vb vd : Nat} {c : Nat → Int} {a b d : Int} (w : WF c) (a0 : 0 ≤ a) (a8 : a < 8) (b0 : 0 ≤ b) (b8 : b < 8) (ra : RV h va (hN c a) (hL c a)) (rb : RV h vb (hN c b) (hL c b)) (rd : RV h vd (hN c d) (hL c d)) : fX11_isThird h va vb vd = some (b01 (anB c a b d)) := by
  have hb := ra.b
  have e0 : fX11_isThird_b33 h va vb vd = some 0 := by
    rw [fX11_isThird_b33, fX11_isThird_b34]
    show fX11_isThird_b38 h va vb vd (999999 + 1) 0 0 = _
    rw [fX11_isThird_b38.eq_2]
    exact iteT rfl (gdg (by omega) rfl)
  unfold fX11_isThird anB
  rw [ra.z, rb.z, rd.z]
  refine gdg ra.k ?_
  by_cases q1 : 0 < hN c a
  · refine iteT q1 (gdg rb.k ?_)
    by_cases q2 : hN c a = hN c b
    · refine iteT q2 (gdg rd.k ?_)
      by_cases q3 : hN c a = hN c d
      · refine iteT q3 ?_
        rw [fX11_isThird_b34]
        have key := flag (fun fu v t => fX11_isThird_b38 h va vb vd fu t v) some (hN c a).toNat (fun k => thS (hL c a (k : Int)) (hL c b (k : Int)) == hL c d (k : Int)) (by omega)
          (fun fu i hi => by
            have e5 : WE ((i : Int) + 1) := we (by omega) (by omega)
            have la := hL_1 w (j := a) (k := (i : Int)) a0 a8 (by omega) (by omega)
            have lb := hL_1 w (j := b) (k := (i : Int)) b0 b8 (by omega) (by omega)
            show fX11_isThird_b38 h va vb vd (fu + 1) 1 (i : Int) = fX11_isThird_b38 h va vb vd fu _ _
            rw [fX11_isThird_b38.eq_2, ra.z]
            refine iteF (by omega) (gdg ra.k (iteT (by omega) (bdg (xAt ra _) (gdg rb.k (bdg (xAt rb _) (bdg (xThird la.1 la.2 lb.1 lb.2) (gdg rd.k (bdg (xAt rd _) ?_))))))))
            rw [lt_d, lt_d, e5.e, eqb_ite])
          (fun fu i hi => by
            show fX11_isThird_b38 h va vb vd (fu + 1) 0 (i : Int) = _
            rw [fX11_isThird_b38.eq_2]
            exact iteT rfl (gdg (by omega) rfl))
          (fun fu => by
            show fX11_isThird_b38 h va vb vd (fu + 1) 1 ((hN c a).toNat : Int) = _
            rw [fX11_isThird_b38.eq_2, ra.z]
            exact iteF (by omega) (gdg ra.k (iteF (by omega) (gdg (by omega) rfl))))
        refine Eq.trans key ?_
        rw [show decide (0 < hN c a) = true from decide_eq_true q1, show decide (hN c a = hN c b) = true from decide_eq_true q2, show decide (hN c a = hN c d) = true from decide_eq_true q3]
        rfl
      · refine iteF q3 ?_
        rw [e0, show decide (hN c a = hN c d) = false from decide_eq_false q3]
        simp [b01]
    · refine iteF q2 ?_
      rw [e0, show decide (hN c a = hN c b) = false from decide_eq_false q2]
      simp [b01]
  · refine iteF q1 ?_
    rw [e0, show decide (0 < hN c a) = false from decide_eq_false q1]
    simp [b01]
set_option maxHeartbeats 200000 in
theorem rAny {h : Hp} {M : Nat} {c : Nat → Int} {a b d : Int} (ms : MS h M) (hc : gA h (M + 5) = c) (w : WF c) (a0 : 0 ≤ a) (a8 : a < 8) (b0 : 0 ≤ b) (b8 : b < 8) (d0 : 0 ≤ d) (d8 : d < 8) (q1 : 0 < hN c a) (q2 : hN c a = hN c b) (q3 : hN c a = hN c d) : fX12_anyTwo_b77 M a b d FU h (hN c a) 0 = some (b01 (anB c a b d), h) := by
  have ha := hN_bd w a0 a8
  have ea : anB c a b d = ab (hN c a).toNat (fun k => thS (hL c a (k : Int)) (hL c b (k : Int)) == hL c d (k : Int)) := by
    unfold anB
    rw [show decide (0 < hN c a) = true from decide_eq_true q1, show decide (hN c a = hN c b) = true from decide_eq_true q2, show decide (hN c a = hN c d) = true from decide_eq_true q3]
    rfl
  rw [ea]
  refine (fke (S := Unit) (fun fu v _ => fX12_anyTwo_b77 M a b d fu h (hN c a) v) some (hN c a).toNat (fun i _ => ∀ k, k < i → (thS (hL c a (k : Int)) (hL c b (k : Int)) == hL c d (k : Int)) = true) (b01 (ab (hN c a).toNat (fun k => thS (hL c a (k : Int)) (hL c b (k : Int)) == hL c d (k : Int))), h) 0 () (by omega) (fun k hk => absurd hk (by omega)) (by omega) ?_ ?_ : _)
  · intro fu i _ hi hI
    have e5 : WE ((i : Int) + 1) := we (by omega) (by omega)
    have la := hL_1 w (j := a) (k := (i : Int)) a0 a8 (by omega) (by omega)
    have lb := hL_1 w (j := b) (k := (i : Int)) b0 b8 (by omega) (by omega)
    have goal : fX12_anyTwo_b77 M a b d (fu + 1) h (hN c a) (i : Int) = if thS (hL c a (i : Int)) (hL c b (i : Int)) = hL c d (i : Int) then fX12_anyTwo_b77 M a b d fu h (hN c a) ((i : Int) + 1) else some (0, h) := by
      rw [fX12_anyTwo_b77.eq_2, e5.e]
      simp only [lt_d, ms.r788, nn_s, ms.k0, ms.k5, gd_T, eq_self, hc, bd2_id, Int.reduceToNat]
      refine iteT (by omega) (bdg (rLet w a0 a8 (by omega) (by omega)) (bdg (rLet w b0 b8 (by omega) (by omega)) (bdg (rLet w d0 d8 (by omega) (by omega)) ?_)))
      rw [rThird la.1 la.2 lb.1 lb.2]
    by_cases z : thS (hL c a (i : Int)) (hL c b (i : Int)) = hL c d (i : Int)
    · left
      refine ⟨(), fun k hk => ?_, ?_⟩
      · rcases Nat.lt_succ_iff_lt_or_eq.mp hk with y | y
        · exact hI k y
        · subst y; simp [z]
      · show fX12_anyTwo_b77 M a b d (fu + 1) h (hN c a) (i : Int) = _
        rw [goal, if_pos z]
    · right
      show fX12_anyTwo_b77 M a b d (fu + 1) h (hN c a) (i : Int) = _
      rw [goal, if_neg z, ab_no (k := i) hi (by simp [z])]
      rfl
  · intro fu _ hI
    show fX12_anyTwo_b77 M a b d (fu + 1) h (hN c a) ((hN c a).toNat : Int) = _
    rw [fX12_anyTwo_b77.eq_2, ab_iff.mpr hI]
    exact iteF (by omega) rfl

set_option maxHeartbeats 200000 in
theorem ok_anyTwo {h : Hp} {X : Nat} {c : Nat → Int} {a b d : Int} (H : CX h X c) (G : CM h X c) : OK2 (fun h => fX11_anyTwo h X a b d) (fun h => fX12_anyTwo h (X + 121) a b d) h X := by
  have w := H.wf
  by_cases q1 : okJ c a
  · by_cases q2 : okJ c b
    · by_cases q3 : okJ c d
      · have a8 := nj_lt w q1
        have b8 := nj_lt w q2
        obtain ⟨h', g1, g2, g3, g4, g5, g6⟩ := H.hearV q1
        obtain ⟨h'', k1, k2, k3, k4, k5, k6⟩ := g3.hearV q2
        have va := k5 a q1.1 a8 g4
        have gk := va.k
        have kx := g3.k
        have ky := k3.k
        have d8 := nj_lt w q3
        have vb := k4
        obtain ⟨hz, m1, m2, m3, m4, m5, m6⟩ := k3.hearV q3
        have va' := m5 a q1.1 a8 va
        have vb' := m5 b q2.1 b8 vb
        have kz := m3.k
        have tt := xAny w q1.1 a8 q2.1 b8 va'.v vb'.v m4.v
        refine ⟨0, b01 (anB c a b d), ?_, fun h1 p => ?_⟩
        · have eb : (if b01 (anB c a b d) = 0 then (0 : Int) else 1) = b01 (anB c a b d) := by cases anB c a b d <;> rfl
          have xa : XR (fX11_answer hz X (if b01 (anB c a b d) = 0 then (0 : Int) else 1)) h X 0 (b01 (anB c a b d)) := by rw [eb]; exact xr_an kz ((g2.tr k2).tr m2)
          show XR (fX11_anyTwo h X a b d) h X _ _
          unfold fX11_anyTwo
          exact XR.of (by (have z_1 := xJr1 H q1.1 q1.2; have z_2 := xJr1 H q2.1 q2.2; have z_3 := xJr1 H q3.1 q3.2; (repeat' (first | (with_reducible refine ltg ?_) | ((with_reducible refine iteT ?_ ?_); omega) | ((with_reducible refine iteF ?_ ?_); omega) | ((with_reducible refine gdg ?_ ?_); first | with_reducible exact H.k | with_reducible exact z_1 | with_reducible exact z_2 | with_reducible exact z_3 | with_reducible exact g1 | with_reducible exact kx | with_reducible exact k1 | with_reducible exact ky | with_reducible exact m1 | with_reducible exact kz | with_reducible exact tt | omega) | ((with_reducible apply nng); first | with_reducible exact H.k | with_reducible exact z_1 | with_reducible exact z_2 | with_reducible exact z_3 | with_reducible exact g1 | with_reducible exact kx | with_reducible exact k1 | with_reducible exact ky | with_reducible exact m1 | with_reducible exact kz | with_reducible exact tt) | ((with_reducible apply bdg); first | with_reducible exact H.k | with_reducible exact z_1 | with_reducible exact z_2 | with_reducible exact z_3 | with_reducible exact g1 | with_reducible exact kx | with_reducible exact k1 | with_reducible exact ky | with_reducible exact m1 | with_reducible exact kz | with_reducible exact tt) | ((with_reducible apply bd2g); first | with_reducible exact H.k | with_reducible exact z_1 | with_reducible exact z_2 | with_reducible exact z_3 | with_reducible exact g1 | with_reducible exact kx | with_reducible exact k1 | with_reducible exact ky | with_reducible exact m1 | with_reducible exact kz | with_reducible exact tt)))); exact bd2_id _) xa
        · obtain ⟨ms, hc, -⟩ := G.q p
          simp only [fX12_anyTwo, lt_d, hK_pI, gR_pI, gA_pI, gB_pI, gC_pI, gJ_pI, ms.r788, nn_s, ms.k0, ms.k5, gd_T, eq_self, hc, bd2_id, Int.reduceToNat]
          refine MR.of (bdg (rJr1 w q1.1 q1.2) (iteF (by omega) (bdg (rJr1 w q2.1 q2.2) (iteF (by omega) (bdg (rJr1 w q3.1 q3.2) (iteF (by omega) (bdg (rNow w q1.1 a8) ?_))))))) mr_m0
          have na : anB c a b d = (decide (0 < hN c a) && decide (hN c a = hN c b) && decide (hN c a = hN c d) && ab (hN c a).toNat (fun k => thS (hL c a (k : Int)) (hL c b (k : Int)) == hL c d (k : Int))) := rfl
          have hb := hN_bd w q1.1 a8
          by_cases y1 : 0 < hN c a
          · refine iteF (by omega) (bdg (rNow w q2.1 b8) ?_)
            by_cases y2 : hN c a = hN c b
            · refine iteT (by omega) (bdg (rNow w q3.1 d8) ?_)
              by_cases y3 : hN c a = hN c d
              · exact iteT (by omega) (rAny (h := pI (pI h1 769 (X + 121) 0) 768 (X + 121) 0) ms hc w q1.1 a8 q2.1 b8 q3.1 d8 y1 y2 y3)
              · refine iteF (by omega) ?_
                rw [na, show decide (hN c a = hN c d) = false from decide_eq_false y3]
                simp [b01]
            · refine iteF (by omega) ?_
              rw [na, show decide (hN c a = hN c b) = false from decide_eq_false y2]
              simp [b01]
          · refine iteT (by omega) ?_
            rw [na, show decide (0 < hN c a) = false from decide_eq_false y1]
            simp [b01]
      · refine ⟨2, -1, ?_, fun h1 p => ?_⟩
        · show XR (fX11_anyTwo h X a b d) h X _ _
          unfold fX11_anyTwo
          exact XR.of (by (have z_1 := xJr1 H q1.1 q1.2; have z_2 := xJr1 H q2.1 q2.2; have z_3 := xJr0 H (noJ q3); (repeat' (first | (with_reducible refine ltg ?_) | ((with_reducible refine iteT ?_ ?_); omega) | ((with_reducible refine iteF ?_ ?_); omega) | ((with_reducible refine gdg ?_ ?_); first | with_reducible exact H.k | with_reducible exact z_1 | with_reducible exact z_2 | with_reducible exact z_3 | omega) | ((with_reducible apply nng); first | with_reducible exact H.k | with_reducible exact z_1 | with_reducible exact z_2 | with_reducible exact z_3) | ((with_reducible apply bdg); first | with_reducible exact H.k | with_reducible exact z_1 | with_reducible exact z_2 | with_reducible exact z_3) | ((with_reducible apply bd2g); first | with_reducible exact H.k | with_reducible exact z_1 | with_reducible exact z_2 | with_reducible exact z_3)))); exact bd2_id _) (xr_re H.k (QR.rf h) (rg_lit rfl))
        · obtain ⟨ms, hc, -⟩ := G.q p
          simp only [fX12_anyTwo, lt_d, hK_pI, gR_pI, gA_pI, gB_pI, gC_pI, gJ_pI, ms.r788, nn_s, ms.k0, ms.k5, gd_T, eq_self, hc, bd2_id, Int.reduceToNat]
          exact MR.of (by (have z_0 := rJr1 w q1.1 q1.2; have z_1 := rJr1 w q2.1 q2.2; have z_2 := rJr0 w (noJ q3); (repeat' (first | (with_reducible refine ltg ?_) | ((with_reducible refine iteT ?_ ?_); omega) | ((with_reducible refine iteF ?_ ?_); omega) | ((with_reducible refine gdg ?_ ?_); first | with_reducible exact z_0 | with_reducible exact z_1 | with_reducible exact z_2 | omega) | ((with_reducible apply nng); first | with_reducible exact z_0 | with_reducible exact z_1 | with_reducible exact z_2) | ((with_reducible apply bdg); first | with_reducible exact z_0 | with_reducible exact z_1 | with_reducible exact z_2) | ((with_reducible apply bd2g); first | with_reducible exact z_0 | with_reducible exact z_1 | with_reducible exact z_2)))); rfl) (mr_m0r ms (rg_lit rfl))
    · refine ⟨2, -1, ?_, fun h1 p => ?_⟩
      · show XR (fX11_anyTwo h X a b d) h X _ _
        unfold fX11_anyTwo
        exact XR.of (by (have z_1 := xJr1 H q1.1 q1.2; have z_2 := xJr0 H (noJ q2); (repeat' (first | (with_reducible refine ltg ?_) | ((with_reducible refine iteT ?_ ?_); omega) | ((with_reducible refine iteF ?_ ?_); omega) | ((with_reducible refine gdg ?_ ?_); first | with_reducible exact H.k | with_reducible exact z_1 | with_reducible exact z_2 | omega) | ((with_reducible apply nng); first | with_reducible exact H.k | with_reducible exact z_1 | with_reducible exact z_2) | ((with_reducible apply bdg); first | with_reducible exact H.k | with_reducible exact z_1 | with_reducible exact z_2) | ((with_reducible apply bd2g); first | with_reducible exact H.k | with_reducible exact z_1 | with_reducible exact z_2)))); exact bd2_id _) (xr_re H.k (QR.rf h) (rg_lit rfl))
      · obtain ⟨ms, hc, -⟩ := G.q p
        simp only [fX12_anyTwo, lt_d, hK_pI, gR_pI, gA_pI, gB_pI, gC_pI, gJ_pI, ms.r788, nn_s, ms.k0, ms.k5, gd_T, eq_self, hc, bd2_id, Int.reduceToNat]
        exact MR.of (by (have z_0 := rJr1 w q1.1 q1.2; have z_1 := rJr0 w (noJ q2); (repeat' (first | (with_reducible refine ltg ?_) | ((with_reducible refine iteT ?_ ?_); omega) | ((with_reducible refine iteF ?_ ?_); omega) | ((with_reducible refine gdg ?_ ?_); first | with_reducible exact z_0 | with_reducible exact z_1 | omega) | ((with_reducible apply nng); first | with_reducible exact z_0 | with_reducible exact z_1) | ((with_reducible apply bdg); first | with_reducible exact z_0 | with_reducible exact z_1) | ((with_reducible apply bd2g); first | with_reducible exact z_0 | with_reducible exact z_1)))); rfl) (mr_m0r ms (rg_lit rfl))
  · refine ⟨2, -1, ?_, fun h1 p => ?_⟩
    · show XR (fX11_anyTwo h X a b d) h X _ _
      unfold fX11_anyTwo
      exact XR.of (by (have z_1 := xJr0 H (noJ q1); (repeat' (first | (with_reducible refine ltg ?_) | ((with_reducible refine iteT ?_ ?_); omega) | ((with_reducible refine iteF ?_ ?_); omega) | ((with_reducible refine gdg ?_ ?_); first | with_reducible exact H.k | with_reducible exact z_1 | omega) | ((with_reducible apply nng); first | with_reducible exact H.k | with_reducible exact z_1) | ((with_reducible apply bdg); first | with_reducible exact H.k | with_reducible exact z_1) | ((with_reducible apply bd2g); first | with_reducible exact H.k | with_reducible exact z_1)))); exact bd2_id _) (xr_re H.k (QR.rf h) (rg_lit rfl))
    · obtain ⟨ms, hc, -⟩ := G.q p
      simp only [fX12_anyTwo, lt_d, hK_pI, gR_pI, gA_pI, gB_pI, gC_pI, gJ_pI, ms.r788, nn_s, ms.k0, ms.k5, gd_T, eq_self, hc, bd2_id, Int.reduceToNat]
      exact MR.of (by (have z_0 := rJr0 w (noJ q1); (repeat' (first | (with_reducible refine ltg ?_) | ((with_reducible refine iteT ?_ ?_); omega) | ((with_reducible refine iteF ?_ ?_); omega) | ((with_reducible refine gdg ?_ ?_); first | with_reducible exact z_0 | omega) | ((with_reducible apply nng); first | with_reducible exact z_0) | ((with_reducible apply bdg); first | with_reducible exact z_0) | ((with_reducible apply bd2g); first | with_reducible exact z_0)))); rfl) (mr_m0r ms (rg_lit rfl))
