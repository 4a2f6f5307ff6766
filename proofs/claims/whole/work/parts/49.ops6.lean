/-! QUERIES, sixth lot: witness clearest (written by wip/whole/g49.py) -/
set_option maxHeartbeats 200000 in
theorem Except_free : True := trivial
/-- the counts: what sounds go with each jar -/
def CN (h : Hp) (X : Nat) (c : Nat → Int) (n : Nat) : Prop := ∀ j : Nat, j < n → gA h (X + 101) j = ((bs (c 1).toNat (siJ c j) : Nat) : Int)
set_option maxHeartbeats 200000 in
theorem xFc {h : Hp} {X : Nat} {c : Nat → Int} {s : Nat} (H : CX h X c) (N : CN h X c (c 2).toNat) (hs : s < 2147483648) : fX11_fitsCounted h X (s : Int) = some ((fitS c s : Nat) : Int) := by
  have w := H.wf
  have hj := w.nj
  have hn := w.ns
  obtain ⟨S, f1, f2, f3, f4, f5, -⟩ := H.shop
  unfold fX11_fitsCounted
  refine gdg H.k (nng f1 (gdg f2 (bdg (xAllS f3 w) ?_)))
  have := fg (S := Int) (fun fu v t => fX11_fitsCounted_b10 h X (s : Int) fu t v) some (c 2).toNat (fun i => ((bs (c 1).toNat (fitP c s i) : Nat) : Int)) (by omega) ?_ ?_ 0 (by omega)
  · exact this
  · intro fu i hi
    have e5 : WE ((i : Int) + 1) := we (by omega) (by omega)
    have hb := bs_lt (c 1).toNat (fitP c s i)
    have hb2 : 2 ^ (c 1).toNat ≤ 2 ^ 8 := Nat.pow_le_pow_right (by omega) (by omega)
    show fX11_fitsCounted_b10 h X (s : Int) (fu + 1) _ (i : Int) = fX11_fitsCounted_b10 h X (s : Int) fu _ _
    rw [fX11_fitsCounted_b10.eq_2]
    refine gdg H.k (nng f1 (gdg f2 (iteT (by omega) ?_)))
    by_cases q : s.testBit i = true
    · have e1 : fX11_isIn (s : Int) (i : Int) = some 1 := by rw [xIsIn hs (by omega), q]; rfl
      have ef : (fun k => fitP c s i k && siJ c i k) = fitP c s (i + 1) := by
        funext k
        rw [fitP_s]
        simp [q]
      have k101 : (hK h (X + 101)) = (21, 27) := H.1.k101
      refine bdg e1 (iteF (by omega) (nng H.1.r712 (gdg (by rw [k101]) (gdg (by rw [k101]; show 0 ≤ _ ∧ _ < (27 : Int); omega) ?_))))
      rw [show (i : Int).toNat = i by omega, N i hi, bnd_n (by omega), bs_and, lt_d, fX11_fitsCounted_b38, lt_d, e5.e, ef]
    · have q : s.testBit i = false := by simpa using q
      have e1 : fX11_isIn (s : Int) (i : Int) = some 0 := by rw [xIsIn hs (by omega), q]; rfl
      have ef : fitP c s (i + 1) = fitP c s i := by
        funext k
        rw [fitP_s]
        simp [q]
      refine bdg e1 (iteT rfl ?_)
      rw [fX11_fitsCounted_b38, lt_d, e5.e, ef]
  · intro fu
    show fX11_fitsCounted_b10 h X (s : Int) (fu + 1) _ ((c 2).toNat : Int) = _
    rw [fX11_fitsCounted_b10.eq_2]
    exact gdg H.k (nng f1 (gdg f2 (iteF (by omega) rfl)))
def wtOk (c : Nat → Int) (s : Int) (set : Nat) : Bool := decide (fitS c set = 2 ^ s.toNat)
def wtS (c : Nat → Int) (s : Int) : Int := lsF (wtOk c s) (bcN 8) (2 ^ (c 2).toNat)
set_option maxHeartbeats 200000 in
theorem bc8 {c : Nat → Int} (w : WF c) {s : Nat} (hs : s < 2 ^ (c 2).toNat) : bcN 31 s = bcN 8 s := by
  have p := pw8 w
  exact bcN_lt (n := 8) (m := 31) (show s < 256 by omega) (by omega)
set_option maxHeartbeats 200000 in
theorem xWtL {h : Hp} {X : Nat} {c : Nat → Int} {s : Int} (H : CX h X c) (N : CN h X c (c 2).toNat) (s0 : 0 ≤ s) (s8 : s < 8) : fX11_leastWitness_b41 X (shl 1 s) FU h (-1) 0 = some (wtS c s, h) := by
  have w := H.wf
  have p := pw8 w
  obtain ⟨S, f1, f2, f3, f4, f5, -⟩ := H.shop
  have aj := xAllJ f3 w
  have b8 := fun s hs => bc8 w (s := s) hs
  have es : shl 1 s = ((2 ^ s.toNat : Nat) : Int) := shl_n s0 (by omega)
  rw [es]
  unfold wtS
  generalize 2 ^ (c 2).toNat = N2 at p aj b8 ⊢
  have := fg (S := Int) (fun fu v t => fX11_leastWitness_b41 X ((2 ^ s.toNat : Nat) : Int) fu h t v) (fun t => some (t, h)) N2 (fun i => lsF (wtOk c s) (bcN 8) i) (by omega) ?_ ?_ 0 (by omega)
  · exact this
  · intro fu i hi
    have e5 : WE ((i : Int) + 1) := we (by omega) (by omega)
    have eu := lsF_s (wtOk c s) (bcN 8) i
    have bb := lsF_bd (wtOk c s) (bcN 8) i
    show fX11_leastWitness_b41 X ((2 ^ s.toNat : Nat) : Int) (fu + 1) h (lsF (wtOk c s) (bcN 8) i) (i : Int) = fX11_leastWitness_b41 X ((2 ^ s.toNat : Nat) : Int) fu h (lsF (wtOk c s) (bcN 8) (i + 1)) _
    generalize lsF (wtOk c s) (bcN 8) i = B at eu bb ⊢
    generalize lsF (wtOk c s) (bcN 8) (i + 1) = B' at eu ⊢
    rw [fX11_leastWitness_b41.eq_2]
    refine gdg H.k (nng f1 (gdg f2 (bdg aj (iteT (by omega) ?_))))
    have go : (B < 0 ∨ bcN 8 i < bcN 8 B.toNat) → fX11_leastWitness_b68 X ((2 ^ s.toNat : Nat) : Int) (fX11_leastWitness_b41 X ((2 ^ s.toNat : Nat) : Int) fu) h B (i : Int) = fX11_leastWitness_b41 X ((2 ^ s.toNat : Nat) : Int) fu h B' ((i : Int) + 1) := fun z => by
      rw [fX11_leastWitness_b68, fX11_leastWitness_b73]
      refine iteF (by omega) (gdg H.k (bdg (xFc H N (by omega)) ?_))
      by_cases q : fitS c i = 2 ^ s.toNat
      · have e : B' = (i : Int) := by
          rw [eu, if_pos]
          unfold wtOk
          rcases z with z | z <;> simp [q, z]
        refine iteT (by rw [q]) ?_
        rw [fX11_leastWitness_b91, lt_d, e5.e, e]
      · have e : B' = B := by
          rw [eu, if_neg]
          unfold wtOk
          simp [q]
        refine iteF (fun zz => q (by omega)) ?_
        rw [fX11_leastWitness_b91, lt_d, e5.e, e]
    by_cases q3 : B < 0
    · refine iteT (by omega) (go (Or.inl q3))
    · have eB : B = ((B.toNat : Nat) : Int) := by omega
      have f9 : fJ6_bitCount_0f7a4 B = some (bcN 8 B.toNat) := by
        have := xBits (s := B.toNat) (by omega)
        rw [← eB, b8 B.toNat (by omega)] at this
        exact this
      have f8 : fJ6_bitCount_0f7a4 (i : Int) = some (bcN 8 i) := by
        have := xBits (s := i) (by omega)
        rw [b8 i hi] at this
        exact this
      refine iteF (by omega) (bdg f8 (bdg f9 ?_))
      by_cases q4 : bcN 8 i < bcN 8 B.toNat
      · exact iteT q4 (go (Or.inr q4))
      · have e : B' = B := by
          rw [eu, if_neg]
          simp [q3, q4]
        refine iteF q4 ?_
        rw [fX11_leastWitness_b73]
        refine iteT rfl ?_
        rw [fX11_leastWitness_b91, lt_d, e5.e, e]
  · intro fu
    show fX11_leastWitness_b41 X ((2 ^ s.toNat : Nat) : Int) (fu + 1) h _ (N2 : Int) = _
    rw [fX11_leastWitness_b41.eq_2]
    exact gdg H.k (nng f1 (gdg f2 (bdg aj (iteF (by omega) rfl))))
set_option maxHeartbeats 200000 in
theorem xWit {h : Hp} {X : Nat} {c : Nat → Int} {s : Int} (H : CX h X c) (s0 : 0 ≤ s) (s8 : s < 8) :
    ∃ t : Hp, (QX X h t ∧ CX t X c) ∧ fX11_leastWitness h X (shl 1 s) = some (wtS c s, t) := by
  have w := H.wf
  have hj := w.nj
  exact fk (S := Hp) (T := Hp) (fun fu v t => fX11_leastWitness_b2 X (shl 1 s) fu t v) (fun t => some (wtS c s, t)) (c 2).toNat (fun i t => QX X h t ∧ CX t X c ∧ CN t X c i) (fun t => QX X h t ∧ CX t X c) 0 h (by omega) ⟨QR.rf h, H, fun j hj' => absurd hj' (by omega)⟩ (by omega)
    (fun fu i h1 hi hI => by
      obtain ⟨p1, p2, p3⟩ := hI
      have e5 : WE ((i : Int) + 1) := we (by omega) (by omega)
      obtain ⟨S, f1, f2, f3, f4, f5, -⟩ := p2.shop
      obtain ⟨h', g1, g2, g3, g4, g5, g6⟩ := p2.hearV (k := (i : Int)) ⟨by omega, by omega⟩
      obtain ⟨S', t1, t2, t3, -⟩ := g3.shop
      have eS : S' = S := by
        rw [g2.r (by unfold sc; omega), f1] at t1
        exact (Option.some.inj t1).symm
      subst eS
      have hb := bs_lt (c 1).toNat (siJ c i)
      have hn := w.ns
      have hb2 : 2 ^ (c 1).toNat ≤ 2 ^ 8 := Nat.pow_le_pow_right (by omega) (by omega)
      have k101 : (hK h' (X + 101)) = (21, 27) := g3.1.k101
      have qs : QX X h' (sA h' (X + 101) (i : Int) ((bs (c 1).toNat (siJ c i) : Nat) : Int)) := q_sA h' (by unfold sc; omega)
      left
      refine ⟨sA h' (X + 101) (i : Int) ((bs (c 1).toNat (siJ c i) : Nat) : Int), ⟨(p1.tr g2).tr qs, g3.q qs po_X, fun j hj' => ?_⟩, ?_⟩
      · rw [gA_sA]
        by_cases z : j = i
        · rw [if_pos ⟨rfl, by omega⟩, z, w32_id (by omega) (by omega)]
        · rw [if_neg (by omega), g6.a (by omega)]
          exact p3 j (by omega)
      · show fX11_leastWitness_b2 X (shl 1 s) (fu + 1) h1 (i : Int) = fX11_leastWitness_b2 X (shl 1 s) fu _ ((i : Int) + 1)
        rw [fX11_leastWitness_b2.eq_2]
        have sw := xSw t3 w g4.v
        refine gdg p2.k (nng f1 (gdg f2 (iteT (by omega) (nng p2.1.r712 (bd2g g1 (gdg t2 (bdg sw (gdg (by rw [k101]) (gdg (by rw [k101]; show 0 ≤ _ ∧ _ < (27 : Int); omega) ?_)))))))))
        rw [lt_d, lt_d, e5.e]
        rfl)
    (fun fu h1 hI => by
      obtain ⟨p1, p2, p3⟩ := hI
      obtain ⟨S, f1, f2, f3, f4, f5, -⟩ := p2.shop
      refine ⟨h1, ⟨p1, p2⟩, ?_⟩
      show fX11_leastWitness_b2 X (shl 1 s) (fu + 1) h1 ((c 2).toNat : Int) = _
      rw [fX11_leastWitness_b2.eq_2]
      exact gdg p2.k (nng f1 (gdg f2 (iteF (by omega) (xWtL p2 p3 s0 s8)))))
set_option maxHeartbeats 200000 in
theorem rWit {h : Hp} {M : Nat} {c : Nat → Int} {s : Int} (ms : MS h M) (hc : gA h (M + 5) = c) (w : WF c) (s0 : 0 ≤ s) (s8 : s < 8) : fX12_witness_b28 M s FU h (-1) 0 = if wtS c s < 0 then fX12_refuse h M 8 else some (wtS c s, h) := by
  have p := pw8 w
  have hj := w.nj
  have hsh := shl_n hj.1 hj.2
  have es : shl 1 s = ((2 ^ s.toNat : Nat) : Int) := shl_n s0 (by omega)
  unfold wtS
  generalize 2 ^ (c 2).toNat = N at p hsh ⊢
  have := fg (S := Int) (fun fu v t => fX12_witness_b28 M s fu h t v) (fun t => if t < 0 then fX12_refuse h M 8 else some (t, h)) N (fun i => lsF (wtOk c s) (bcN 8) i) (by omega) ?_ ?_ 0 (by omega)
  · exact this
  · intro fu i hi
    have e5 : WE ((i : Int) + 1) := we (by omega) (by omega)
    have eu := lsF_s (wtOk c s) (bcN 8) i
    have bb := lsF_bd (wtOk c s) (bcN 8) i
    show fX12_witness_b28 M s (fu + 1) h (lsF (wtOk c s) (bcN 8) i) (i : Int) = fX12_witness_b28 M s fu h (lsF (wtOk c s) (bcN 8) (i + 1)) _
    generalize lsF (wtOk c s) (bcN 8) i = B at eu bb ⊢
    generalize lsF (wtOk c s) (bcN 8) (i + 1) = B' at eu ⊢
    rw [fX12_witness_b28.eq_2]
    simp only [lt_d, ms.r788, nn_s, ms.k0, ms.k5, gd_T, eq_self, hc, bd2_id, Int.reduceToNat, hsh]
    refine gdg (by omega) (iteT (by omega) ?_)
    have go : (B < 0 ∨ bcN 8 i < bcN 8 B.toNat) → fX12_witness_b55 M s (fX12_witness_b28 M s fu) h B (i : Int) = fX12_witness_b28 M s fu h B' ((i : Int) + 1) := fun z => by
      rw [fX12_witness_b55, es]
      simp only [lt_d, ms.r788, nn_s, ms.k0, ms.k5, gd_T, eq_self, hc, bd2_id, Int.reduceToNat]
      refine bdg (rFits w (by omega)) ?_
      by_cases q : fitS c i = 2 ^ s.toNat
      · have e : B' = (i : Int) := by
          rw [eu, if_pos]
          unfold wtOk
          rcases z with z | z <;> simp [q, z]
        refine iteT (by rw [q]) ?_
        rw [fX12_witness_b68, lt_d, e5.e, e]
      · have e : B' = B := by
          rw [eu, if_neg]
          unfold wtOk
          simp [q]
        refine iteF (fun zz => q (by omega)) ?_
        rw [fX12_witness_b68, lt_d, e5.e, e]
    by_cases q3 : B < 0
    · exact iteT q3 (go (Or.inl q3))
    · have eB : B = ((B.toNat : Nat) : Int) := by omega
      have f9 : fX12_bits B = some (bcN 8 B.toNat) := by
        have := rBits (s := B.toNat) (by omega)
        rw [← eB] at this
        exact this
      refine iteF q3 (bdg (rBits (by omega)) (bdg f9 ?_))
      by_cases q4 : bcN 8 i < bcN 8 B.toNat
      · exact iteT q4 (go (Or.inr q4))
      · have e : B' = B := by
          rw [eu, if_neg]
          simp [q3, q4]
        refine iteF q4 ?_
        rw [fX12_witness_b68, lt_d, e5.e, e]
  · intro fu
    show fX12_witness_b28 M s (fu + 1) h _ (N : Int) = _
    rw [fX12_witness_b28.eq_2]
    simp only [lt_d, ms.r788, nn_s, ms.k0, ms.k5, gd_T, eq_self, hc, bd2_id, Int.reduceToNat, hsh]
    exact gdg (by omega) (iteF (by omega) rfl)

set_option maxHeartbeats 200000 in
theorem ok_witness {h : Hp} {X : Nat} {c : Nat → Int} {s : Int} (H : CX h X c) (G : CM h X c) : OK2 (fun h => fX11_witness h X s) (fun h => fX12_witness h (X + 121) s) h X := by
  have w := H.wf
  by_cases q1 : okS c s
  · have s8 := ns_lt w q1
    obtain ⟨h', ⟨g2, g3⟩, g1⟩ := xWit H q1.1 s8
    have kx := g3.k
    have bd : -1 ≤ wtS c s ∧ _ := lsF_bd _ _ _
    by_cases z : wtS c s < 0
    · have z1 : wtS c s = -1 := by omega
      refine ⟨8, -1, ?_, fun h1 p => ?_⟩
      · rw [z1] at g1
        show XR (fX11_witness h X s) h X _ _
        unfold fX11_witness
        exact XR.of (by (have z_1 := xSn1 H q1.1 q1.2; (repeat' (first | (with_reducible refine ltg ?_) | ((with_reducible refine iteT ?_ ?_); omega) | ((with_reducible refine iteF ?_ ?_); omega) | ((with_reducible refine gdg ?_ ?_); first | with_reducible exact H.k | with_reducible exact z_1 | with_reducible exact g1 | with_reducible exact kx | omega) | ((with_reducible apply nng); first | with_reducible exact H.k | with_reducible exact z_1 | with_reducible exact g1 | with_reducible exact kx) | ((with_reducible apply bdg); first | with_reducible exact H.k | with_reducible exact z_1 | with_reducible exact g1 | with_reducible exact kx) | ((with_reducible apply bd2g); first | with_reducible exact H.k | with_reducible exact z_1 | with_reducible exact g1 | with_reducible exact kx)))); exact bd2_id _) (xr_nn kx g2)
      · obtain ⟨ms, hc, -⟩ := G.q p
        have key := rWit (h := pI (pI h1 769 (X + 121) 0) 768 (X + 121) 0) ms hc w q1.1 s8
        rw [if_pos z] at key
        simp only [fX12_witness, lt_d, hK_pI, gR_pI, gA_pI, gB_pI, gC_pI, gJ_pI, ms.r788, nn_s, ms.k0, ms.k5, gd_T, eq_self, hc, bd2_id, Int.reduceToNat]
        exact MR.of (by (have z_0 := rSn1 w q1.1 q1.2; (repeat' (first | (with_reducible refine ltg ?_) | ((with_reducible refine iteT ?_ ?_); omega) | ((with_reducible refine iteF ?_ ?_); omega) | ((with_reducible refine gdg ?_ ?_); first | with_reducible exact z_0 | omega) | ((with_reducible apply nng); first | with_reducible exact z_0) | ((with_reducible apply bdg); first | with_reducible exact z_0) | ((with_reducible apply bd2g); first | with_reducible exact z_0)))); exact key) (mr_m0r ms (rg_lit rfl))
    · refine ⟨0, wtS c s, ?_, fun h1 p => ?_⟩
      · show XR (fX11_witness h X s) h X _ _
        unfold fX11_witness
        exact XR.of (by (have z_1 := xSn1 H q1.1 q1.2; (repeat' (first | (with_reducible refine ltg ?_) | ((with_reducible refine iteT ?_ ?_); omega) | ((with_reducible refine iteF ?_ ?_); omega) | ((with_reducible refine gdg ?_ ?_); first | with_reducible exact H.k | with_reducible exact z_1 | with_reducible exact g1 | with_reducible exact kx | omega) | ((with_reducible apply nng); first | with_reducible exact H.k | with_reducible exact z_1 | with_reducible exact g1 | with_reducible exact kx) | ((with_reducible apply bdg); first | with_reducible exact H.k | with_reducible exact z_1 | with_reducible exact g1 | with_reducible exact kx) | ((with_reducible apply bd2g); first | with_reducible exact H.k | with_reducible exact z_1 | with_reducible exact g1 | with_reducible exact kx)))); exact bd2_id _) (xr_ns kx g2 (by omega))
      · obtain ⟨ms, hc, -⟩ := G.q p
        have key := rWit (h := pI (pI h1 769 (X + 121) 0) 768 (X + 121) 0) ms hc w q1.1 s8
        rw [if_neg z] at key
        simp only [fX12_witness, lt_d, hK_pI, gR_pI, gA_pI, gB_pI, gC_pI, gJ_pI, ms.r788, nn_s, ms.k0, ms.k5, gd_T, eq_self, hc, bd2_id, Int.reduceToNat]
        exact MR.of (by (have z_0 := rSn1 w q1.1 q1.2; (repeat' (first | (with_reducible refine ltg ?_) | ((with_reducible refine iteT ?_ ?_); omega) | ((with_reducible refine iteF ?_ ?_); omega) | ((with_reducible refine gdg ?_ ?_); first | with_reducible exact z_0 | omega) | ((with_reducible apply nng); first | with_reducible exact z_0) | ((with_reducible apply bdg); first | with_reducible exact z_0) | ((with_reducible apply bd2g); first | with_reducible exact z_0)))); exact key) mr_m0
  · refine ⟨2, -1, ?_, fun h1 p => ?_⟩
    · show XR (fX11_witness h X s) h X _ _
      unfold fX11_witness
      exact XR.of (by (have z_1 := xSn0 H (noS q1); (repeat' (first | (with_reducible refine ltg ?_) | ((with_reducible refine iteT ?_ ?_); omega) | ((with_reducible refine iteF ?_ ?_); omega) | ((with_reducible refine gdg ?_ ?_); first | with_reducible exact H.k | with_reducible exact z_1 | omega) | ((with_reducible apply nng); first | with_reducible exact H.k | with_reducible exact z_1) | ((with_reducible apply bdg); first | with_reducible exact H.k | with_reducible exact z_1) | ((with_reducible apply bd2g); first | with_reducible exact H.k | with_reducible exact z_1)))); exact bd2_id _) (xr_re H.k (QR.rf h) (rg_lit rfl))
    · obtain ⟨ms, hc, -⟩ := G.q p
      simp only [fX12_witness, lt_d, hK_pI, gR_pI, gA_pI, gB_pI, gC_pI, gJ_pI, ms.r788, nn_s, ms.k0, ms.k5, gd_T, eq_self, hc, bd2_id, Int.reduceToNat]
      exact MR.of (by (have z_0 := rSn0 w (noS q1); (repeat' (first | (with_reducible refine ltg ?_) | ((with_reducible refine iteT ?_ ?_); omega) | ((with_reducible refine iteF ?_ ?_); omega) | ((with_reducible refine gdg ?_ ?_); first | with_reducible exact z_0 | omega) | ((with_reducible apply nng); first | with_reducible exact z_0) | ((with_reducible apply bdg); first | with_reducible exact z_0) | ((with_reducible apply bd2g); first | with_reducible exact z_0)))); rfl) (mr_m0r ms (rg_lit rfl))

/-- the row of two rows AT ONCE, the second later -/
def mxL (c : Nat → Int) (sz : Int) (L1 L2 : Int → Int) (later k : Int) : Int := if 0 ≤ k ∧ k < sz then mixS c (L1 k) (L2 (k - later)) else 0
set_option maxHeartbeats 200000 in
theorem xAdd {h : Hp} {a q : Nat} {n N v : Int} (k : (hK h a).1 = 6) (r : gR h 384 a = some q) (kq : (hK h q).1 = 21) (kn : ((hK h q).2 : Int) = N) (s0 : gI h 385 a = 0) (sn : gI h 386 a = n) (n0 : 0 ≤ n) (nN : n < N) (hN : N < 100000) :
    fX6_add h a v = some (pI (sA h q n v) 386 a (n + 1)) := by
  unfold fX6_add
  rw [s0, sn, w32_id (x := 0 + n) (by omega) (by omega), Int.zero_add]
  refine gdg k (nng r (gdg kq (gdg (by omega) (iteT (by omega) (gdg (by omega) (ltg (ltg ?_)))))))
  have e : gI (sA h q n v) 386 a = n := sn
  rw [e, w32_id (by omega) (by omega)]
set_option maxHeartbeats 200000 in
theorem xMixR {h : Hp} {X a1 q1 a2 q2 : Nat} {c : Nat → Int} {n1 n2 later : Int} {L1 L2 : Int → Int} (H : CX h X c) (r1 : RVa h a1 q1 n1 L1) (r2 : RVa h a2 q2 n2 L2) (w1 : a1 ≠ X + 99 ∧ a1 ≠ X + 100 ∧ q1 ≠ X + 99 ∧ q1 ≠ X + 100) (w2 : a2 ≠ X + 99 ∧ a2 ≠ X + 100 ∧ q2 ≠ X + 99 ∧ q2 ≠ X + 100)
    (l0 : 0 ≤ later) (hz : max n1 (later + n2) ≤ 31) (b1 : ∀ k, 0 ≤ L1 k ∧ L1 k ≤ 26) (b2 : ∀ k, 0 ≤ L2 k ∧ L2 k ≤ 26) :
    ∃ h', (QX X h h' ∧ CX h' X c ∧ On (fun b => b = X + 99 ∨ b = X + 100) h h' ∧ RVa h' (X + 99) (X + 100) (max n1 (later + n2)) (mxL c (max n1 (later + n2)) L1 L2 later)) ∧ fX11_mixRows h X a1 a2 later = some (X + 99, h') := by
  have w := H.wf
  have z1 := r1.v.b
  have z2 := r2.v.b
  generalize hsz : max n1 (later + n2) = sz at hz ⊢
  have k6 : (hK h (X + 99)).1 = 6 := by rw [H.1.k99]
  have kq : (hK h (X + 100)).1 = 21 := by rw [H.1.k100]
  have kn : ((hK h (X + 100)).2 : Int) = 31 := by rw [H.1.k100]; rfl
  obtain ⟨R, v1, v2, v3⟩ := H.law
  have key := fk (S := Hp) (T := Hp) (fun fu v t => fX11_mixRows_b25 X a1 a2 later fu t sz v) (fun t => some (X + 99, t)) sz.toNat (fun i t => QX X h t ∧ On (fun b => b = X + 99 ∨ b = X + 100) h t ∧ gI t 386 (X + 99) = (i : Int) ∧ gI t 385 (X + 99) = 0 ∧ gR t 384 (X + 99) = some (X + 100) ∧ ∀ j : Nat, j < i → gA t (X + 100) j = mixS c (L1 (j : Int)) (L2 ((j : Int) - later))) (fun t => QX X h t ∧ CX t X c ∧ On (fun b => b = X + 99 ∨ b = X + 100) h t ∧ RVa t (X + 99) (X + 100) sz (mxL c sz L1 L2 later)) 0 (pI h 386 (X + 99) 0) (by omega)
    ⟨q_pI h (Or.inr ⟨rfl, rfl⟩), on_pI h (Or.inl rfl), gI_pIs (rg_lit rfl), by rw [gI_pI, if_neg (by omega)]; exact H.1.2.2.2.1, H.1.r384_99, fun j hj => absurd hj (by omega)⟩ (by omega)
    (fun fu i t hi hI => by
      obtain ⟨p1, p2, p3, p4, p5, p6⟩ := hI
      have p7 := H.q p1 po_X
      have e5 : WE ((i : Int) + 1) := we (by omega) (by omega)
      have e6 : WE ((i : Int) - later) := we (by omega) (by omega)
      have y1 := r1.on p2 (by omega) (by omega)
      have y2 := r2.on p2 (by omega) (by omega)
      obtain ⟨R', u1, u2, u3⟩ := p7.law
      have m1 := mixS_bd w (b1 (i : Int)).1 (b1 (i : Int)).2 (b2 ((i : Int) - later)).1 (b2 ((i : Int) - later)).2
      have kk6 : (hK t (X + 99)).1 = 6 := by rw [p2.k]; exact k6
      have qa : QX X t (sA t (X + 100) (i : Int) (mixS c (L1 (i : Int)) (L2 ((i : Int) - later)))) := q_sA t (by unfold sc; omega)
      have qb : QX X (sA t (X + 100) (i : Int) (mixS c (L1 (i : Int)) (L2 ((i : Int) - later)))) (pI (sA t (X + 100) (i : Int) (mixS c (L1 (i : Int)) (L2 ((i : Int) - later)))) 386 (X + 99) ((i : Int) + 1)) := q_pI _ (Or.inr ⟨rfl, rfl⟩)
      left
      refine ⟨pI (sA t (X + 100) (i : Int) (mixS c (L1 (i : Int)) (L2 ((i : Int) - later)))) 386 (X + 99) ((i : Int) + 1), ⟨(p1.tr qa).tr qb, (p2.tr (on_sA t (Or.inr rfl))).tr (on_pI _ (Or.inl rfl)), ?_, ?_, p5, fun j hj => ?_⟩, ?_⟩
      · rw [gI_pIs (show rg _ by unfold rg; omega)]; omega
      · rw [gI_pI, if_neg (by omega)]; exact p4
      · show gA (sA t (X + 100) (i : Int) (mixS c (L1 (i : Int)) (L2 ((i : Int) - later)))) (X + 100) j = _
        rw [gA_sA]
        by_cases z : j = i
        · rw [if_pos ⟨rfl, by omega⟩, z, w32_id (by omega) (by omega)]
        · rw [if_neg (by omega)]
          exact p6 j (by omega)
      · show fX11_mixRows_b25 X a1 a2 later (fu + 1) t sz (i : Int) = fX11_mixRows_b25 X a1 a2 later fu _ sz ((i : Int) + 1)
        rw [fX11_mixRows_b25.eq_2, e6.e]
        have xa := xAdd (v := mixS c (L1 (i : Int)) (L2 ((i : Int) - later))) (N := 31) kk6 p5 (by rw [p2.k]; exact kq) (by rw [p2.k]; exact kn) p4 p3 (by omega) (by omega) (by omega)
        refine iteT (by omega) (gdg p7.k (nng p7.1.r711 (nng u1 (gdg y1.v.k (bdg (xAt y1.v _) (gdg y2.v.k (bdg (xAt y2.v _) (gdg u2 (bdg (xMix u3 w) (gdg kk6 (bdg xa ?_)))))))))))
        rw [lt_d, e5.e])
    (fun fu t hI => by
      obtain ⟨p1, p2, p3, p4, p5, p6⟩ := hI
      have p7 := H.q p1 po_X
      refine ⟨t, ⟨p1, p7, p2, ?_⟩, ?_⟩
      · unfold RVa
        rw [p2.k, p3, p4]
        refine ⟨k6, by omega, by omega, by omega, fun k hk => ?_, p5, kq, by omega, by omega, by omega, fun k k0 k8 => ?_⟩
        · unfold mxL
          rw [if_neg (by omega)]
        · have := p6 k.toNat (by omega)
          rw [show ((k.toNat : Nat) : Int) = k by omega] at this
          rw [Int.zero_add, this]
          unfold mxL
          rw [if_pos (by omega)]
      · show fX11_mixRows_b25 X a1 a2 later (fu + 1) t sz (sz.toNat : Int) = _
        rw [fX11_mixRows_b25.eq_2]
        exact iteF (by omega) (gdg p7.k (nng p7.1.r711 rfl)))
  obtain ⟨t, ht, e⟩ := key
  refine ⟨t, ht, ?_⟩
  unfold fX11_mixRows
  rw [r1.2.1, r2.2.1, w32_id (x := later + n2) (by omega) (by omega), hsz]
  have xc : fX6_clear h (X + 99) = some (pI h 386 (X + 99) 0) := gdg k6 (ltg rfl)
  exact gdg r1.1 (gdg r2.1 (ltg (gdg H.k (nng H.1.r711 (gdg k6 (bdg xc e))))))
/-- the first of the greatest of f 0, f 1 .. -/
def amF (f : Nat → Int) : Nat → Int × Int
  | 0 => (0, -1)
  | i + 1 => if (amF f i).2 < f i then ((i : Int), f i) else amF f i
set_option maxHeartbeats 200000 in
theorem amF_bd {f : Nat → Int} {b : Int} (hb : 0 ≤ b) (h : ∀ i, f i ≤ b) (i : Nat) : 0 ≤ (amF f i).1 ∧ (amF f i).1 ≤ i ∧ -1 ≤ (amF f i).2 ∧ (amF f i).2 ≤ b := by
  induction i with
  | zero => exact ⟨Int.le_refl _, Int.le_refl _, Int.le_refl _, by show (-1 : Int) ≤ b; omega⟩
  | succ i ih =>
    have e : amF f (i + 1) = if (amF f i).2 < f i then ((i : Int), f i) else amF f i := rfl
    rw [e]
    have := h i
    split
    · show 0 ≤ (i : Int) ∧ (i : Int) ≤ ((i + 1 : Nat) : Int) ∧ -1 ≤ f i ∧ f i ≤ b
      omega
    · omega
/-- how many LETTERS are HEARD when the second is opened so much later -/
def clS (c : Nat → Int) (a b : Int) (later : Nat) : Int := sm (max (hN c a) ((later : Int) + hN c b)).toNat (fun k => if mixS c (hL c a (k : Int)) (hL c b ((k : Int) - (later : Int))) = 0 then 0 else 1)
set_option maxHeartbeats 200000 in
theorem clS_bd {c : Nat → Int} {a b : Int} (w : WF c) (a0 : 0 ≤ a) (a8 : a < 8) (b0 : 0 ≤ b) (b8 : b < 8) (l n : Nat) (hn : n ≤ 24) : 0 ≤ sm n (fun k => if mixS c (hL c a (k : Int)) (hL c b ((k : Int) - (l : Int))) = 0 then 0 else 1) ∧ sm n (fun k => if mixS c (hL c a (k : Int)) (hL c b ((k : Int) - (l : Int))) = 0 then 0 else 1) ≤ 24 := by
  have := sm_bd (n := n) (f := fun k => if mixS c (hL c a (k : Int)) (hL c b ((k : Int) - (l : Int))) = 0 then 0 else 1) (a := 0) (b := 1) (fun k _ => by
    show 0 ≤ (if mixS c (hL c a (k : Int)) (hL c b ((k : Int) - (l : Int))) = 0 then (0 : Int) else 1) ∧ (if mixS c (hL c a (k : Int)) (hL c b ((k : Int) - (l : Int))) = 0 then (0 : Int) else 1) ≤ 1
    split <;> omega)
  omega
set_option maxHeartbeats 200000 in
theorem xCle {h : Hp} {X : Nat} {c : Nat → Int} {a b u1 u2 u3 : Int} (H : CX h X c) (a0 : 0 ≤ a) (a8 : a < 8) (b0 : 0 ≤ b) (b8 : b < 8) (va : VW h X c a) (vb : VW h X c b) :
    ∃ t : Hp, (QX X h t ∧ CX t X c) ∧ fX11_clearest_b61 X u1 u2 u3 FU h (X + 81 + 2 * a.toNat) (X + 81 + 2 * b.toNat) (-1) 0 0 = (if u3 = 0 then fX11_answer t X (amF (clS c a b) 13).1 else fX11_answer t X (amF (clS c a b) 13).2) := by
  have w := H.wf
  have ha := hN_bd w a0 a8
  have hb := hN_bd w b0 b8
  have key := fk (S := Hp × Int × Int) (T := Hp) (fun fu v t => fX11_clearest_b61 X u1 u2 u3 fu t.1 (X + 81 + 2 * a.toNat) (X + 81 + 2 * b.toNat) t.2.2 t.2.1 v) (fun t => if u3 = 0 then fX11_answer t X (amF (clS c a b) 13).1 else fX11_answer t X (amF (clS c a b) 13).2) 13 (fun i t => QX X h t.1 ∧ CX t.1 X c ∧ VW t.1 X c a ∧ VW t.1 X c b ∧ t.2 = amF (clS c a b) i) (fun t => QX X h t ∧ CX t X c) 0 (h, 0, -1) (by omega) ⟨QR.rf h, H, va, vb, rfl⟩ (by omega)
    (fun fu i t hi hI => by
      obtain ⟨h1, bst⟩ := t
      obtain ⟨p1, p2, p3, p4, p5⟩ := hI
      have p1 : QX X h h1 := p1
      have p2 : CX h1 X c := p2
      have p3 : VW h1 X c a := p3
      have p4 : VW h1 X c b := p4
      have p5 : bst = amF (clS c a b) i := p5
      have e5 : WE ((i : Int) + 1) := we (by omega) (by omega)
      obtain ⟨qa, r1, n1, n2⟩ := id p3
      obtain ⟨qb, r2, n3, n4⟩ := id p4
      have s1 : qa ≠ X + 99 ∧ qa ≠ X + 100 := by
        constructor
        · intro z
          have hk := r1.2.2.2.2.2.2.1
          rw [z, p2.1.k99] at hk
          cases hk
        · intro z
          exact n2 (by rw [z]; unfold sc; omega)
      have s2 : qb ≠ X + 99 ∧ qb ≠ X + 100 := by
        constructor
        · intro z
          have hk := r2.2.2.2.2.2.2.1
          rw [z, p2.1.k99] at hk
          cases hk
        · intro z
          exact n4 (by rw [z]; unfold sc; omega)
      obtain ⟨h', ⟨m1, m2, m3, m4⟩, m5⟩ := xMixR p2 r1 r2 ⟨by omega, by omega, s1.1, s1.2⟩ ⟨by omega, by omega, s2.1, s2.2⟩ (show (0 : Int) ≤ (i : Int) by omega) (by omega) (fun k => hL_bd w a0 a8) (fun k => hL_bd w b0 b8)
      have wv : ∀ x, (x = X + 99 ∨ x = X + 100) → x ≠ X + 81 + 2 * a.toNat ∧ x ≠ X + 81 + 2 * b.toNat := fun x hx => by omega
      have v3 : VW h' X c a := ⟨qa, r1.on m3 (by omega) (by omega), n1, n2⟩
      have v4 : VW h' X c b := ⟨qb, r2.on m3 (by omega) (by omega), n3, n4⟩
      have ec : fX6_countLetters h' (X + 99) = some (clS c a b i) := by
        have es : sm (max (hN c a) ((i : Int) + hN c b)).toNat (fun k => if mxL c (max (hN c a) ((i : Int) + hN c b)) (hL c a) (hL c b) (i : Int) (k : Int) = 0 then 0 else 1) = clS c a b i := by
          unfold clS
          refine sm_congr (fun k hk => ?_)
          have em : mxL c (max (hN c a) ((i : Int) + hN c b)) (hL c a) (hL c b) (i : Int) (k : Int) = mixS c (hL c a (k : Int)) (hL c b ((k : Int) - (i : Int))) := if_pos (by omega)
          show (if mxL c (max (hN c a) ((i : Int) + hN c b)) (hL c a) (hL c b) (i : Int) (k : Int) = 0 then (0 : Int) else 1) = _
          rw [em]
        rw [xCnt m4.v, es]
      left
      refine ⟨(h', amF (clS c a b) (i + 1)), ⟨p1.tr m1, m2, v3, v4, rfl⟩, ?_⟩
      show fX11_clearest_b61 X u1 u2 u3 (fu + 1) h1 (X + 81 + 2 * a.toNat) (X + 81 + 2 * b.toNat) bst.2 bst.1 (i : Int) = fX11_clearest_b61 X u1 u2 u3 fu h' (X + 81 + 2 * a.toNat) (X + 81 + 2 * b.toNat) (amF (clS c a b) (i + 1)).2 (amF (clS c a b) (i + 1)).1 ((i : Int) + 1)
      have ea : amF (clS c a b) (i + 1) = if (amF (clS c a b) i).2 < clS c a b i then ((i : Int), clS c a b i) else amF (clS c a b) i := rfl
      rw [ea, p5, fX11_clearest_b61.eq_2]
      refine iteT (by omega) (gdg p2.k (bd2g m5 (gdg m4.1 (bdg ec ?_))))
      by_cases z : (amF (clS c a b) i).2 < clS c a b i
      · rw [if_pos z]
        refine iteF (by omega) ?_
        rw [fX11_clearest_b98, lt_d, e5.e]
      · rw [if_neg z]
        refine iteT (by omega) ?_
        rw [fX11_clearest_b98, lt_d, e5.e])
    (fun fu t hI => by
      obtain ⟨h1, bst⟩ := t
      obtain ⟨p1, p2, p3, p4, p5⟩ := hI
      have p2 : CX h1 X c := p2
      have p5 : bst = amF (clS c a b) 13 := p5
      refine ⟨h1, ⟨p1, p2⟩, ?_⟩
      show fX11_clearest_b61 X u1 u2 u3 (fu + 1) h1 (X + 81 + 2 * a.toNat) (X + 81 + 2 * b.toNat) bst.2 bst.1 ((13 : Nat) : Int) = (if u3 = 0 then fX11_answer h1 X (amF (clS c a b) 13).1 else fX11_answer h1 X (amF (clS c a b) 13).2)
      rw [fX11_clearest_b61.eq_2, p5]
      refine iteF (by omega) ?_
      by_cases z : u3 = 0
      · refine Eq.trans ?_ (if_pos z).symm
        exact iteT z (gdg p2.k (bd2_id _))
      · refine Eq.trans ?_ (if_neg z).symm
        exact iteF z (gdg p2.k (bd2_id _)))
  obtain ⟨t, ht, e⟩ := key
  exact ⟨t, ht, e⟩
set_option maxHeartbeats 200000 in
theorem rCle {h : Hp} {M : Nat} {c : Nat → Int} {a b u : Int} (ms : MS h M) (hc : gA h (M + 5) = c) (w : WF c) (a0 : 0 ≤ a) (a8 : a < 8) (b0 : 0 ≤ b) (b8 : b < 8) : fX12_clearest_b57 M a b u FU h 0 (-1) 0 = if u = 0 then some ((amF (clS c a b) 13).1, h) else some ((amF (clS c a b) 13).2, h) := by
  have ha := hN_bd w a0 a8
  have hb := hN_bd w b0 b8
  have := fg (S := Int × Int) (fun fu v t => fX12_clearest_b57 M a b u fu h t.1 t.2 v) (fun t => if u = 0 then some (t.1, h) else some (t.2, h)) 13 (fun i => amF (clS c a b) i) (by omega) ?_ ?_ 0 (by omega)
  · exact this
  · intro fu i hi
    have e5 : WE ((i : Int) + 1) := we (by omega) (by omega)
    have e7 : WE ((i : Int) + hN c b) := we (by omega) (by omega)
    have ea : amF (clS c a b) (i + 1) = if (amF (clS c a b) i).2 < clS c a b i then ((i : Int), clS c a b i) else amF (clS c a b) i := rfl
    show fX12_clearest_b57 M a b u (fu + 1) h (amF (clS c a b) i).1 (amF (clS c a b) i).2 (i : Int) = fX12_clearest_b57 M a b u fu h (amF (clS c a b) (i + 1)).1 (amF (clS c a b) (i + 1)).2 _
    rw [ea]
    generalize amF (clS c a b) i = B
    rw [fX12_clearest_b57.eq_2]
    simp only [lt_d, ms.r788, nn_s, ms.k0, ms.k5, gd_T, eq_self, hc, bd2_id, Int.reduceToNat]
    refine iteT (by omega) (bdg (rNow w a0 a8) (bdg (rNow w b0 b8) ?_))
    rw [e7.e]
    have inner := fg (S := Int) (fun fu2 v t => fX12_clearest_b88 M a b u (fX12_clearest_b57 M a b u fu) fu2 h B.1 B.2 (i : Int) (max (hN c a) ((i : Int) + hN c b)) t v) (fun t => if B.2 < t then fX12_clearest_b57 M a b u fu h (i : Int) t ((i : Int) + 1) else fX12_clearest_b57 M a b u fu h B.1 B.2 ((i : Int) + 1)) (max (hN c a) ((i : Int) + hN c b)).toNat (fun n => sm n (fun k => if mixS c (hL c a (k : Int)) (hL c b ((k : Int) - (i : Int))) = 0 then 0 else 1)) (by omega)
      (fun fu2 k hk => by
        have e6 : WE ((k : Int) + 1) := we (by omega) (by omega)
        have e8 : WE ((k : Int) - (i : Int)) := we (by omega) (by omega)
        have bd := clS_bd w a0 a8 b0 b8 i (k + 1) (by omega)
        have l1 := hL_bd w (j := a) (k := (k : Int)) a0 a8
        have l2 := hL_bd w (j := b) (k := (k : Int) - (i : Int)) b0 b8
        have mb := mixS_bd w l1.1 l1.2 l2.1 l2.2
        have es : sm (k + 1) (fun k => if mixS c (hL c a (k : Int)) (hL c b ((k : Int) - (i : Int))) = 0 then 0 else 1) = sm k (fun k => if mixS c (hL c a (k : Int)) (hL c b ((k : Int) - (i : Int))) = 0 then 0 else 1) + (if mixS c (hL c a (k : Int)) (hL c b ((k : Int) - (i : Int))) = 0 then 0 else 1) := rfl
        show fX12_clearest_b88 M a b u (fX12_clearest_b57 M a b u fu) (fu2 + 1) h B.1 B.2 (i : Int) (max (hN c a) ((i : Int) + hN c b)) (sm k (fun k => if mixS c (hL c a (k : Int)) (hL c b ((k : Int) - (i : Int))) = 0 then 0 else 1)) (k : Int) = fX12_clearest_b88 M a b u (fX12_clearest_b57 M a b u fu) fu2 h B.1 B.2 (i : Int) (max (hN c a) ((i : Int) + hN c b)) (sm (k + 1) (fun k => if mixS c (hL c a (k : Int)) (hL c b ((k : Int) - (i : Int))) = 0 then 0 else 1)) ((k : Int) + 1)
        rw [es] at bd ⊢
        rw [fX12_clearest_b88.eq_2, e8.e]
        simp only [lt_d, ms.r788, nn_s, ms.k0, ms.k5, gd_T, eq_self, hc, bd2_id, Int.reduceToNat]
        refine iteT (by omega) (bdg (rLetO w a0 a8 (show rg _ by unfold rg; omega)) (bdg (rLetO w b0 b8 (show rg _ by unfold rg; omega)) (bdg (rMix w) ?_)))
        by_cases z : mixS c (hL c a (k : Int)) (hL c b ((k : Int) - (i : Int))) = 0
        · rw [if_pos z] at bd
          rw [if_pos z, if_neg (by omega), w32_id (by omega) (by omega), e6.e]
        · rw [if_neg z] at bd
          rw [if_neg z, if_pos (by omega), w32_id (by omega) (by omega), e6.e])
      (fun fu2 => by
        show fX12_clearest_b88 M a b u (fX12_clearest_b57 M a b u fu) (fu2 + 1) h B.1 B.2 (i : Int) (max (hN c a) ((i : Int) + hN c b)) (clS c a b i) ((max (hN c a) ((i : Int) + hN c b)).toNat : Int) = (if B.2 < clS c a b i then fX12_clearest_b57 M a b u fu h (i : Int) (clS c a b i) ((i : Int) + 1) else fX12_clearest_b57 M a b u fu h B.1 B.2 ((i : Int) + 1))
        rw [fX12_clearest_b88.eq_2]
        refine iteF (by omega) ?_
        by_cases z : B.2 < clS c a b i
        · refine Eq.trans ?_ (if_pos z).symm
          refine iteF (by omega) ?_
          rw [fX12_clearest_b153, lt_d, e5.e]
        · refine Eq.trans ?_ (if_neg z).symm
          refine iteT (by omega) ?_
          rw [fX12_clearest_b153, lt_d, e5.e]) 0 (by omega)
    refine Eq.trans inner ?_
    show (if B.2 < clS c a b i then fX12_clearest_b57 M a b u fu h (i : Int) (clS c a b i) ((i : Int) + 1) else fX12_clearest_b57 M a b u fu h B.1 B.2 ((i : Int) + 1)) = _
    by_cases z : B.2 < clS c a b i
    · rw [if_pos z, if_pos z]
    · rw [if_neg z, if_neg z]
  · intro fu
    show fX12_clearest_b57 M a b u (fu + 1) h _ _ ((13 : Nat) : Int) = (if u = 0 then some ((amF (clS c a b) 13).1, h) else some ((amF (clS c a b) 13).2, h))
    rw [fX12_clearest_b57.eq_2]
    refine iteF (by omega) ?_
    rfl

set_option maxHeartbeats 200000 in
theorem ok_clearest {h : Hp} {X : Nat} {c : Nat → Int} {a b u : Int} (H : CX h X c) (G : CM h X c) : OK2 (fun h => fX11_clearest h X a b u) (fun h => fX12_clearest h (X + 121) a b u) h X := by
  have w := H.wf
  by_cases q1 : okJ c a
  · by_cases q2 : okJ c b
    · by_cases q3 : 0 ≤ u ∧ u ≤ 1
      · have a8 := nj_lt w q1
        have b8 := nj_lt w q2
        obtain ⟨h', g1, g2, g3, g4, g5, g6⟩ := H.hearV q1
        obtain ⟨h'', k1, k2, k3, k4, k5, k6⟩ := g3.hearV q2
        have va := k5 a q1.1 a8 g4
        have gk := va.k
        have kx := g3.k
        have ky := k3.k
        obtain ⟨t, ⟨t1, t2⟩, t3⟩ := xCle (u1 := a) (u2 := b) (u3 := u) k3 q1.1 a8 q2.1 b8 va k4
        by_cases u0 : u = 0
        · rw [if_pos u0] at t3
          refine ⟨0, (amF (clS c a b) 13).1, ?_, fun h1 p => ?_⟩
          · show XR (fX11_clearest h X a b u) h X _ _
            unfold fX11_clearest
            exact XR.of (by (have z_1 := xJr1 H q1.1 q1.2; have z_2 := xJr1 H q2.1 q2.2; (repeat' (first | (with_reducible refine ltg ?_) | ((with_reducible refine iteT ?_ ?_); omega) | ((with_reducible refine iteF ?_ ?_); omega) | ((with_reducible refine gdg ?_ ?_); first | with_reducible exact H.k | with_reducible exact z_1 | with_reducible exact z_2 | exact xIn1 q3.1 q3.2 | with_reducible exact g1 | with_reducible exact kx | with_reducible exact k1 | omega) | ((with_reducible apply nng); first | with_reducible exact H.k | with_reducible exact z_1 | with_reducible exact z_2 | exact xIn1 q3.1 q3.2 | with_reducible exact g1 | with_reducible exact kx | with_reducible exact k1) | ((with_reducible apply bdg); first | with_reducible exact H.k | with_reducible exact z_1 | with_reducible exact z_2 | exact xIn1 q3.1 q3.2 | with_reducible exact g1 | with_reducible exact kx | with_reducible exact k1) | ((with_reducible apply bd2g); first | with_reducible exact H.k | with_reducible exact z_1 | with_reducible exact z_2 | exact xIn1 q3.1 q3.2 | with_reducible exact g1 | with_reducible exact kx | with_reducible exact k1)))); exact t3) (xr_an t2.k ((g2.tr k2).tr t1))
          · obtain ⟨ms, hc, -⟩ := G.q p
            have key := rCle (h := pI (pI h1 769 (X + 121) 0) 768 (X + 121) 0) (u := u) ms hc w q1.1 a8 q2.1 b8
            rw [if_pos u0] at key
            simp only [fX12_clearest, lt_d, hK_pI, gR_pI, gA_pI, gB_pI, gC_pI, gJ_pI, ms.r788, nn_s, ms.k0, ms.k5, gd_T, eq_self, hc, bd2_id, Int.reduceToNat]
            exact MR.of (by (have z_0 := rJr1 w q1.1 q1.2; have z_1 := rJr1 w q2.1 q2.2; (repeat' (first | (with_reducible refine ltg ?_) | ((with_reducible refine iteT ?_ ?_); omega) | ((with_reducible refine iteF ?_ ?_); omega) | ((with_reducible refine gdg ?_ ?_); first | with_reducible exact z_0 | with_reducible exact z_1 | exact rIn1 q3.1 q3.2 | omega) | ((with_reducible apply nng); first | with_reducible exact z_0 | with_reducible exact z_1 | exact rIn1 q3.1 q3.2) | ((with_reducible apply bdg); first | with_reducible exact z_0 | with_reducible exact z_1 | exact rIn1 q3.1 q3.2) | ((with_reducible apply bd2g); first | with_reducible exact z_0 | with_reducible exact z_1 | exact rIn1 q3.1 q3.2)))); exact key) mr_m0
        · rw [if_neg u0] at t3
          refine ⟨0, (amF (clS c a b) 13).2, ?_, fun h1 p => ?_⟩
          · show XR (fX11_clearest h X a b u) h X _ _
            unfold fX11_clearest
            exact XR.of (by (have z_1 := xJr1 H q1.1 q1.2; have z_2 := xJr1 H q2.1 q2.2; (repeat' (first | (with_reducible refine ltg ?_) | ((with_reducible refine iteT ?_ ?_); omega) | ((with_reducible refine iteF ?_ ?_); omega) | ((with_reducible refine gdg ?_ ?_); first | with_reducible exact H.k | with_reducible exact z_1 | with_reducible exact z_2 | exact xIn1 q3.1 q3.2 | with_reducible exact g1 | with_reducible exact kx | with_reducible exact k1 | omega) | ((with_reducible apply nng); first | with_reducible exact H.k | with_reducible exact z_1 | with_reducible exact z_2 | exact xIn1 q3.1 q3.2 | with_reducible exact g1 | with_reducible exact kx | with_reducible exact k1) | ((with_reducible apply bdg); first | with_reducible exact H.k | with_reducible exact z_1 | with_reducible exact z_2 | exact xIn1 q3.1 q3.2 | with_reducible exact g1 | with_reducible exact kx | with_reducible exact k1) | ((with_reducible apply bd2g); first | with_reducible exact H.k | with_reducible exact z_1 | with_reducible exact z_2 | exact xIn1 q3.1 q3.2 | with_reducible exact g1 | with_reducible exact kx | with_reducible exact k1)))); exact t3) (xr_an t2.k ((g2.tr k2).tr t1))
          · obtain ⟨ms, hc, -⟩ := G.q p
            have key := rCle (h := pI (pI h1 769 (X + 121) 0) 768 (X + 121) 0) (u := u) ms hc w q1.1 a8 q2.1 b8
            rw [if_neg u0] at key
            simp only [fX12_clearest, lt_d, hK_pI, gR_pI, gA_pI, gB_pI, gC_pI, gJ_pI, ms.r788, nn_s, ms.k0, ms.k5, gd_T, eq_self, hc, bd2_id, Int.reduceToNat]
            exact MR.of (by (have z_0 := rJr1 w q1.1 q1.2; have z_1 := rJr1 w q2.1 q2.2; (repeat' (first | (with_reducible refine ltg ?_) | ((with_reducible refine iteT ?_ ?_); omega) | ((with_reducible refine iteF ?_ ?_); omega) | ((with_reducible refine gdg ?_ ?_); first | with_reducible exact z_0 | with_reducible exact z_1 | exact rIn1 q3.1 q3.2 | omega) | ((with_reducible apply nng); first | with_reducible exact z_0 | with_reducible exact z_1 | exact rIn1 q3.1 q3.2) | ((with_reducible apply bdg); first | with_reducible exact z_0 | with_reducible exact z_1 | exact rIn1 q3.1 q3.2) | ((with_reducible apply bd2g); first | with_reducible exact z_0 | with_reducible exact z_1 | exact rIn1 q3.1 q3.2)))); exact key) mr_m0
      · refine ⟨5, -1, ?_, fun h1 p => ?_⟩
        · show XR (fX11_clearest h X a b u) h X _ _
          unfold fX11_clearest
          exact XR.of (by (have z_1 := xJr1 H q1.1 q1.2; have z_2 := xJr1 H q2.1 q2.2; (repeat' (first | (with_reducible refine ltg ?_) | ((with_reducible refine iteT ?_ ?_); omega) | ((with_reducible refine iteF ?_ ?_); omega) | ((with_reducible refine gdg ?_ ?_); first | with_reducible exact H.k | with_reducible exact z_1 | with_reducible exact z_2 | exact xIn0 (by omega) | omega) | ((with_reducible apply nng); first | with_reducible exact H.k | with_reducible exact z_1 | with_reducible exact z_2 | exact xIn0 (by omega)) | ((with_reducible apply bdg); first | with_reducible exact H.k | with_reducible exact z_1 | with_reducible exact z_2 | exact xIn0 (by omega)) | ((with_reducible apply bd2g); first | with_reducible exact H.k | with_reducible exact z_1 | with_reducible exact z_2 | exact xIn0 (by omega))))); exact bd2_id _) (xr_re H.k (QR.rf h) (rg_lit rfl))
        · obtain ⟨ms, hc, -⟩ := G.q p
          simp only [fX12_clearest, lt_d, hK_pI, gR_pI, gA_pI, gB_pI, gC_pI, gJ_pI, ms.r788, nn_s, ms.k0, ms.k5, gd_T, eq_self, hc, bd2_id, Int.reduceToNat]
          exact MR.of (by (have z_0 := rJr1 w q1.1 q1.2; have z_1 := rJr1 w q2.1 q2.2; (repeat' (first | (with_reducible refine ltg ?_) | ((with_reducible refine iteT ?_ ?_); omega) | ((with_reducible refine iteF ?_ ?_); omega) | ((with_reducible refine gdg ?_ ?_); first | with_reducible exact z_0 | with_reducible exact z_1 | exact rIn0 (by omega) | omega) | ((with_reducible apply nng); first | with_reducible exact z_0 | with_reducible exact z_1 | exact rIn0 (by omega)) | ((with_reducible apply bdg); first | with_reducible exact z_0 | with_reducible exact z_1 | exact rIn0 (by omega)) | ((with_reducible apply bd2g); first | with_reducible exact z_0 | with_reducible exact z_1 | exact rIn0 (by omega))))); rfl) (mr_m0r ms (rg_lit rfl))
    · refine ⟨2, -1, ?_, fun h1 p => ?_⟩
      · show XR (fX11_clearest h X a b u) h X _ _
        unfold fX11_clearest
        exact XR.of (by (have z_1 := xJr1 H q1.1 q1.2; have z_2 := xJr0 H (noJ q2); (repeat' (first | (with_reducible refine ltg ?_) | ((with_reducible refine iteT ?_ ?_); omega) | ((with_reducible refine iteF ?_ ?_); omega) | ((with_reducible refine gdg ?_ ?_); first | with_reducible exact H.k | with_reducible exact z_1 | with_reducible exact z_2 | omega) | ((with_reducible apply nng); first | with_reducible exact H.k | with_reducible exact z_1 | with_reducible exact z_2) | ((with_reducible apply bdg); first | with_reducible exact H.k | with_reducible exact z_1 | with_reducible exact z_2) | ((with_reducible apply bd2g); first | with_reducible exact H.k | with_reducible exact z_1 | with_reducible exact z_2)))); exact bd2_id _) (xr_re H.k (QR.rf h) (rg_lit rfl))
      · obtain ⟨ms, hc, -⟩ := G.q p
        simp only [fX12_clearest, lt_d, hK_pI, gR_pI, gA_pI, gB_pI, gC_pI, gJ_pI, ms.r788, nn_s, ms.k0, ms.k5, gd_T, eq_self, hc, bd2_id, Int.reduceToNat]
        exact MR.of (by (have z_0 := rJr1 w q1.1 q1.2; have z_1 := rJr0 w (noJ q2); (repeat' (first | (with_reducible refine ltg ?_) | ((with_reducible refine iteT ?_ ?_); omega) | ((with_reducible refine iteF ?_ ?_); omega) | ((with_reducible refine gdg ?_ ?_); first | with_reducible exact z_0 | with_reducible exact z_1 | omega) | ((with_reducible apply nng); first | with_reducible exact z_0 | with_reducible exact z_1) | ((with_reducible apply bdg); first | with_reducible exact z_0 | with_reducible exact z_1) | ((with_reducible apply bd2g); first | with_reducible exact z_0 | with_reducible exact z_1)))); rfl) (mr_m0r ms (rg_lit rfl))
  · refine ⟨2, -1, ?_, fun h1 p => ?_⟩
    · show XR (fX11_clearest h X a b u) h X _ _
      unfold fX11_clearest
      exact XR.of (by (have z_1 := xJr0 H (noJ q1); (repeat' (first | (with_reducible refine ltg ?_) | ((with_reducible refine iteT ?_ ?_); omega) | ((with_reducible refine iteF ?_ ?_); omega) | ((with_reducible refine gdg ?_ ?_); first | with_reducible exact H.k | with_reducible exact z_1 | omega) | ((with_reducible apply nng); first | with_reducible exact H.k | with_reducible exact z_1) | ((with_reducible apply bdg); first | with_reducible exact H.k | with_reducible exact z_1) | ((with_reducible apply bd2g); first | with_reducible exact H.k | with_reducible exact z_1)))); exact bd2_id _) (xr_re H.k (QR.rf h) (rg_lit rfl))
    · obtain ⟨ms, hc, -⟩ := G.q p
      simp only [fX12_clearest, lt_d, hK_pI, gR_pI, gA_pI, gB_pI, gC_pI, gJ_pI, ms.r788, nn_s, ms.k0, ms.k5, gd_T, eq_self, hc, bd2_id, Int.reduceToNat]
      exact MR.of (by (have z_0 := rJr0 w (noJ q1); (repeat' (first | (with_reducible refine ltg ?_) | ((with_reducible refine iteT ?_ ?_); omega) | ((with_reducible refine iteF ?_ ?_); omega) | ((with_reducible refine gdg ?_ ?_); first | with_reducible exact z_0 | omega) | ((with_reducible apply nng); first | with_reducible exact z_0) | ((with_reducible apply bdg); first | with_reducible exact z_0) | ((with_reducible apply bd2g); first | with_reducible exact z_0)))); rfl) (mr_m0r ms (rg_lit rfl))
