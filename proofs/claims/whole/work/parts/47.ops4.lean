/-! QUERIES, fourth lot: places laps speaks fits kinds common (written by wip/whole/g47.py) -/
def okSet (c : Nat → Int) (s : Int) : Prop := 0 ≤ s ∧ s < ((2 ^ (c 2).toNat : Nat) : Int)
set_option maxHeartbeats 200000 in
theorem xSet1 {h : Hp} {X : Nat} {c : Nat → Int} {s : Int} (H : CX h X c) (q : okSet c s) : fX11_isJarSet h X s = some 1 := by
  obtain ⟨S, s1, s2, -⟩ := H.2.2.2.1
  have q2 := q.2
  exact gdg H.k (nng s1 (gdg (by rw [s2.1]) (bdg (xAllJ s2 H.wf) (bdg (xIn1 q.1 (by omega)) rfl))))
set_option maxHeartbeats 200000 in
theorem xSet0 {h : Hp} {X : Nat} {c : Nat → Int} {s : Int} (H : CX h X c) (q : ¬ okSet c s) : fX11_isJarSet h X s = some 0 := by
  obtain ⟨S, s1, s2, -⟩ := H.2.2.2.1
  unfold okSet at q
  exact gdg H.k (nng s1 (gdg (by rw [s2.1]) (bdg (xAllJ s2 H.wf) (bdg (xIn0 (by omega)) rfl))))
set_option maxHeartbeats 200000 in
theorem rSet1 {c : Nat → Int} {s : Int} (w : WF c) (q : okSet c s) : fX12_areJars c s = some 1 := by
  have hj := w.nj
  have q2 := q.2
  have p := pw8 w
  have e := shl_n hj.1 hj.2
  unfold fX12_areJars
  refine gdg (by omega) ?_
  show bd (fX12_isIn s 0 (w32 (shl 1 (c 2) - 1))) _ = _
  rw [e]
  generalize 2 ^ (c 2).toNat = N at p q2
  rw [w32_id (by omega) (by omega)]
  exact bdg (rIn1 q.1 (by omega)) rfl
set_option maxHeartbeats 200000 in
theorem rSet0 {c : Nat → Int} {s : Int} (w : WF c) (q : ¬ okSet c s) : fX12_areJars c s = some 0 := by
  have hj := w.nj
  unfold okSet at q
  have p := pw8 w
  have e := shl_n hj.1 hj.2
  unfold fX12_areJars
  refine gdg (by omega) ?_
  show bd (fX12_isIn s 0 (w32 (shl 1 (c 2) - 1))) _ = _
  rw [e]
  generalize 2 ^ (c 2).toNat = N at p q
  rw [w32_id (by omega) (by omega)]
  exact bdg (rIn0 (by omega)) rfl
set_option maxHeartbeats 200000 in
theorem CX.shop {h : Hp} {X : Nat} {c : Nat → Int} (H : CX h X c) : ∃ S, gR h 717 X = some S ∧ (hK h S).1 = 7 ∧ SV h S c ∧ gI h 451 S = c 2 ∧ gI h 450 S = c 1 ∧ SO X S := by
  obtain ⟨S, s1, s2, s3⟩ := H.2.2.2.1
  exact ⟨S, s1, by rw [s2.1], s2, s2.2.2.2.2.2.2.1, s2.2.2.2.2.2.1, s3⟩
set_option maxHeartbeats 200000 in
/-- the class's loop of fits -/
theorem xFitL {h : Hp} {X : Nat} {c : Nat → Int} {s : Nat} (H : CX h X c) (hs : s < 2147483648) :
    ∃ t : Hp × Int, (QX X h t.1 ∧ CX t.1 X c ∧ t.2 = (fitS c s : Nat)) ∧ fX11_fits_b24 X (s : Int) FU h ((bs (c 1).toNat (fun _ => true) : Nat) : Int) 0 = fX11_answer t.1 X t.2 := by
  have w := H.wf
  have hj := w.nj
  have hn := w.ns
  exact fk (S := Hp × Int) (T := Hp × Int) (fun fu v t => fX11_fits_b24 X (s : Int) fu t.1 t.2 v) (fun t => fX11_answer t.1 X t.2) (c 2).toNat (fun i t => QX X h t.1 ∧ CX t.1 X c ∧ t.2 = ((bs (c 1).toNat (fitP c s i) : Nat) : Int)) _ 0 (h, _) (by omega) ⟨QR.rf h, H, rfl⟩ (by omega)
    (fun fu i t hi hI => by
      obtain ⟨h1, v⟩ := t
      obtain ⟨p1, p2, p3⟩ := hI
      have p1 : QX X h h1 := p1
      have p2 : CX h1 X c := p2
      have p3 : v = _ := p3
      have e5 : WE ((i : Int) + 1) := we (by omega) (by omega)
      obtain ⟨S, f1, f2, f3, f4, f5, -⟩ := p2.shop
      left
      by_cases q : s.testBit i = true
      · obtain ⟨h', g1, g2, g3, g4, g5, g6⟩ := p2.hearV (k := (i : Int)) ⟨by omega, by omega⟩
        obtain ⟨S', t1, t2, t3, -⟩ := g3.shop
        have eS : S' = S := by
          rw [g2.r (by unfold sc; omega), f1] at t1
          exact (Option.some.inj t1).symm
        subst eS
        have hb := bs_lt (c 1).toNat (fitP c s i)
        have hb2 : 2 ^ (c 1).toNat ≤ 2 ^ 8 := Nat.pow_le_pow_right (by omega) (by omega)
        refine ⟨(h', ((bs (c 1).toNat (fitP c s (i + 1)) : Nat) : Int)), ⟨p1.tr g2, g3, rfl⟩, ?_⟩
        show fX11_fits_b24 X (s : Int) (fu + 1) h1 v (i : Int) = fX11_fits_b24 X (s : Int) fu h' _ ((i : Int) + 1)
        rw [fX11_fits_b24.eq_2, p3]
        have e1 : fX11_isIn (s : Int) (i : Int) = some 1 := by rw [xIsIn hs (by omega), q]; rfl
        refine gdg p2.k (nng f1 (gdg f2 (iteT (by omega) (bdg e1 (iteF (by omega) (bd2g g1 (gdg t2 (bdg (xSw t3 w g4.v) ?_))))))))
        have ef : (fun k => fitP c s i k && siB (hN c (i : Int)) (hL c (i : Int)) (c (4 + (k : Int)).toNat) (sL c (k : Int))) = fitP c s (i + 1) := by
          funext k
          rw [fitP_s]
          simp [q, siJ]
        rw [lt_d, bnd_n (by omega), bs_and, fX11_fits_b58, lt_d, e5.e, ef]
      · have q : s.testBit i = false := by simpa using q
        refine ⟨(h1, ((bs (c 1).toNat (fitP c s (i + 1)) : Nat) : Int)), ⟨p1, p2, rfl⟩, ?_⟩
        show fX11_fits_b24 X (s : Int) (fu + 1) h1 v (i : Int) = fX11_fits_b24 X (s : Int) fu h1 _ ((i : Int) + 1)
        rw [fX11_fits_b24.eq_2, p3]
        have e1 : fX11_isIn (s : Int) (i : Int) = some 0 := by rw [xIsIn hs (by omega), q]; rfl
        refine gdg p2.k (nng f1 (gdg f2 (iteT (by omega) (bdg e1 (iteT rfl ?_)))))
        have ef : fitP c s (i + 1) = fitP c s i := by
          funext k
          rw [fitP_s]
          simp [q]
        rw [fX11_fits_b58, lt_d, e5.e, ef])
    (fun fu t hI => by
      obtain ⟨h1, v⟩ := t
      obtain ⟨p1, p2, p3⟩ := hI
      have p1 : QX X h h1 := p1
      have p2 : CX h1 X c := p2
      obtain ⟨S, f1, f2, f3, f4, f5, -⟩ := p2.shop
      refine ⟨(h1, v), ⟨p1, p2, p3⟩, ?_⟩
      show fX11_fits_b24 X (s : Int) (fu + 1) h1 v ((c 2).toNat : Int) = _
      rw [fX11_fits_b24.eq_2]
      exact gdg p2.k (nng f1 (gdg f2 (iteF (by omega) (bd2_id _)))))
/-- SPEAKS -/
def spkS (c : Nat → Int) (s : Int) : Nat := bs (c 2).toNat (fun j => decide (0 < plS c (j : Int) s))
set_option maxHeartbeats 200000 in
theorem xSpk {h : Hp} {X : Nat} {c : Nat → Int} {s : Int} (H : CX h X c) (q : okS c s) :
    ∃ t : Hp × Int, (QX X h t.1 ∧ CX t.1 X c ∧ t.2 = (spkS c s : Nat)) ∧ fX11_speakers h X s = some (t.2, t.1) := by
  have w := H.wf
  have hj := w.nj
  exact fk (S := Hp × Int) (T := Hp × Int) (fun fu v t => fX11_speakers_b4 X s fu t.1 t.2 v) (fun t => some (t.2, t.1)) (c 2).toNat (fun i t => QX X h t.1 ∧ CX t.1 X c ∧ t.2 = ((bs i (fun j => decide (0 < plS c (j : Int) s)) : Nat) : Int)) _ 0 (h, _) (by omega) ⟨QR.rf h, H, rfl⟩ (by omega)
    (fun fu i t hi hI => by
      obtain ⟨h1, v⟩ := t
      obtain ⟨p1, p2, p3⟩ := hI
      have p1 : QX X h h1 := p1
      have p2 : CX h1 X c := p2
      have p3 : v = _ := p3
      have e5 : WE ((i : Int) + 1) := we (by omega) (by omega)
      obtain ⟨S, f1, f2, f3, f4, f5, -⟩ := p2.shop
      obtain ⟨h', g1, g2, g3, g4, g5, g6⟩ := p2.hearV (k := (i : Int)) ⟨by omega, by omega⟩
      obtain ⟨S', t1, t2, t3, t4, t5, t6, t7, t8⟩ := g3.snd q
      left
      refine ⟨(h', ((bs (i + 1) (fun j => decide (0 < plS c (j : Int) s)) : Nat) : Int)), ⟨p1.tr g2, g3, rfl⟩, ?_⟩
      show fX11_speakers_b4 X s (fu + 1) h1 v (i : Int) = fX11_speakers_b4 X s fu h' _ ((i : Int) + 1)
      rw [fX11_speakers_b4.eq_2, p3]
      refine gdg p2.k (nng f1 (gdg f2 (iteT (by omega) (bd2g g1 (gdg g3.k (nng t1 (gdg t2 (nng t3 (gdg t4 (gdg t5 (nng t6 (gdg g4.k (bdg (xTim g4.v t7.v) ?_)))))))))))))
      have ep : timesS (hN c (i : Int)) (hL c (i : Int)) (c (4 + s).toNat) (sL c s) = plS c (i : Int) s := rfl
      rw [ep]
      by_cases q3 : 0 < plS c (i : Int) s
      · refine iteT q3 ?_
        rw [lt_d, fX11_speakers_b41, lt_d, e5.e, bor_set (p := fun j => decide (0 < plS c (j : Int) s)) (by omega) (by simp [q3])]
      · refine iteF q3 ?_
        rw [fX11_speakers_b41, lt_d, e5.e, bs_no (p := fun j => decide (0 < plS c (j : Int) s)) (by simp [q3])])
    (fun fu t hI => by
      obtain ⟨h1, v⟩ := t
      obtain ⟨p1, p2, p3⟩ := hI
      have p1 : QX X h h1 := p1
      have p2 : CX h1 X c := p2
      obtain ⟨S, f1, f2, f3, f4, f5, -⟩ := p2.shop
      refine ⟨(h1, v), ⟨p1, p2, p3⟩, ?_⟩
      show fX11_speakers_b4 X s (fu + 1) h1 v ((c 2).toNat : Int) = _
      rw [fX11_speakers_b4.eq_2]
      exact gdg p2.k (nng f1 (gdg f2 (iteF (by omega) rfl))))
set_option maxHeartbeats 200000 in
theorem rSpk {h : Hp} {M : Nat} {c : Nat → Int} {s : Int} (ms : MS h M) (hc : gA h (M + 5) = c) (w : WF c) (s0 : 0 ≤ s) (s8 : s < 8) : fX12_speaks_b28 M s FU h 0 0 = some (((spkS c s : Nat) : Int), h) := by
  have hj := w.nj
  unfold spkS
  have := fg (S := Int) (fun fu v t => fX12_speaks_b28 M s fu h t v) (fun t => some (t, h)) (c 2).toNat (fun i => ((bs i (fun j => decide (0 < plS c (j : Int) s)) : Nat) : Int)) (by omega) ?_ ?_ 0 (by omega)
  · exact this
  · intro fu i hi
    have e5 : WE ((i : Int) + 1) := we (by omega) (by omega)
    have hl := bs_lt i (fun j => decide (0 < plS c (j : Int) s))
    have hl2 : 2 ^ i ≤ 2 ^ 8 := Nat.pow_le_pow_right (by omega) (by omega)
    show fX12_speaks_b28 M s (fu + 1) h _ (i : Int) = fX12_speaks_b28 M s fu h _ _
    rw [fX12_speaks_b28.eq_2]
    simp only [lt_d, ms.r788, nn_s, ms.k0, ms.k5, gd_T, eq_self, hc, bd2_id, Int.reduceToNat]
    refine gdg (by omega) (iteT (by omega) (bdg (rPl w (by omega) (by omega) s0 s8) ?_))
    by_cases q3 : 0 < plS c (i : Int) s
    · refine iteT q3 ?_
      rw [fX12_speaks_b55, lt_d, lt_d, e5.e, bor_set (p := fun j => decide (0 < plS c (j : Int) s)) (by omega) (by simp [q3])]
    · refine iteF q3 ?_
      rw [fX12_speaks_b55, lt_d, lt_d, e5.e, bor_0 (by omega), bs_no (p := fun j => decide (0 < plS c (j : Int) s)) (by simp [q3])]
  · intro fu
    show fX12_speaks_b28 M s (fu + 1) h _ ((c 2).toNat : Int) = _
    rw [fX12_speaks_b28.eq_2]
    simp only [lt_d, ms.r788, nn_s, ms.k0, ms.k5, gd_T, eq_self, hc, bd2_id, Int.reduceToNat]
    exact gdg (by omega) (iteF (by omega) rfl)

set_option maxHeartbeats 200000 in
theorem ok_places {h : Hp} {X : Nat} {c : Nat → Int} {a s : Int} (H : CX h X c) (G : CM h X c) : OK2 (fun h => fX11_places h X a s) (fun h => fX12_places h (X + 121) a s) h X := by
  have w := H.wf
  by_cases q1 : okJ c a
  · by_cases q2 : okS c s
    · have a8 := nj_lt w q1
      have s8 := ns_lt w q2
      obtain ⟨h', g1, g2, g3, g4, g5, g6⟩ := H.hearV q1
      obtain ⟨S, t1, t2, t3, t4, t5, t6, t7, t8⟩ := g3.snd q2
      have tt := xTim g4.v t7.v
      have gk := g4.k
      have kx := g3.k
      refine ⟨0, plS c a s, ?_, fun h1 p => ?_⟩
      · show XR (fX11_places h X a s) h X _ _
        unfold fX11_places
        exact XR.of (by (have z_1 := xJr1 H q1.1 q1.2; have z_2 := xSn1 H q2.1 q2.2; (repeat' (first | (with_reducible refine ltg ?_) | ((with_reducible refine iteT ?_ ?_); omega) | ((with_reducible refine iteF ?_ ?_); omega) | ((with_reducible refine gdg ?_ ?_); first | with_reducible exact H.k | with_reducible exact z_1 | with_reducible exact z_2 | with_reducible exact g1 | with_reducible exact kx | with_reducible exact gk | with_reducible exact t1 | with_reducible exact t2 | with_reducible exact t3 | with_reducible exact t4 | with_reducible exact t5 | with_reducible exact t6 | with_reducible exact tt | omega) | ((with_reducible apply nng); first | with_reducible exact H.k | with_reducible exact z_1 | with_reducible exact z_2 | with_reducible exact g1 | with_reducible exact kx | with_reducible exact gk | with_reducible exact t1 | with_reducible exact t2 | with_reducible exact t3 | with_reducible exact t4 | with_reducible exact t5 | with_reducible exact t6 | with_reducible exact tt) | ((with_reducible apply bdg); first | with_reducible exact H.k | with_reducible exact z_1 | with_reducible exact z_2 | with_reducible exact g1 | with_reducible exact kx | with_reducible exact gk | with_reducible exact t1 | with_reducible exact t2 | with_reducible exact t3 | with_reducible exact t4 | with_reducible exact t5 | with_reducible exact t6 | with_reducible exact tt) | ((with_reducible apply bd2g); first | with_reducible exact H.k | with_reducible exact z_1 | with_reducible exact z_2 | with_reducible exact g1 | with_reducible exact kx | with_reducible exact gk | with_reducible exact t1 | with_reducible exact t2 | with_reducible exact t3 | with_reducible exact t4 | with_reducible exact t5 | with_reducible exact t6 | with_reducible exact tt)))); exact bd2_id _) (xr_an kx g2)
      · obtain ⟨ms, hc, -⟩ := G.q p
        simp only [fX12_places, lt_d, hK_pI, gR_pI, gA_pI, gB_pI, gC_pI, gJ_pI, ms.r788, nn_s, ms.k0, ms.k5, gd_T, eq_self, hc, bd2_id, Int.reduceToNat]
        exact MR.of (by (have z_0 := rJr1 w q1.1 q1.2; have z_1 := rSn1 w q2.1 q2.2; have z_2 := rPl w q1.1 a8 q2.1 s8; (repeat' (first | (with_reducible refine ltg ?_) | ((with_reducible refine iteT ?_ ?_); omega) | ((with_reducible refine iteF ?_ ?_); omega) | ((with_reducible refine gdg ?_ ?_); first | with_reducible exact z_0 | with_reducible exact z_1 | with_reducible exact z_2 | omega) | ((with_reducible apply nng); first | with_reducible exact z_0 | with_reducible exact z_1 | with_reducible exact z_2) | ((with_reducible apply bdg); first | with_reducible exact z_0 | with_reducible exact z_1 | with_reducible exact z_2) | ((with_reducible apply bd2g); first | with_reducible exact z_0 | with_reducible exact z_1 | with_reducible exact z_2)))); rfl) mr_m0
    · refine ⟨2, -1, ?_, fun h1 p => ?_⟩
      · show XR (fX11_places h X a s) h X _ _
        unfold fX11_places
        exact XR.of (by (have z_1 := xJr1 H q1.1 q1.2; have z_2 := xSn0 H (noS q2); (repeat' (first | (with_reducible refine ltg ?_) | ((with_reducible refine iteT ?_ ?_); omega) | ((with_reducible refine iteF ?_ ?_); omega) | ((with_reducible refine gdg ?_ ?_); first | with_reducible exact H.k | with_reducible exact z_1 | with_reducible exact z_2 | omega) | ((with_reducible apply nng); first | with_reducible exact H.k | with_reducible exact z_1 | with_reducible exact z_2) | ((with_reducible apply bdg); first | with_reducible exact H.k | with_reducible exact z_1 | with_reducible exact z_2) | ((with_reducible apply bd2g); first | with_reducible exact H.k | with_reducible exact z_1 | with_reducible exact z_2)))); exact bd2_id _) (xr_re H.k (QR.rf h) (rg_lit rfl))
      · obtain ⟨ms, hc, -⟩ := G.q p
        simp only [fX12_places, lt_d, hK_pI, gR_pI, gA_pI, gB_pI, gC_pI, gJ_pI, ms.r788, nn_s, ms.k0, ms.k5, gd_T, eq_self, hc, bd2_id, Int.reduceToNat]
        exact MR.of (by (have z_0 := rJr1 w q1.1 q1.2; have z_1 := rSn0 w (noS q2); (repeat' (first | (with_reducible refine ltg ?_) | ((with_reducible refine iteT ?_ ?_); omega) | ((with_reducible refine iteF ?_ ?_); omega) | ((with_reducible refine gdg ?_ ?_); first | with_reducible exact z_0 | with_reducible exact z_1 | omega) | ((with_reducible apply nng); first | with_reducible exact z_0 | with_reducible exact z_1) | ((with_reducible apply bdg); first | with_reducible exact z_0 | with_reducible exact z_1) | ((with_reducible apply bd2g); first | with_reducible exact z_0 | with_reducible exact z_1)))); rfl) (mr_m0r ms (rg_lit rfl))
  · refine ⟨2, -1, ?_, fun h1 p => ?_⟩
    · show XR (fX11_places h X a s) h X _ _
      unfold fX11_places
      exact XR.of (by (have z_1 := xJr0 H (noJ q1); (repeat' (first | (with_reducible refine ltg ?_) | ((with_reducible refine iteT ?_ ?_); omega) | ((with_reducible refine iteF ?_ ?_); omega) | ((with_reducible refine gdg ?_ ?_); first | with_reducible exact H.k | with_reducible exact z_1 | omega) | ((with_reducible apply nng); first | with_reducible exact H.k | with_reducible exact z_1) | ((with_reducible apply bdg); first | with_reducible exact H.k | with_reducible exact z_1) | ((with_reducible apply bd2g); first | with_reducible exact H.k | with_reducible exact z_1)))); exact bd2_id _) (xr_re H.k (QR.rf h) (rg_lit rfl))
    · obtain ⟨ms, hc, -⟩ := G.q p
      simp only [fX12_places, lt_d, hK_pI, gR_pI, gA_pI, gB_pI, gC_pI, gJ_pI, ms.r788, nn_s, ms.k0, ms.k5, gd_T, eq_self, hc, bd2_id, Int.reduceToNat]
      exact MR.of (by (have z_0 := rJr0 w (noJ q1); (repeat' (first | (with_reducible refine ltg ?_) | ((with_reducible refine iteT ?_ ?_); omega) | ((with_reducible refine iteF ?_ ?_); omega) | ((with_reducible refine gdg ?_ ?_); first | with_reducible exact z_0 | omega) | ((with_reducible apply nng); first | with_reducible exact z_0) | ((with_reducible apply bdg); first | with_reducible exact z_0) | ((with_reducible apply bd2g); first | with_reducible exact z_0)))); rfl) (mr_m0r ms (rg_lit rfl))

set_option maxHeartbeats 200000 in
theorem ok_laps {h : Hp} {X : Nat} {c : Nat → Int} {a b : Int} (H : CX h X c) (G : CM h X c) : OK2 (fun h => fX11_laps h X a b) (fun h => fX12_laps h (X + 121) a b) h X := by
  have w := H.wf
  by_cases q1 : okJ c a
  · by_cases q2 : okJ c b
    · have a8 := nj_lt w q1
      have b8 := nj_lt w q2
      obtain ⟨h', g1, g2, g3, g4, g5, g6⟩ := H.hearV q1
      obtain ⟨h'', k1, k2, k3, k4, k5, k6⟩ := g3.hearV q2
      have va := k5 a q1.1 a8 g4
      have tt := xLap va.v k4.v
      have gk := va.k
      have kx := g3.k
      have ky := k3.k
      refine ⟨0, lapS c a b, ?_, fun h1 p => ?_⟩
      · show XR (fX11_laps h X a b) h X _ _
        unfold fX11_laps
        exact XR.of (by (have z_1 := xJr1 H q1.1 q1.2; have z_2 := xJr1 H q2.1 q2.2; (repeat' (first | (with_reducible refine ltg ?_) | ((with_reducible refine iteT ?_ ?_); omega) | ((with_reducible refine iteF ?_ ?_); omega) | ((with_reducible refine gdg ?_ ?_); first | with_reducible exact H.k | with_reducible exact z_1 | with_reducible exact z_2 | with_reducible exact g1 | with_reducible exact kx | with_reducible exact k1 | with_reducible exact ky | with_reducible exact gk | with_reducible exact tt | omega) | ((with_reducible apply nng); first | with_reducible exact H.k | with_reducible exact z_1 | with_reducible exact z_2 | with_reducible exact g1 | with_reducible exact kx | with_reducible exact k1 | with_reducible exact ky | with_reducible exact gk | with_reducible exact tt) | ((with_reducible apply bdg); first | with_reducible exact H.k | with_reducible exact z_1 | with_reducible exact z_2 | with_reducible exact g1 | with_reducible exact kx | with_reducible exact k1 | with_reducible exact ky | with_reducible exact gk | with_reducible exact tt) | ((with_reducible apply bd2g); first | with_reducible exact H.k | with_reducible exact z_1 | with_reducible exact z_2 | with_reducible exact g1 | with_reducible exact kx | with_reducible exact k1 | with_reducible exact ky | with_reducible exact gk | with_reducible exact tt)))); exact bd2_id _) (xr_an ky (g2.tr k2))
      · obtain ⟨ms, hc, -⟩ := G.q p
        simp only [fX12_laps, lt_d, hK_pI, gR_pI, gA_pI, gB_pI, gC_pI, gJ_pI, ms.r788, nn_s, ms.k0, ms.k5, gd_T, eq_self, hc, bd2_id, Int.reduceToNat]
        exact MR.of (by (have z_0 := rJr1 w q1.1 q1.2; have z_1 := rJr1 w q2.1 q2.2; have z_2 := rLap w q1.1 a8 q2.1 b8; (repeat' (first | (with_reducible refine ltg ?_) | ((with_reducible refine iteT ?_ ?_); omega) | ((with_reducible refine iteF ?_ ?_); omega) | ((with_reducible refine gdg ?_ ?_); first | with_reducible exact z_0 | with_reducible exact z_1 | with_reducible exact z_2 | omega) | ((with_reducible apply nng); first | with_reducible exact z_0 | with_reducible exact z_1 | with_reducible exact z_2) | ((with_reducible apply bdg); first | with_reducible exact z_0 | with_reducible exact z_1 | with_reducible exact z_2) | ((with_reducible apply bd2g); first | with_reducible exact z_0 | with_reducible exact z_1 | with_reducible exact z_2)))); rfl) mr_m0
    · refine ⟨2, -1, ?_, fun h1 p => ?_⟩
      · show XR (fX11_laps h X a b) h X _ _
        unfold fX11_laps
        exact XR.of (by (have z_1 := xJr1 H q1.1 q1.2; have z_2 := xJr0 H (noJ q2); (repeat' (first | (with_reducible refine ltg ?_) | ((with_reducible refine iteT ?_ ?_); omega) | ((with_reducible refine iteF ?_ ?_); omega) | ((with_reducible refine gdg ?_ ?_); first | with_reducible exact H.k | with_reducible exact z_1 | with_reducible exact z_2 | omega) | ((with_reducible apply nng); first | with_reducible exact H.k | with_reducible exact z_1 | with_reducible exact z_2) | ((with_reducible apply bdg); first | with_reducible exact H.k | with_reducible exact z_1 | with_reducible exact z_2) | ((with_reducible apply bd2g); first | with_reducible exact H.k | with_reducible exact z_1 | with_reducible exact z_2)))); exact bd2_id _) (xr_re H.k (QR.rf h) (rg_lit rfl))
      · obtain ⟨ms, hc, -⟩ := G.q p
        simp only [fX12_laps, lt_d, hK_pI, gR_pI, gA_pI, gB_pI, gC_pI, gJ_pI, ms.r788, nn_s, ms.k0, ms.k5, gd_T, eq_self, hc, bd2_id, Int.reduceToNat]
        exact MR.of (by (have z_0 := rJr1 w q1.1 q1.2; have z_1 := rJr0 w (noJ q2); (repeat' (first | (with_reducible refine ltg ?_) | ((with_reducible refine iteT ?_ ?_); omega) | ((with_reducible refine iteF ?_ ?_); omega) | ((with_reducible refine gdg ?_ ?_); first | with_reducible exact z_0 | with_reducible exact z_1 | omega) | ((with_reducible apply nng); first | with_reducible exact z_0 | with_reducible exact z_1) | ((with_reducible apply bdg); first | with_reducible exact z_0 | with_reducible exact z_1) | ((with_reducible apply bd2g); first | with_reducible exact z_0 | with_reducible exact z_1)))); rfl) (mr_m0r ms (rg_lit rfl))
  · refine ⟨2, -1, ?_, fun h1 p => ?_⟩
    · show XR (fX11_laps h X a b) h X _ _
      unfold fX11_laps
      exact XR.of (by (have z_1 := xJr0 H (noJ q1); (repeat' (first | (with_reducible refine ltg ?_) | ((with_reducible refine iteT ?_ ?_); omega) | ((with_reducible refine iteF ?_ ?_); omega) | ((with_reducible refine gdg ?_ ?_); first | with_reducible exact H.k | with_reducible exact z_1 | omega) | ((with_reducible apply nng); first | with_reducible exact H.k | with_reducible exact z_1) | ((with_reducible apply bdg); first | with_reducible exact H.k | with_reducible exact z_1) | ((with_reducible apply bd2g); first | with_reducible exact H.k | with_reducible exact z_1)))); exact bd2_id _) (xr_re H.k (QR.rf h) (rg_lit rfl))
    · obtain ⟨ms, hc, -⟩ := G.q p
      simp only [fX12_laps, lt_d, hK_pI, gR_pI, gA_pI, gB_pI, gC_pI, gJ_pI, ms.r788, nn_s, ms.k0, ms.k5, gd_T, eq_self, hc, bd2_id, Int.reduceToNat]
      exact MR.of (by (have z_0 := rJr0 w (noJ q1); (repeat' (first | (with_reducible refine ltg ?_) | ((with_reducible refine iteT ?_ ?_); omega) | ((with_reducible refine iteF ?_ ?_); omega) | ((with_reducible refine gdg ?_ ?_); first | with_reducible exact z_0 | omega) | ((with_reducible apply nng); first | with_reducible exact z_0) | ((with_reducible apply bdg); first | with_reducible exact z_0) | ((with_reducible apply bd2g); first | with_reducible exact z_0)))); rfl) (mr_m0r ms (rg_lit rfl))

set_option maxHeartbeats 200000 in
theorem ok_speaks {h : Hp} {X : Nat} {c : Nat → Int} {s : Int} (H : CX h X c) (G : CM h X c) : OK2 (fun h => fX11_speaks h X s) (fun h => fX12_speaks h (X + 121) s) h X := by
  have w := H.wf
  by_cases q1 : okS c s
  · have s8 := ns_lt w q1
    obtain ⟨⟨h', v⟩, ⟨g2, g3, g4⟩, g1⟩ := xSpk H q1
    have g4 : v = _ := g4
    subst g4
    have kx := g3.k
    refine ⟨0, ((spkS c s : Nat) : Int), ?_, fun h1 p => ?_⟩
    · show XR (fX11_speaks h X s) h X _ _
      unfold fX11_speaks
      exact XR.of (by (have z_1 := xSn1 H q1.1 q1.2; (repeat' (first | (with_reducible refine ltg ?_) | ((with_reducible refine iteT ?_ ?_); omega) | ((with_reducible refine iteF ?_ ?_); omega) | ((with_reducible refine gdg ?_ ?_); first | with_reducible exact H.k | with_reducible exact z_1 | with_reducible exact g1 | with_reducible exact kx | omega) | ((with_reducible apply nng); first | with_reducible exact H.k | with_reducible exact z_1 | with_reducible exact g1 | with_reducible exact kx) | ((with_reducible apply bdg); first | with_reducible exact H.k | with_reducible exact z_1 | with_reducible exact g1 | with_reducible exact kx) | ((with_reducible apply bd2g); first | with_reducible exact H.k | with_reducible exact z_1 | with_reducible exact g1 | with_reducible exact kx)))); exact bd2_id _) (xr_an kx g2)
    · obtain ⟨ms, hc, -⟩ := G.q p
      have key := rSpk (h := pI (pI h1 769 (X + 121) 0) 768 (X + 121) 0) ms hc w q1.1 s8
      simp only [fX12_speaks, lt_d, hK_pI, gR_pI, gA_pI, gB_pI, gC_pI, gJ_pI, ms.r788, nn_s, ms.k0, ms.k5, gd_T, eq_self, hc, bd2_id, Int.reduceToNat]
      exact MR.of (by (have z_0 := rSn1 w q1.1 q1.2; (repeat' (first | (with_reducible refine ltg ?_) | ((with_reducible refine iteT ?_ ?_); omega) | ((with_reducible refine iteF ?_ ?_); omega) | ((with_reducible refine gdg ?_ ?_); first | with_reducible exact z_0 | omega) | ((with_reducible apply nng); first | with_reducible exact z_0) | ((with_reducible apply bdg); first | with_reducible exact z_0) | ((with_reducible apply bd2g); first | with_reducible exact z_0)))); exact key) mr_m0
  · refine ⟨2, -1, ?_, fun h1 p => ?_⟩
    · show XR (fX11_speaks h X s) h X _ _
      unfold fX11_speaks
      exact XR.of (by (have z_1 := xSn0 H (noS q1); (repeat' (first | (with_reducible refine ltg ?_) | ((with_reducible refine iteT ?_ ?_); omega) | ((with_reducible refine iteF ?_ ?_); omega) | ((with_reducible refine gdg ?_ ?_); first | with_reducible exact H.k | with_reducible exact z_1 | omega) | ((with_reducible apply nng); first | with_reducible exact H.k | with_reducible exact z_1) | ((with_reducible apply bdg); first | with_reducible exact H.k | with_reducible exact z_1) | ((with_reducible apply bd2g); first | with_reducible exact H.k | with_reducible exact z_1)))); exact bd2_id _) (xr_re H.k (QR.rf h) (rg_lit rfl))
    · obtain ⟨ms, hc, -⟩ := G.q p
      simp only [fX12_speaks, lt_d, hK_pI, gR_pI, gA_pI, gB_pI, gC_pI, gJ_pI, ms.r788, nn_s, ms.k0, ms.k5, gd_T, eq_self, hc, bd2_id, Int.reduceToNat]
      exact MR.of (by (have z_0 := rSn0 w (noS q1); (repeat' (first | (with_reducible refine ltg ?_) | ((with_reducible refine iteT ?_ ?_); omega) | ((with_reducible refine iteF ?_ ?_); omega) | ((with_reducible refine gdg ?_ ?_); first | with_reducible exact z_0 | omega) | ((with_reducible apply nng); first | with_reducible exact z_0) | ((with_reducible apply bdg); first | with_reducible exact z_0) | ((with_reducible apply bd2g); first | with_reducible exact z_0)))); rfl) (mr_m0r ms (rg_lit rfl))

set_option maxHeartbeats 200000 in
theorem ok_fits {h : Hp} {X : Nat} {c : Nat → Int} {a : Int} (H : CX h X c) (G : CM h X c) : OK2 (fun h => fX11_fits h X a) (fun h => fX12_fits h (X + 121) a) h X := by
  have w := H.wf
  by_cases q1 : okSet c a
  · have pw := pw8 w
    obtain ⟨s, rfl⟩ := i2n q1.1
    have q12 := q1.2
    have hs : s < 2147483648 := by omega
    obtain ⟨⟨h', v⟩, ⟨g2, g3, g4⟩, g1⟩ := xFitL H hs
    have g4 : v = _ := g4
    subst g4
    have kx := g3.k
    obtain ⟨S, f1, f2, f3, f4, f5, -⟩ := H.shop
    refine ⟨0, ((fitS c s : Nat) : Int), ?_, fun h1 p => ?_⟩
    · show XR (fX11_fits h X (s : Int)) h X _ _
      unfold fX11_fits
      exact XR.of (by (have z_1 := xSet1 H q1; have z_4 := xAllS f3 w; (repeat' (first | (with_reducible refine ltg ?_) | ((with_reducible refine iteT ?_ ?_); omega) | ((with_reducible refine iteF ?_ ?_); omega) | ((with_reducible refine gdg ?_ ?_); first | with_reducible exact H.k | with_reducible exact z_1 | with_reducible exact f1 | with_reducible exact f2 | with_reducible exact z_4 | omega) | ((with_reducible apply nng); first | with_reducible exact H.k | with_reducible exact z_1 | with_reducible exact f1 | with_reducible exact f2 | with_reducible exact z_4) | ((with_reducible apply bdg); first | with_reducible exact H.k | with_reducible exact z_1 | with_reducible exact f1 | with_reducible exact f2 | with_reducible exact z_4) | ((with_reducible apply bd2g); first | with_reducible exact H.k | with_reducible exact z_1 | with_reducible exact f1 | with_reducible exact f2 | with_reducible exact z_4)))); exact g1) (xr_an kx g2)
    · obtain ⟨ms, hc, -⟩ := G.q p
      simp only [fX12_fits, lt_d, hK_pI, gR_pI, gA_pI, gB_pI, gC_pI, gJ_pI, ms.r788, nn_s, ms.k0, ms.k5, gd_T, eq_self, hc, bd2_id, Int.reduceToNat]
      exact MR.of (bdg (rSet1 w q1) (iteF (by omega) (bdg (rFits w hs) rfl))) mr_m0
  · refine ⟨2, -1, ?_, fun h1 p => ?_⟩
    · show XR (fX11_fits h X a) h X _ _
      unfold fX11_fits
      exact XR.of (by (have z_1 := xSet0 H q1; (repeat' (first | (with_reducible refine ltg ?_) | ((with_reducible refine iteT ?_ ?_); omega) | ((with_reducible refine iteF ?_ ?_); omega) | ((with_reducible refine gdg ?_ ?_); first | with_reducible exact H.k | with_reducible exact z_1 | omega) | ((with_reducible apply nng); first | with_reducible exact H.k | with_reducible exact z_1) | ((with_reducible apply bdg); first | with_reducible exact H.k | with_reducible exact z_1) | ((with_reducible apply bd2g); first | with_reducible exact H.k | with_reducible exact z_1)))); exact bd2_id _) (xr_re H.k (QR.rf h) (rg_lit rfl))
    · obtain ⟨ms, hc, -⟩ := G.q p
      simp only [fX12_fits, lt_d, hK_pI, gR_pI, gA_pI, gB_pI, gC_pI, gJ_pI, ms.r788, nn_s, ms.k0, ms.k5, gd_T, eq_self, hc, bd2_id, Int.reduceToNat]
      exact MR.of (by (have z_0 := rSet0 w q1; (repeat' (first | (with_reducible refine ltg ?_) | ((with_reducible refine iteT ?_ ?_); omega) | ((with_reducible refine iteF ?_ ?_); omega) | ((with_reducible refine gdg ?_ ?_); first | with_reducible exact z_0 | omega) | ((with_reducible apply nng); first | with_reducible exact z_0) | ((with_reducible apply bdg); first | with_reducible exact z_0) | ((with_reducible apply bd2g); first | with_reducible exact z_0)))); rfl) (mr_m0r ms (rg_lit rfl))
