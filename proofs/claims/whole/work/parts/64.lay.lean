/-! STATE: tray, pour, feed (written by wip/whole/g64.py) -/
set_option maxHeartbeats 200000 in
theorem xLay {h : Hp} {X t : Nat} {s m : Int} (k : (hK h (X + 2 + 2 * t)).1 = 10) (r : gR h 640 (X + 2 + 2 * t) = some (X + 3 + 2 * t)) (k2 : hK h (X + 3 + 2 * t) = (22, 60)) (m8 : m ≤ 60) :
    ∃ t' : Hp, (On (fun b => b = X + 3 + 2 * t) (pI (pI h 641 (X + 2 + 2 * t) s) 642 (X + 2 + 2 * t) m) t' ∧ ∀ p, p < 60 → gB t' (X + 3 + 2 * t) p = 0) ∧ fX10_lay h (X + 2 + 2 * t) s m = some t' := by
  have key := fk (S := Hp) (T := Hp) (fun fu v u => fX10_lay_b17 (X + 2 + 2 * t) s m fu u v) some 60 (fun i u => On (fun b => b = X + 3 + 2 * t) (pI (pI h 641 (X + 2 + 2 * t) s) 642 (X + 2 + 2 * t) m) u ∧ ∀ p, p < i → gB u (X + 3 + 2 * t) p = 0) (fun u => On (fun b => b = X + 3 + 2 * t) (pI (pI h 641 (X + 2 + 2 * t) s) 642 (X + 2 + 2 * t) m) u ∧ ∀ p, p < 60 → gB u (X + 3 + 2 * t) p = 0) 0 (pI (pI h 641 (X + 2 + 2 * t) s) 642 (X + 2 + 2 * t) m) (by omega) ⟨On.rf _, fun p hp => absurd hp (by omega)⟩ (by omega)
    (fun fu i u hi hI => by
      obtain ⟨p1, p2⟩ := hI
      have e5 : WE ((i : Int) + 1) := we (by omega) (by omega)
      have k1 : (hK u (X + 2 + 2 * t)).1 = 10 := by rw [p1.k]; exact k
      have k3 : hK u (X + 3 + 2 * t) = (22, 60) := p1.ka k2
      have r1 : gR u 640 (X + 2 + 2 * t) = some (X + 3 + 2 * t) := by rw [p1.r (by omega)]; exact r
      left
      refine ⟨sB u (X + 3 + 2 * t) (i : Int) 0, ⟨p1.tr (on_sB u rfl), fun p hp => ?_⟩, ?_⟩
      · rw [gB_sB]
        by_cases y : p = i
        · rw [if_pos ⟨rfl, by omega⟩, w64_id (by omega) (by omega)]
        · rw [if_neg (fun z => y (by have := z.2; omega))]
          exact p2 p (by omega)
      · show fX10_lay_b17 (X + 2 + 2 * t) s m (fu + 1) u (i : Int) = fX10_lay_b17 (X + 2 + 2 * t) s m fu (sB u (X + 3 + 2 * t) (i : Int) 0) ((i : Int) + 1)
        rw [fX10_lay_b17.eq_2]
        refine iteT (by omega) (gdg k1 (nng r1 (gdg (by rw [k3]) (gdg (by rw [k3]; show 0 ≤ _ ∧ _ < (60 : Int); omega) ?_))))
        rw [lt_d, lt_d, e5.e])
    (fun fu u hI => by
      refine ⟨u, hI, ?_⟩
      show fX10_lay_b17 (X + 2 + 2 * t) s m (fu + 1) u ((60 : Nat) : Int) = _
      rw [fX10_lay_b17.eq_2]
      exact iteF (by omega) rfl)
  obtain ⟨t', h1, h2⟩ := key
  refine ⟨t', h1, ?_⟩
  unfold fX10_lay
  refine gdg k ?_
  rw [lt_d, lt_d, show min m 60 = m by omega]
  exact h2
set_option maxHeartbeats 200000 in
theorem rTrL {h : Hp} {M m : Nat} {t s : Int} (ms : MS h M) (t0 : 0 ≤ t) (t4 : t < 4) (m8 : m ≤ 60) :
    ∃ t' : Hp, (On (fun b => b = M + 3) h t' ∧ ∀ q, gB t' (M + 3) q = if 60 * t.toNat ≤ q ∧ q < 60 * t.toNat + m then 0 else gB h (M + 3) q) ∧ fX12_tray_b74 M t s (m : Int) FU h 0 = some (1, t') :=
  fk (S := Hp) (T := Hp) (fun fu v u => fX12_tray_b74 M t s (m : Int) fu u v) (fun u => some (1, u)) m (fun i u => On (fun b => b = M + 3) h u ∧ ∀ q, gB u (M + 3) q = if 60 * t.toNat ≤ q ∧ q < 60 * t.toNat + i then 0 else gB h (M + 3) q) _ 0 h (by omega) ⟨On.rf _, fun p => by rw [if_neg (by omega)]⟩ (by omega)
    (fun fu i u hi hI => by
      obtain ⟨p1, p2⟩ := hI
      have e5 : WE ((i : Int) + 1) := we (by omega) (by omega)
      have e6 : WE (60 * t) := we (by omega) (by omega)
      have e7 : WE (60 * t + (i : Int)) := we (by omega) (by omega)
      have mu := ms.on p1 (by omega)
      left
      refine ⟨sB u (M + 3) (60 * t + (i : Int)) 0, ⟨p1.tr (on_sB u rfl), fun q => ?_⟩, ?_⟩
      · rw [gB_sB]
        by_cases y : q = 60 * t.toNat + i
        · rw [if_pos ⟨rfl, by omega⟩, if_pos (by omega), w64_id (by omega) (by omega)]
        · rw [if_neg (fun z => y (by have := z.2; omega)), p2 q]
          by_cases y2 : 60 * t.toNat ≤ q ∧ q < 60 * t.toNat + i
          · rw [if_pos y2, if_pos (by omega)]
          · rw [if_neg y2, if_neg (by omega)]
      · show fX12_tray_b74 M t s (m : Int) (fu + 1) u (i : Int) = fX12_tray_b74 M t s (m : Int) fu (sB u (M + 3) (60 * t + (i : Int)) 0) ((i : Int) + 1)
        rw [fX12_tray_b74.eq_2, e6.e, e7.e]
        refine iteT (by omega) (gdg mu.k (nng mu.r774 (gdg (by rw [mu.k3]) (gdg (by rw [mu.k3]; show 0 ≤ _ ∧ _ < (240 : Int); omega) ?_))))
        rw [lt_d, lt_d, e5.e])
    (fun fu u hI => by
      refine ⟨u, hI, ?_⟩
      show fX12_tray_b74 M t s (m : Int) (fu + 1) u (m : Int) = _
      rw [fX12_tray_b74.eq_2]
      exact iteF (by omega) rfl)
set_option maxHeartbeats 200000 in
theorem ok_tray {h : Hp} {X : Nat} {t s m : Int} (I : Inv h X) : OK3 (fun h => fX11_tray h X t s m) (fun h => fX12_tray h (X + 121) t s m) h X := by
  obtain ⟨c, J, i1, i2, i3⟩ := id I
  have H := J.x
  have G := J.m
  by_cases q1 : 0 ≤ t ∧ t < 4
  · by_cases q2 : 0 ≤ s ∧ s ≤ 3
    · by_cases q3 : m ≤ 60
      · by_cases q4 : 0 ≤ m
        · obtain ⟨n, rfl⟩ := i2n q4
          obtain ⟨a1, a2, a3, a4, a5, a6, a7⟩ := H.1.tray q1.1 q1.2
          obtain ⟨t', ⟨o1, c1⟩, e1⟩ := xLay (s := s) (m := (n : Int)) a5 a7 a6 (by omega)
          have kt : (hK t' X).1 = 11 := by rw [o1.k]; exact H.k
          have e2 : fX11_tray h X t s (n : Int) = some (1, pI t' 721 X 0) := by
            unfold fX11_tray
            refine bdg (xTr1 q1.1 q1.2) (iteF (by omega) (bdg (xIn1 q2.1 q2.2) (iteF (by omega) (iteT (by omega) (iteF (by omega) (gdg H.k (nng a1 (gdg a2 (gdg a3 (nng a4 (gdg a5 (bdg e1 (gdg kt ?_)))))))))))))
            unfold fX11_allow
            exact bd2g (gdg kt rfl) rfl
          have t5 : t.toNat = 0 ∨ t.toNat = 1 ∨ t.toNat = 2 ∨ t.toNat = 3 := by omega
          have tf : (641, 2 + 2 * t.toNat) ∈ [((641 : Nat), (2 : Nat)), (641, 4), (641, 6), (641, 8), (642, 2), (642, 4), (642, 6), (642, 8)] ∧ (642, 2 + 2 * t.toNat) ∈ [((641 : Nat), (2 : Nat)), (641, 4), (641, 6), (641, 8), (642, 2), (642, 4), (642, 6), (642, 8)] ∧ 3 + 2 * t.toNat ∈ [3, 5, 7, 9] := by
            rcases t5 with z | z | z | z <;> rw [z] <;> decide
          have p1 : FL [3, 5, 7, 9] [(641, 2), (641, 4), (641, 6), (641, 8), (642, 2), (642, 4), (642, 6), (642, 8)] X h (pI t' 721 X 0) :=
            (((fl_pI h (2 + 2 * t.toNat) (by omega) tf.1).tr (fl_pI _ (2 + 2 * t.toNat) (by omega) tf.2.1)).tr (fl_on o1 (fun b hb => Or.inr ⟨3 + 2 * t.toNat, tf.2.2, by omega⟩))).tr (fl_q (q_pI t' (Or.inl ⟨rfl, rfl⟩)))
          have G1 := G.fl p1 J.z (by decide +kernel)
          have x1 : ∀ u, gI (pI t' 721 X 0) 641 (X + 2 + 2 * u) = if u = t.toNat then s else gI h 641 (X + 2 + 2 * u) := fun u => by
            rw [gI_n (by omega), o1.i (by omega), gI_n (by omega), gI_pI]
            by_cases y : u = t.toNat
            · rw [if_pos y, if_pos ⟨rfl, by omega⟩, w32_id (by omega) (by omega)]
            · rw [if_neg y, if_neg (by omega)]
          have x2 : ∀ u, gI (pI t' 721 X 0) 642 (X + 2 + 2 * u) = if u = t.toNat then (n : Int) else gI h 642 (X + 2 + 2 * u) := fun u => by
            rw [gI_n (by omega), o1.i (by omega), gI_pI]
            by_cases y : u = t.toNat
            · rw [if_pos y, if_pos ⟨rfl, by omega⟩, w32_id (by omega) (by omega)]
            · rw [if_neg y, if_neg (by omega), gI_n (by omega)]
          have x3 : ∀ u p, p < 60 → gB (pI t' 721 X 0) (X + 3 + 2 * u) p = if u = t.toNat then 0 else gB h (X + 3 + 2 * u) p := fun u p hp => by
            rw [gB_pI]
            by_cases y : u = t.toNat
            · rw [if_pos y, y]; exact c1 p hp
            · rw [if_neg y, o1.b (by omega), gB_pI, gB_pI]
          have x4 : gI (pI t' 721 X 0) 721 X = 0 := gI_pIs (rg_lit rfl)
          have x5 : (∀ i, gA (pI t' 721 X 0) (X + 121 + 1) i = gA h (X + 121 + 1) i) ∧ (∀ i, gA (pI t' 721 X 0) (X + 121 + 2) i = gA h (X + 121 + 2) i) := ⟨fun i => by rw [gA_pI, o1.a (by omega), gA_pI, gA_pI], fun i => by rw [gA_pI, o1.a (by omega), gA_pI, gA_pI]⟩
          have x6 : ∀ q, gB (pI t' 721 X 0) (X + 121 + 3) q = gB h (X + 121 + 3) q := fun q => by rw [gB_pI, o1.b (by omega), gB_pI, gB_pI]
          generalize pI t' 721 X 0 = h1 at e2 p1 G1 x1 x2 x3 x4 x5 x6
          obtain ⟨ms, hc, -⟩ := G1
          have mb : MS (sA (sA (m0 h1 X) (X + 121 + 1) t s) (X + 121 + 2) t (n : Int)) (X + 121) := ms
          obtain ⟨h4, ⟨o4, c4⟩, e4⟩ := rTrL (h := sA (sA (m0 h1 X) (X + 121 + 1) t s) (X + 121 + 2) t (n : Int)) (M := X + 121) (m := n) (t := t) (s := s) mb q1.1 q1.2 (by omega)
          have e3 : fX12_tray h1 (X + 121) t s (n : Int) = some (1, h4) := by
            unfold fX12_tray
            refine gdg ms.k ?_
            rw [lt_d, lt_d]
            refine iteF (by omega) (iteT (by omega) (iteF (by omega) (iteT (by omega) (iteT (by omega) (iteF (by omega) (nng (q := X + 121 + 1) ms.r772 (gdg ?_ (gdg ?_ ?_))))))))
            · show (hK h1 (X + 121 + 1)).1 = 21
              rw [ms.k1]
            · show inA t (hK h1 (X + 121 + 1)).2
              rw [ms.k1]; exact ⟨q1.1, q1.2⟩
            · rw [lt_d]
              refine nng (q := X + 121 + 2) ms.r773 (gdg ?_ (gdg ?_ ?_))
              · show (hK h1 (X + 121 + 2)).1 = 21
                rw [ms.k2]
              · show inA t (hK h1 (X + 121 + 2)).2
                rw [ms.k2]; exact ⟨q1.1, q1.2⟩
              · rw [lt_d]
                exact e4
          have p2 : FL [3, 5, 7, 9, 122, 123, 124] [(641, 2), (641, 4), (641, 6), (641, 8), (642, 2), (642, 4), (642, 6), (642, 8)] X h1 h4 :=
            (((fl_m (m0_q h1 X)).tr (fl_sA _ 122 rfl (by decide))).tr (fl_sA _ 123 rfl (by decide))).tr (fl_on o4 (fun b hb => Or.inr ⟨124, by decide, by omega⟩))
          have s4 : gI h4 768 (X + 121) = 0 := by rw [o4.i (by omega), gI_sA, gI_sA]; exact m0_s h1 X
          have z4 : gI h4 721 X = 0 := by rw [o4.i (by omega), gI_sA, gI_sA, (m0_q h1 X).i (by unfold sc; omega) (fun z => by unfold pM at z; omega)]; exact x4
          refine ⟨1, h1, h4, e2, e3, inv_tr J ((p1.mono (by decide) (by decide)).tr p2) (fun u hu => ?_) i2 i3 (z4.trans s4.symm)⟩
          have y1 : gI h4 641 (X + 2 + 2 * u) = if u = t.toNat then s else gI h 641 (X + 2 + 2 * u) := by
            rw [o4.i (by omega), gI_sA, gI_sA, (m0_q h1 X).i (by unfold sc; omega) (fun z => by unfold pM at z; omega)]; exact x1 u
          have y2 : gI h4 642 (X + 2 + 2 * u) = if u = t.toNat then (n : Int) else gI h 642 (X + 2 + 2 * u) := by
            rw [o4.i (by omega), gI_sA, gI_sA, (m0_q h1 X).i (by unfold sc; omega) (fun z => by unfold pM at z; omega)]; exact x2 u
          have y3 : ∀ p, p < 60 → gB h4 (X + 3 + 2 * u) p = if u = t.toNat then 0 else gB h (X + 3 + 2 * u) p := fun p hp => by
            rw [o4.b (by omega), gB_sA, gB_sA, (m0_q h1 X).b (by unfold sc; omega)]; exact x3 u p hp
          have y4 : gA h4 (X + 121 + 1) u = if u = t.toNat then s else gA h (X + 121 + 1) u := by
            rw [o4.a (by omega), gA_sA, if_neg (by omega), gA_sA]
            by_cases y : u = t.toNat
            · rw [if_pos ⟨rfl, y⟩, if_pos y, w32_id (by omega) (by omega)]
            · rw [if_neg (fun z => y z.2), if_neg y, (m0_q h1 X).a (by unfold sc; omega)]; exact x5.1 u
          have y5 : gA h4 (X + 121 + 2) u = if u = t.toNat then (n : Int) else gA h (X + 121 + 2) u := by
            rw [o4.a (by omega), gA_sA]
            by_cases y : u = t.toNat
            · rw [if_pos ⟨rfl, y⟩, if_pos y, w32_id (by omega) (by omega)]
            · rw [if_neg (fun z => y z.2), if_neg y, gA_sA, if_neg (by omega), (m0_q h1 X).a (by unfold sc; omega)]; exact x5.2 u
          have y6 : ∀ q, gB h4 (X + 121 + 3) q = if 60 * t.toNat ≤ q ∧ q < 60 * t.toNat + n then 0 else gB h (X + 121 + 3) q := fun q => by
            rw [c4 q]
            by_cases y : 60 * t.toNat ≤ q ∧ q < 60 * t.toNat + n
            · rw [if_pos y, if_pos y]
            · rw [if_neg y, if_neg y, gB_sA, gB_sA, (m0_q h1 X).b (by unfold sc; omega)]; exact x6 q
          unfold TRt
          rw [y1, y2, y4, y5]
          by_cases y : u = t.toNat
          · rw [if_pos y, if_pos y, if_pos y, if_pos y]
            refine Or.inr ⟨by omega, by omega, rfl, rfl, fun p hp => ?_⟩
            rw [y3 p (by omega), if_pos y, y6, if_pos (by omega)]
          · rw [if_neg y, if_neg y, if_neg y, if_neg y]
            rcases J.tr u hu with w1 | ⟨w1, w2, w3, w4, w5⟩
            · exact Or.inl w1
            · refine Or.inr ⟨w1, w2, w3, w4, fun p hp => ?_⟩
              rw [y3 p (by omega), if_neg y, y6, if_neg (by omega)]
              exact w5 p hp
        · refine ok3 I J ⟨6, 0, ?_, fun h1 p => ?_⟩
          · show XR (fX11_tray h X t s m) h X _ _
            unfold fX11_tray
            exact XR.of (by (have z_1 := xTr1 q1.1 q1.2; (repeat' (first | (with_reducible refine ltg ?_) | ((with_reducible refine iteT ?_ ?_); omega) | ((with_reducible refine iteF ?_ ?_); omega) | ((with_reducible refine gdg ?_ ?_); first | with_reducible exact H.k | with_reducible exact z_1 | exact xIn1 q2.1 q2.2 | omega) | ((with_reducible apply nng); first | with_reducible exact H.k | with_reducible exact z_1 | exact xIn1 q2.1 q2.2) | ((with_reducible apply bdg); first | with_reducible exact H.k | with_reducible exact z_1 | exact xIn1 q2.1 q2.2) | ((with_reducible apply bd2g); first | with_reducible exact H.k | with_reducible exact z_1 | exact xIn1 q2.1 q2.2)))); exact bd2_id _) (xr_de H.k (QR.rf h) (rg_lit rfl))
          · obtain ⟨ms, hc, -⟩ := G.q p
            show MR (fX12_tray h1 (X + 121) t s m) h1 X _ _
            unfold fX12_tray
            refine MR.of ?_ (mr_m0n (st := 6) ms (rg_lit rfl))
            refine gdg ms.k (ltg (ltg ?_))
            refine iteF (by omega) (iteT (by omega) (iteF (by omega) (iteT (by omega) (iteT (by omega) (iteT (by omega) (bd2_id _))))))
      · refine ok3 I J ⟨5, 0, ?_, fun h1 p => ?_⟩
        · show XR (fX11_tray h X t s m) h X _ _
          unfold fX11_tray
          exact XR.of (by (have z_1 := xTr1 q1.1 q1.2; (repeat' (first | (with_reducible refine ltg ?_) | ((with_reducible refine iteT ?_ ?_); omega) | ((with_reducible refine iteF ?_ ?_); omega) | ((with_reducible refine gdg ?_ ?_); first | with_reducible exact H.k | with_reducible exact z_1 | exact xIn1 q2.1 q2.2 | omega) | ((with_reducible apply nng); first | with_reducible exact H.k | with_reducible exact z_1 | exact xIn1 q2.1 q2.2) | ((with_reducible apply bdg); first | with_reducible exact H.k | with_reducible exact z_1 | exact xIn1 q2.1 q2.2) | ((with_reducible apply bd2g); first | with_reducible exact H.k | with_reducible exact z_1 | exact xIn1 q2.1 q2.2)))); exact bd2_id _) (xr_de H.k (QR.rf h) (rg_lit rfl))
        · obtain ⟨ms, hc, -⟩ := G.q p
          show MR (fX12_tray h1 (X + 121) t s m) h1 X _ _
          unfold fX12_tray
          refine MR.of ?_ (mr_m0n (st := 5) ms (rg_lit rfl))
          refine gdg ms.k (ltg (ltg ?_))
          refine iteF (by omega) (iteT (by omega) (iteF (by omega) (iteT (by omega) (iteF (by omega) (bd2_id _)))))
    · refine ok3 I J ⟨1, 0, ?_, fun h1 p => ?_⟩
      · show XR (fX11_tray h X t s m) h X _ _
        unfold fX11_tray
        exact XR.of (by (have z_1 := xTr1 q1.1 q1.2; (repeat' (first | (with_reducible refine ltg ?_) | ((with_reducible refine iteT ?_ ?_); omega) | ((with_reducible refine iteF ?_ ?_); omega) | ((with_reducible refine gdg ?_ ?_); first | with_reducible exact H.k | with_reducible exact z_1 | exact xIn0 (by omega) | omega) | ((with_reducible apply nng); first | with_reducible exact H.k | with_reducible exact z_1 | exact xIn0 (by omega)) | ((with_reducible apply bdg); first | with_reducible exact H.k | with_reducible exact z_1 | exact xIn0 (by omega)) | ((with_reducible apply bd2g); first | with_reducible exact H.k | with_reducible exact z_1 | exact xIn0 (by omega))))); exact bd2_id _) (xr_de H.k (QR.rf h) (rg_lit rfl))
      · obtain ⟨ms, hc, -⟩ := G.q p
        show MR (fX12_tray h1 (X + 121) t s m) h1 X _ _
        unfold fX12_tray
        refine MR.of ?_ (mr_m0n (st := 1) ms (rg_lit rfl))
        refine gdg ms.k (ltg (ltg ?_))
        refine iteF (by omega) (iteT (by omega) ?_)
        by_cases y : s < 0
        · exact iteT y (bd2_id _)
        · exact iteF y (iteF (by omega) (bd2_id _))
  · refine ok3 I J ⟨1, 0, ?_, fun h1 p => ?_⟩
    · show XR (fX11_tray h X t s m) h X _ _
      unfold fX11_tray
      exact XR.of (by (repeat' (first | (with_reducible refine ltg ?_) | ((with_reducible refine iteT ?_ ?_); omega) | ((with_reducible refine iteF ?_ ?_); omega) | ((with_reducible refine gdg ?_ ?_); first | with_reducible exact H.k | exact xTr0 (by omega) | omega) | ((with_reducible apply nng); first | with_reducible exact H.k | exact xTr0 (by omega)) | ((with_reducible apply bdg); first | with_reducible exact H.k | exact xTr0 (by omega)) | ((with_reducible apply bd2g); first | with_reducible exact H.k | exact xTr0 (by omega)))); exact bd2_id _) (xr_de H.k (QR.rf h) (rg_lit rfl))
    · obtain ⟨ms, hc, -⟩ := G.q p
      show MR (fX12_tray h1 (X + 121) t s m) h1 X _ _
      unfold fX12_tray
      refine MR.of ?_ (mr_m0n (st := 1) ms (rg_lit rfl))
      refine gdg ms.k (ltg (ltg ?_))
      by_cases y : t < 0
      · exact iteT y (bd2_id _)
      · exact iteF y (iteF (by omega) (bd2_id _))

set_option maxHeartbeats 200000 in
theorem gB_cp {h : Hp} {a0 a : Nat} {x y n : Int} {q : Nat} : gB (cpB h a0 x a y n) a q = if y.toNat ≤ q ∧ q < y.toNat + n.toNat then gB h a0 (x.toNat + (q - y.toNat)) else gB h a q := by
  show (va_up (hB h) a (va_cpy (hB h a0) (hB h a) x.toNat y.toNat n.toNat) a q).toInt = _
  have e : va_up (hB h) a (va_cpy (hB h a0) (hB h a) x.toNat y.toNat n.toNat) a = va_cpy (hB h a0) (hB h a) x.toNat y.toNat n.toNat := by unfold va_up; rw [if_pos rfl]
  rw [e]
  unfold va_cpy
  by_cases z : y.toNat ≤ q ∧ q < y.toNat + n.toNat
  · rw [if_pos z, if_pos z]; rfl
  · rw [if_neg z, if_neg z]; rfl
set_option maxHeartbeats 200000 in
theorem on_cp {h : Hp} {a0 a : Nat} {x y n : Int} : On (fun b => b = a) h (cpB h a0 x a y n) :=
  ⟨rfl, rfl, fun b hb => ⟨fun _ => ⟨rfl, rfl, rfl⟩, fun i => ⟨rfl, by
    show (va_up (hB h) a (va_cpy (hB h a0) (hB h a) x.toNat y.toNat n.toNat) b i).toInt = _
    have e : va_up (hB h) a (va_cpy (hB h a0) (hB h a) x.toNat y.toNat n.toNat) b = hB h b := by unfold va_up; rw [if_neg hb]
    rw [e]; rfl, rfl⟩⟩⟩
set_option maxHeartbeats 200000 in
/-- the reference's loop of pour: A and B the first places, from the tail if it rises -/
theorem rPouL {h : Hp} {M n A B : Nat} {a i b j f : Int} (ms : MS h M) (ea : 60 * a + i = (A : Int)) (eb : 60 * b + j = (B : Int)) (a0 : 0 ≤ a) (a4 : a < 4) (b0 : 0 ≤ b) (b4 : b < 4) (i0 : 0 ≤ i) (j0 : 0 ≤ j) (i8 : i + n ≤ 60) (j8 : j + n ≤ 60)
    (hf : (f = 0 ∧ (B ≤ A ∨ A + n ≤ B)) ∨ (f = 1 ∧ (A ≤ B ∨ B + n ≤ A))) :
    ∃ t' : Hp, (On (fun x => x = M + 3) h t' ∧ ∀ q, gB t' (M + 3) q = if B ≤ q ∧ q < B + n then gB h (M + 3) (A + (q - B)) else gB h (M + 3) q) ∧ fX12_pour_b158 M a i b j (n : Int) FU h f 0 = some (1, t') := by
  have e1 : WE (60 * a) := we (by omega) (by omega)
  have e2 : WE (60 * b) := we (by omega) (by omega)
  have e3 : WE (60 * a + i) := we (by omega) (by omega)
  have e4 : WE (60 * b + j) := we (by omega) (by omega)
  have stp : ∀ (fu k s : Nat) (u : Hp) (k158 : Hp → Int → Int → Option (Int × Hp)), k < n → s < n → On (fun x => x = M + 3) h u → fX12_pour_b182 M a i b j (n : Int) k158 u f (k : Int) (s : Int) = k158 (sB u (M + 3) ((B + s : Nat) : Int) (gB u (M + 3) (A + s))) f ((k : Int) + 1) := by
    intro fu k s u k158 hk hs p1
    have mu := ms.on p1 (by omega)
    have e5 : WE ((k : Int) + 1) := we (by omega) (by omega)
    have e6 : WE (60 * a + i + (s : Int)) := we (by omega) (by omega)
    have e7 : WE (60 * b + j + (s : Int)) := we (by omega) (by omega)
    unfold fX12_pour_b182
    rw [e1.e, e2.e, e3.e, e4.e, e6.e, e7.e, ea, eb]
    refine gdg mu.k (nng mu.r774 (gdg (by rw [mu.k3]) (gdg (by rw [mu.k3]; show 0 ≤ _ ∧ _ < (240 : Int); omega) (gdg (by rw [mu.k3]; show 0 ≤ _ ∧ _ < (240 : Int); omega) ?_))))
    rw [lt_d, lt_d, e5.e, show ((A : Int) + (s : Int)).toNat = A + s by omega, show (B : Int) + (s : Int) = ((B + s : Nat) : Int) by omega]
  rcases hf with ⟨f0, hd⟩ | ⟨f1, hd⟩
  · exact fk (S := Hp) (T := Hp) (fun fu v u => fX12_pour_b158 M a i b j (n : Int) fu u f v) (fun u => some (1, u)) n (fun k u => On (fun x => x = M + 3) h u ∧ ∀ q, gB u (M + 3) q = if B ≤ q ∧ q < B + k then gB h (M + 3) (A + (q - B)) else gB h (M + 3) q) _ 0 h (by omega) ⟨On.rf h, fun q => by rw [if_neg (by omega)]⟩ (by omega)
      (fun fu k u hk hI => by
        obtain ⟨p1, p2⟩ := hI
        have er : gB u (M + 3) (A + k) = gB h (M + 3) (A + k) := by rw [p2, if_neg (by omega)]
        have rr : rl (gB h (M + 3) (A + k)) := tj_rl _
        left
        refine ⟨sB u (M + 3) ((B + k : Nat) : Int) (gB u (M + 3) (A + k)), ⟨p1.tr (on_sB u rfl), fun q => ?_⟩, ?_⟩
        · rw [gB_sB, er]
          by_cases y : q = B + k
          · rw [if_pos ⟨rfl, by omega⟩, if_pos (by omega), w64_of rr, y, show A + (B + k - B) = A + k by omega]
          · rw [if_neg (fun z => y (by have := z.2; omega)), p2 q]
            by_cases y2 : B ≤ q ∧ q < B + k
            · rw [if_pos y2, if_pos (by omega)]
            · rw [if_neg y2, if_neg (by omega)]
        · show fX12_pour_b158 M a i b j (n : Int) (fu + 1) u f (k : Int) = fX12_pour_b158 M a i b j (n : Int) fu (sB u (M + 3) ((B + k : Nat) : Int) (gB u (M + 3) (A + k))) f ((k : Int) + 1)
          rw [fX12_pour_b158.eq_2]
          exact iteT (by omega) (iteT f0 (stp fu k k u _ hk hk p1)))
      (fun fu u hI => by
        refine ⟨u, hI, ?_⟩
        show fX12_pour_b158 M a i b j (n : Int) (fu + 1) u f (n : Int) = _
        rw [fX12_pour_b158.eq_2]
        exact iteF (by omega) rfl)
  · exact fk (S := Hp) (T := Hp) (fun fu v u => fX12_pour_b158 M a i b j (n : Int) fu u f v) (fun u => some (1, u)) n (fun k u => On (fun x => x = M + 3) h u ∧ ∀ q, gB u (M + 3) q = if B + (n - k) ≤ q ∧ q < B + n then gB h (M + 3) (A + (q - B)) else gB h (M + 3) q) (fun u => On (fun x => x = M + 3) h u ∧ ∀ q, gB u (M + 3) q = if B ≤ q ∧ q < B + n then gB h (M + 3) (A + (q - B)) else gB h (M + 3) q) 0 h (by omega) ⟨On.rf h, fun q => by rw [if_neg (by omega)]⟩ (by omega)
      (fun fu k u hk hI => by
        obtain ⟨p1, p2⟩ := hI
        have er : gB u (M + 3) (A + (n - 1 - k)) = gB h (M + 3) (A + (n - 1 - k)) := by rw [p2, if_neg (by omega)]
        have rr : rl (gB h (M + 3) (A + (n - 1 - k))) := tj_rl _
        have e8 : WE ((n : Int) - 1) := we (by omega) (by omega)
        have e9 : WE ((n : Int) - 1 - (k : Int)) := we (by omega) (by omega)
        left
        refine ⟨sB u (M + 3) ((B + (n - 1 - k) : Nat) : Int) (gB u (M + 3) (A + (n - 1 - k))), ⟨p1.tr (on_sB u rfl), fun q => ?_⟩, ?_⟩
        · rw [gB_sB, er]
          by_cases y : q = B + (n - 1 - k)
          · rw [if_pos ⟨rfl, by omega⟩, if_pos (by omega), w64_of rr, y, show A + (B + (n - 1 - k) - B) = A + (n - 1 - k) by omega]
          · rw [if_neg (fun z => y (by have := z.2; omega)), p2 q]
            by_cases y2 : B + (n - k) ≤ q ∧ q < B + n
            · rw [if_pos y2, if_pos (by omega)]
            · rw [if_neg y2, if_neg (by omega)]
        · show fX12_pour_b158 M a i b j (n : Int) (fu + 1) u f (k : Int) = fX12_pour_b158 M a i b j (n : Int) fu (sB u (M + 3) ((B + (n - 1 - k) : Nat) : Int) (gB u (M + 3) (A + (n - 1 - k)))) f ((k : Int) + 1)
          rw [fX12_pour_b158.eq_2, e8.e, e9.e, show (n : Int) - 1 - (k : Int) = ((n - 1 - k : Nat) : Int) by omega]
          exact iteT (by omega) (iteF (by omega) (stp fu k (n - 1 - k) u _ hk (by omega) p1)))
      (fun fu u hI => by
        obtain ⟨p1, p2⟩ := hI
        refine ⟨u, ⟨p1, fun q => by rw [p2 q, Nat.sub_self, Nat.add_zero]⟩, ?_⟩
        show fX12_pour_b158 M a i b j (n : Int) (fu + 1) u f (n : Int) = _
        rw [fX12_pour_b158.eq_2]
        exact iteF (by omega) rfl)
set_option maxHeartbeats 200000 in
theorem ok_pour {h : Hp} {X : Nat} {a i b j n : Int} (I : Inv h X) (ri : rg i) (rj : rg j) (rn : rg n) : OK3 (fun h => fX11_pour h X a i b j n) (fun h => fX12_pour h (X + 121) a i b j n) h X := by
  obtain ⟨c, J, i1, i2, i3⟩ := id I
  have H := J.x
  have G := J.m
  by_cases q1 : 0 ≤ a ∧ a < 4
  · by_cases q2 : 0 ≤ b ∧ b < 4
    · obtain ⟨a1, a2, a3, a4, a5, a6, a7⟩ := H.1.tray q1.1 q1.2
      obtain ⟨b1, b2, b3, b4, b5, b6, b7⟩ := H.1.tray q2.1 q2.2
      have Ta := J.tr a.toNat (by omega)
      have Tb := J.tr b.toNat (by omega)
      by_cases q3 : gA h (X + 121 + 2) a.toNat < 0
      · refine ok3 I J ⟨3, 0, ?_, fun h1 p => ?_⟩
        · show XR (fX11_pour h X a i b j n) h X _ _
          unfold fX11_pour
          exact XR.of (by refine bdg (xTr1 q1.1 q1.2) (iteF (by omega) (bdg (xTr1 q2.1 q2.2) (iteF (by omega) (gdg H.k (nng a1 (gdg a2 (gdg a3 (nng a4 (gdg b3 (nng b4 (gdg a5 (bdg (xMis1 Ta a5 q3) (iteF (by omega) (bd2_id _))))))))))))))) (xr_de H.k (QR.rf h) (rg_lit rfl))
        · obtain ⟨ms, hc, -⟩ := G.q p
          have em : ∀ u, gA h1 (X + 121 + 2) u = gA h (X + 121 + 2) u := fun u => p.a (by unfold sc; omega)
          have es : ∀ u, gA h1 (X + 121 + 1) u = gA h (X + 121 + 1) u := fun u => p.a (by unfold sc; omega)
          show MR (fX12_pour h1 (X + 121) a i b j n) h1 X _ _
          unfold fX12_pour
          refine MR.of ?_ (mr_m0n (st := 3) ms (rg_lit rfl))
          refine gdg ms.k (ltg (ltg ?_))
          refine iteF (by omega) (iteT (by omega) (iteF (by omega) (iteT (by omega) (nng (q := X + 121 + 2) ms.r773 (gdg (by show (hK h1 (X + 121 + 2)).1 = 21; rw [ms.k2]) (gdg (by show inA a (hK h1 (X + 121 + 2)).2; rw [ms.k2]; exact ⟨q1.1, q1.2⟩) ?_))))))
          have em' : ∀ u, gA (pI (pI h1 769 (X + 121) 0) 768 (X + 121) 0) (X + 121 + 2) u = gA h (X + 121 + 2) u := em
          have es' : ∀ u, gA (pI (pI h1 769 (X + 121) 0) 768 (X + 121) 0) (X + 121 + 1) u = gA h (X + 121 + 1) u := es
          rw [em']
          exact iteT q3 (bd2_id _)
      · by_cases q4 : gA h (X + 121 + 2) b.toNat < 0
        · refine ok3 I J ⟨3, 0, ?_, fun h1 p => ?_⟩
          · show XR (fX11_pour h X a i b j n) h X _ _
            unfold fX11_pour
            exact XR.of (by refine bdg (xTr1 q1.1 q1.2) (iteF (by omega) (bdg (xTr1 q2.1 q2.2) (iteF (by omega) (gdg H.k (nng a1 (gdg a2 (gdg a3 (nng a4 (gdg b3 (nng b4 (gdg a5 (bdg (xMis0 Ta a5 q3) (iteT rfl (gdg b5 (bdg (xMis1 Tb b5 q4) (iteF (by omega) (bd2_id _)))))))))))))))))) (xr_de H.k (QR.rf h) (rg_lit rfl))
          · obtain ⟨ms, hc, -⟩ := G.q p
            have em : ∀ u, gA h1 (X + 121 + 2) u = gA h (X + 121 + 2) u := fun u => p.a (by unfold sc; omega)
            have es : ∀ u, gA h1 (X + 121 + 1) u = gA h (X + 121 + 1) u := fun u => p.a (by unfold sc; omega)
            show MR (fX12_pour h1 (X + 121) a i b j n) h1 X _ _
            unfold fX12_pour
            refine MR.of ?_ (mr_m0n (st := 3) ms (rg_lit rfl))
            refine gdg ms.k (ltg (ltg ?_))
            refine iteF (by omega) (iteT (by omega) (iteF (by omega) (iteT (by omega) (nng (q := X + 121 + 2) ms.r773 (gdg (by show (hK h1 (X + 121 + 2)).1 = 21; rw [ms.k2]) (gdg (by show inA a (hK h1 (X + 121 + 2)).2; rw [ms.k2]; exact ⟨q1.1, q1.2⟩) ?_))))))
            have em' : ∀ u, gA (pI (pI h1 769 (X + 121) 0) 768 (X + 121) 0) (X + 121 + 2) u = gA h (X + 121 + 2) u := em
            have es' : ∀ u, gA (pI (pI h1 769 (X + 121) 0) 768 (X + 121) 0) (X + 121 + 1) u = gA h (X + 121 + 1) u := es
            rw [em']
            refine iteF q3 (gdg (by show inA b (hK h1 (X + 121 + 2)).2; rw [ms.k2]; exact ⟨q2.1, q2.2⟩) ?_)
            rw [em']
            exact iteT q4 (bd2_id _)
        · have ta := tr_is Ta q3
          have tb := tr_is Tb q4
          by_cases q5 : gA h (X + 121 + 1) a.toNat = gA h (X + 121 + 1) b.toNat
          · by_cases q6 : n < 0
            · refine ok3 I J ⟨6, 0, ?_, fun h1 p => ?_⟩
              · show XR (fX11_pour h X a i b j n) h X _ _
                unfold fX11_pour
                exact XR.of (by refine bdg (xTr1 q1.1 q1.2) (iteF (by omega) (bdg (xTr1 q2.1 q2.2) (iteF (by omega) (gdg H.k (nng a1 (gdg a2 (gdg a3 (nng a4 (gdg b3 (nng b4 (gdg a5 (bdg (xMis0 Ta a5 q3) (iteT rfl (gdg b5 (bdg (xMis0 Tb b5 q4) (iteT rfl (iteT (by omega) (iteT q6 (bd2_id _)))))))))))))))))))) (xr_de H.k (QR.rf h) (rg_lit rfl))
              · obtain ⟨ms, hc, -⟩ := G.q p
                have em : ∀ u, gA h1 (X + 121 + 2) u = gA h (X + 121 + 2) u := fun u => p.a (by unfold sc; omega)
                have es : ∀ u, gA h1 (X + 121 + 1) u = gA h (X + 121 + 1) u := fun u => p.a (by unfold sc; omega)
                show MR (fX12_pour h1 (X + 121) a i b j n) h1 X _ _
                unfold fX12_pour
                refine MR.of ?_ (mr_m0n (st := 6) ms (rg_lit rfl))
                refine gdg ms.k (ltg (ltg ?_))
                refine iteF (by omega) (iteT (by omega) (iteF (by omega) (iteT (by omega) (nng (q := X + 121 + 2) ms.r773 (gdg (by show (hK h1 (X + 121 + 2)).1 = 21; rw [ms.k2]) (gdg (by show inA a (hK h1 (X + 121 + 2)).2; rw [ms.k2]; exact ⟨q1.1, q1.2⟩) ?_))))))
                have em' : ∀ u, gA (pI (pI h1 769 (X + 121) 0) 768 (X + 121) 0) (X + 121 + 2) u = gA h (X + 121 + 2) u := em
                have es' : ∀ u, gA (pI (pI h1 769 (X + 121) 0) 768 (X + 121) 0) (X + 121 + 1) u = gA h (X + 121 + 1) u := es
                rw [em']
                refine iteF q3 (gdg (by show inA b (hK h1 (X + 121 + 2)).2; rw [ms.k2]; exact ⟨q2.1, q2.2⟩) ?_)
                rw [em']
                refine iteF q4 (nng (q := X + 121 + 1) ms.r772 (gdg (by show (hK h1 (X + 121 + 1)).1 = 21; rw [ms.k1]) (gdg (by show inA a (hK h1 (X + 121 + 1)).2; rw [ms.k1]; exact ⟨q1.1, q1.2⟩) (gdg (by show inA b (hK h1 (X + 121 + 1)).2; rw [ms.k1]; exact ⟨q2.1, q2.2⟩) ?_))))
                rw [es', es']
                exact iteT q5 (iteT q6 (bd2_id _))
            · by_cases q7 : 0 ≤ i ∧ 0 ≤ n ∧ i + n ≤ gI h 642 (X + 2 + 2 * a.toNat)
              · by_cases q8 : 0 ≤ j ∧ 0 ≤ n ∧ j + n ≤ gI h 642 (X + 2 + 2 * b.toNat)
                · obtain ⟨m, rfl⟩ := i2n (show 0 ≤ n by omega)
                  obtain ⟨A, eA⟩ := i2n (show 0 ≤ 60 * a + i by omega)
                  obtain ⟨B, eB⟩ := i2n (show 0 ≤ 60 * b + j by omega)
                  obtain ⟨i', ei⟩ := i2n q7.1
                  obtain ⟨j', ej⟩ := i2n q8.1
                  have e2 : fX11_pour h X a i b j (m : Int) = some (1, pI (cpB h (X + 3 + 2 * a.toNat) i (X + 3 + 2 * b.toNat) j (m : Int)) 721 X 0) := by
                    unfold fX11_pour
                    refine bdg (xTr1 q1.1 q1.2) (iteF (by omega) (bdg (xTr1 q2.1 q2.2) (iteF (by omega) (gdg H.k (nng a1 (gdg a2 (gdg a3 (nng a4 (gdg b3 (nng b4 (gdg a5 (bdg (xMis0 Ta a5 q3) (iteT rfl (gdg b5 (bdg (xMis0 Tb b5 q4) (iteT rfl (iteT (by omega) (iteF q6 (bdg (xRun1 a5 ri rn q7) (iteF (by omega) (bdg (xRun1 b5 rj rn q8) (iteF (by omega) (nng a7 (nng b7 (gdg (by rw [a6]) (gdg (by rw [b6]) (gdg (by rw [a6, b6]; show 0 ≤ _ ∧ 0 ≤ _ ∧ 0 ≤ _ ∧ _ ≤ (60 : Int) ∧ _ ≤ (60 : Int); omega) ?_)))))))))))))))))))))))))))
                    rw [lt_d]
                    unfold fX11_allow
                    exact bd2g (gdg H.k rfl) rfl
                  have t5 : 3 + 2 * b.toNat ∈ [3, 5, 7, 9, 124] := by
                    have : b.toNat = 0 ∨ b.toNat = 1 ∨ b.toNat = 2 ∨ b.toNat = 3 := by omega
                    rcases this with z | z | z | z <;> rw [z] <;> decide
                  have oc := on_cp (h := h) (a0 := X + 3 + 2 * a.toNat) (a := X + 3 + 2 * b.toNat) (x := i) (y := j) (n := (m : Int))
                  have p1 : FL [3, 5, 7, 9, 124] [] X h (pI (cpB h (X + 3 + 2 * a.toNat) i (X + 3 + 2 * b.toNat) j (m : Int)) 721 X 0) := (fl_on oc (fun x hx => Or.inr ⟨3 + 2 * b.toNat, t5, by omega⟩)).tr (fl_q (q_pI _ (Or.inl ⟨rfl, rfl⟩)))
                  have x1 : ∀ q, gB (pI (cpB h (X + 3 + 2 * a.toNat) i (X + 3 + 2 * b.toNat) j (m : Int)) 721 X 0) (X + 3 + 2 * b.toNat) q = if j.toNat ≤ q ∧ q < j.toNat + m then gB h (X + 3 + 2 * a.toNat) (i.toNat + (q - j.toNat)) else gB h (X + 3 + 2 * b.toNat) q := fun q => by rw [gB_pI]; exact gB_cp
                  have x2 : ∀ x q, x ≠ X + 3 + 2 * b.toNat → gB (pI (cpB h (X + 3 + 2 * a.toNat) i (X + 3 + 2 * b.toNat) j (m : Int)) 721 X 0) x q = gB h x q := fun x q hx => by rw [gB_pI]; exact oc.b hx
                  have x3 : ∀ x q, gA (pI (cpB h (X + 3 + 2 * a.toNat) i (X + 3 + 2 * b.toNat) j (m : Int)) 721 X 0) x q = gA h x q := fun _ _ => rfl
                  have x4 : gI (pI (cpB h (X + 3 + 2 * a.toNat) i (X + 3 + 2 * b.toNat) j (m : Int)) 721 X 0) 721 X = 0 := gI_pIs (rg_lit rfl)
                  have G1 : CM (pI (cpB h (X + 3 + 2 * a.toNat) i (X + 3 + 2 * b.toNat) j (m : Int)) 721 X 0) X c := G.fl p1 J.z (by decide +kernel)
                  generalize pI (cpB h (X + 3 + 2 * a.toNat) i (X + 3 + 2 * b.toNat) j (m : Int)) 721 X 0 = h1 at e2 p1 x1 x2 x3 x4 G1
                  obtain ⟨ms, hc, -⟩ := G1
                  have hf : ((if i < j then (1 : Int) else 0) = 0 ∧ (B ≤ A ∨ A + m ≤ B)) ∨ ((if i < j then (1 : Int) else 0) = 1 ∧ (A ≤ B ∨ B + m ≤ A)) := by
                    have hab : a < b ∨ a = b ∨ b < a := by omega
                    by_cases y : i < j
                    · right
                      refine ⟨if_pos y, ?_⟩
                      rcases hab with z | z | z <;> omega
                    · left
                      refine ⟨if_neg y, ?_⟩
                      rcases hab with z | z | z <;> omega
                  obtain ⟨h4, ⟨o4, c4⟩, e4⟩ := rPouL (h := m0 h1 X) (M := X + 121) (n := m) (A := A) (B := B) (f := if i < j then 1 else 0) ms eA eB q1.1 q1.2 q2.1 q2.2 q7.1 q8.1 (by omega) (by omega) hf
                  have e3 : fX12_pour h1 (X + 121) a i b j (m : Int) = some (1, h4) := by
                    have em : ∀ u, gA h1 (X + 121 + 2) u = gA h (X + 121 + 2) u := fun u => x3 _ u
                    have es : ∀ u, gA h1 (X + 121 + 1) u = gA h (X + 121 + 1) u := fun u => x3 _ u
                    unfold fX12_pour
                    refine gdg ms.k (ltg (ltg ?_))
                    refine iteF (by omega) (iteT (by omega) (iteF (by omega) (iteT (by omega) (nng (q := X + 121 + 2) ms.r773 (gdg (by show (hK h1 (X + 121 + 2)).1 = 21; rw [ms.k2]) (gdg (by show inA a (hK h1 (X + 121 + 2)).2; rw [ms.k2]; exact ⟨q1.1, q1.2⟩) ?_))))))
                    have em' : ∀ u, gA (pI (pI h1 769 (X + 121) 0) 768 (X + 121) 0) (X + 121 + 2) u = gA h (X + 121 + 2) u := em
                    have es' : ∀ u, gA (pI (pI h1 769 (X + 121) 0) 768 (X + 121) 0) (X + 121 + 1) u = gA h (X + 121 + 1) u := es
                    rw [em']
                    refine iteF q3 (gdg (by show inA b (hK h1 (X + 121 + 2)).2; rw [ms.k2]; exact ⟨q2.1, q2.2⟩) ?_)
                    rw [em']
                    refine iteF q4 (nng (q := X + 121 + 1) ms.r772 (gdg (by show (hK h1 (X + 121 + 1)).1 = 21; rw [ms.k1]) (gdg (by show inA a (hK h1 (X + 121 + 1)).2; rw [ms.k1]; exact ⟨q1.1, q1.2⟩) (gdg (by show inA b (hK h1 (X + 121 + 1)).2; rw [ms.k1]; exact ⟨q2.1, q2.2⟩) ?_))))
                    rw [es', es']
                    refine iteT (by omega) (iteF (by omega) ?_)
                    refine iteF (by omega) (iteF (by omega) (gdg (by show inA a (hK h1 (X + 121 + 2)).2; rw [ms.k2]; exact ⟨q1.1, q1.2⟩) ?_))
                    rw [w64_id (x := i + (m : Int)) (by omega) (by omega), w64_id (x := j + (m : Int)) (by omega) (by omega)]
                    refine iteF (by omega) (gdg (by show inA b (hK h1 (X + 121 + 2)).2; rw [ms.k2]; exact ⟨q2.1, q2.2⟩) ?_)
                    refine iteF (by omega) ?_
                    rw [lt_d]
                    exact e4
                  have p2 : FL [3, 5, 7, 9, 124] [] X h1 h4 := (fl_m (m0_q h1 X)).tr (fl_on o4 (fun x hx => Or.inr ⟨124, by decide, by omega⟩))
                  have s4 : gI h4 768 (X + 121) = 0 := by rw [o4.i (by omega)]; exact m0_s h1 X
                  have z4 : gI h4 721 X = 0 := by rw [o4.i (by omega), (m0_q h1 X).i (by unfold sc; omega) (fun z => by unfold pM at z; omega)]; exact x4
                  have y3 : ∀ u q, u < 4 → gB h4 (X + 3 + 2 * u) q = gB h1 (X + 3 + 2 * u) q := fun u q hu => by rw [o4.b (by omega), (m0_q h1 X).b (by unfold sc; omega)]
                  have y6 : ∀ q, gB (m0 h1 X) (X + 121 + 3) q = gB h (X + 121 + 3) q := fun q => by rw [(m0_q h1 X).b (by unfold sc; omega)]; exact x2 _ q (by omega)
                  refine ⟨1, h1, h4, e2, e3, inv_tr J ((p1.tr p2).mono (by decide) (by decide)) (J.tr.put (t := b.toNat) J.z (p1.tr p2) (fun q => j' ≤ q ∧ q < j' + m) (fun q => gB h (X + 121 + 3) (60 * a.toNat + i' + (q - j'))) ?_ ?_ ?_ ?_ ?_) i2 i3 (z4.trans s4.symm)⟩
                  · intro q q60 e
                    have e : j' ≤ q ∧ q < j' + m := e
                    rw [y3 _ _ (by omega), x1, if_pos (by omega), ta.2.2.2.2 _ (by omega)]
                    exact congrArg _ (by omega)
                  · intro q q60 e
                    have e : ¬ (j' ≤ q ∧ q < j' + m) := e
                    rw [y3 _ _ (by omega), x1, if_neg (by omega)]
                  · intro q q60 e
                    have e : j' ≤ q ∧ q < j' + m := e
                    rw [c4, if_pos (by omega), y6]
                    exact congrArg _ (by omega)
                  · intro t' q u8 q60 e
                    rw [c4, if_neg (fun z => e (by omega) (show j' ≤ q ∧ q < j' + m by omega)), y6]
                  · intro u u8 ne q
                    rw [y3 _ _ u8, x2 _ _ (by omega)]
                · refine ok3 I J ⟨4, 0, ?_, fun h1 p => ?_⟩
                  · show XR (fX11_pour h X a i b j n) h X _ _
                    unfold fX11_pour
                    exact XR.of (by refine bdg (xTr1 q1.1 q1.2) (iteF (by omega) (bdg (xTr1 q2.1 q2.2) (iteF (by omega) (gdg H.k (nng a1 (gdg a2 (gdg a3 (nng a4 (gdg b3 (nng b4 (gdg a5 (bdg (xMis0 Ta a5 q3) (iteT rfl (gdg b5 (bdg (xMis0 Tb b5 q4) (iteT rfl (iteT (by omega) (iteF q6 (bdg (xRun1 a5 ri rn q7) (iteF (by omega) (bdg (xRun0 b5 rj rn q8) (iteT rfl (bd2_id _)))))))))))))))))))))))) (xr_de H.k (QR.rf h) (rg_lit rfl))
                  · obtain ⟨ms, hc, -⟩ := G.q p
                    have em : ∀ u, gA h1 (X + 121 + 2) u = gA h (X + 121 + 2) u := fun u => p.a (by unfold sc; omega)
                    have es : ∀ u, gA h1 (X + 121 + 1) u = gA h (X + 121 + 1) u := fun u => p.a (by unfold sc; omega)
                    show MR (fX12_pour h1 (X + 121) a i b j n) h1 X _ _
                    unfold fX12_pour
                    refine MR.of ?_ (mr_m0n (st := 4) ms (rg_lit rfl))
                    refine gdg ms.k (ltg (ltg ?_))
                    refine iteF (by omega) (iteT (by omega) (iteF (by omega) (iteT (by omega) (nng (q := X + 121 + 2) ms.r773 (gdg (by show (hK h1 (X + 121 + 2)).1 = 21; rw [ms.k2]) (gdg (by show inA a (hK h1 (X + 121 + 2)).2; rw [ms.k2]; exact ⟨q1.1, q1.2⟩) ?_))))))
                    have em' : ∀ u, gA (pI (pI h1 769 (X + 121) 0) 768 (X + 121) 0) (X + 121 + 2) u = gA h (X + 121 + 2) u := em
                    have es' : ∀ u, gA (pI (pI h1 769 (X + 121) 0) 768 (X + 121) 0) (X + 121 + 1) u = gA h (X + 121 + 1) u := es
                    rw [em']
                    refine iteF q3 (gdg (by show inA b (hK h1 (X + 121 + 2)).2; rw [ms.k2]; exact ⟨q2.1, q2.2⟩) ?_)
                    rw [em']
                    refine iteF q4 (nng (q := X + 121 + 1) ms.r772 (gdg (by show (hK h1 (X + 121 + 1)).1 = 21; rw [ms.k1]) (gdg (by show inA a (hK h1 (X + 121 + 1)).2; rw [ms.k1]; exact ⟨q1.1, q1.2⟩) (gdg (by show inA b (hK h1 (X + 121 + 1)).2; rw [ms.k1]; exact ⟨q2.1, q2.2⟩) ?_))))
                    rw [es', es']
                    refine iteT (by omega) (iteF (by omega) ?_)
                    refine iteF (by omega) ?_
                    by_cases y : j < 0
                    · exact iteT y (bd2_id _)
                    · unfold rg at ri rj rn
                      refine iteF y (gdg (by show inA a (hK h1 (X + 121 + 2)).2; rw [ms.k2]; exact ⟨q1.1, q1.2⟩) ?_)
                      rw [w64_id (x := i + n) (by omega) (by omega), w64_id (x := j + n) (by omega) (by omega)]
                      refine iteF (by omega) (gdg (by show inA b (hK h1 (X + 121 + 2)).2; rw [ms.k2]; exact ⟨q2.1, q2.2⟩) ?_)
                      exact iteT (by omega) (bd2_id _)
              · refine ok3 I J ⟨4, 0, ?_, fun h1 p => ?_⟩
                · show XR (fX11_pour h X a i b j n) h X _ _
                  unfold fX11_pour
                  exact XR.of (by refine bdg (xTr1 q1.1 q1.2) (iteF (by omega) (bdg (xTr1 q2.1 q2.2) (iteF (by omega) (gdg H.k (nng a1 (gdg a2 (gdg a3 (nng a4 (gdg b3 (nng b4 (gdg a5 (bdg (xMis0 Ta a5 q3) (iteT rfl (gdg b5 (bdg (xMis0 Tb b5 q4) (iteT rfl (iteT (by omega) (iteF q6 (bdg (xRun0 a5 ri rn q7) (iteT rfl (bd2_id _)))))))))))))))))))))) (xr_de H.k (QR.rf h) (rg_lit rfl))
                · obtain ⟨ms, hc, -⟩ := G.q p
                  have em : ∀ u, gA h1 (X + 121 + 2) u = gA h (X + 121 + 2) u := fun u => p.a (by unfold sc; omega)
                  have es : ∀ u, gA h1 (X + 121 + 1) u = gA h (X + 121 + 1) u := fun u => p.a (by unfold sc; omega)
                  show MR (fX12_pour h1 (X + 121) a i b j n) h1 X _ _
                  unfold fX12_pour
                  refine MR.of ?_ (mr_m0n (st := 4) ms (rg_lit rfl))
                  refine gdg ms.k (ltg (ltg ?_))
                  refine iteF (by omega) (iteT (by omega) (iteF (by omega) (iteT (by omega) (nng (q := X + 121 + 2) ms.r773 (gdg (by show (hK h1 (X + 121 + 2)).1 = 21; rw [ms.k2]) (gdg (by show inA a (hK h1 (X + 121 + 2)).2; rw [ms.k2]; exact ⟨q1.1, q1.2⟩) ?_))))))
                  have em' : ∀ u, gA (pI (pI h1 769 (X + 121) 0) 768 (X + 121) 0) (X + 121 + 2) u = gA h (X + 121 + 2) u := em
                  have es' : ∀ u, gA (pI (pI h1 769 (X + 121) 0) 768 (X + 121) 0) (X + 121 + 1) u = gA h (X + 121 + 1) u := es
                  rw [em']
                  refine iteF q3 (gdg (by show inA b (hK h1 (X + 121 + 2)).2; rw [ms.k2]; exact ⟨q2.1, q2.2⟩) ?_)
                  rw [em']
                  refine iteF q4 (nng (q := X + 121 + 1) ms.r772 (gdg (by show (hK h1 (X + 121 + 1)).1 = 21; rw [ms.k1]) (gdg (by show inA a (hK h1 (X + 121 + 1)).2; rw [ms.k1]; exact ⟨q1.1, q1.2⟩) (gdg (by show inA b (hK h1 (X + 121 + 1)).2; rw [ms.k1]; exact ⟨q2.1, q2.2⟩) ?_))))
                  rw [es', es']
                  refine iteT (by omega) (iteF (by omega) ?_)
                  by_cases y : i < 0
                  · exact iteT y (bd2_id _)
                  · refine iteF y ?_
                    by_cases y2 : j < 0
                    · exact iteT y2 (bd2_id _)
                    · unfold rg at ri rj rn
                      refine iteF y2 (gdg (by show inA a (hK h1 (X + 121 + 2)).2; rw [ms.k2]; exact ⟨q1.1, q1.2⟩) ?_)
                      rw [w64_id (x := i + n) (by omega) (by omega)]
                      exact iteT (by omega) (bd2_id _)
          · refine ok3 I J ⟨11, 0, ?_, fun h1 p => ?_⟩
            · show XR (fX11_pour h X a i b j n) h X _ _
              unfold fX11_pour
              exact XR.of (by refine bdg (xTr1 q1.1 q1.2) (iteF (by omega) (bdg (xTr1 q2.1 q2.2) (iteF (by omega) (gdg H.k (nng a1 (gdg a2 (gdg a3 (nng a4 (gdg b3 (nng b4 (gdg a5 (bdg (xMis0 Ta a5 q3) (iteT rfl (gdg b5 (bdg (xMis0 Tb b5 q4) (iteT rfl (iteF (by omega) (bd2_id _))))))))))))))))))) (xr_de H.k (QR.rf h) (rg_lit rfl))
            · obtain ⟨ms, hc, -⟩ := G.q p
              have em : ∀ u, gA h1 (X + 121 + 2) u = gA h (X + 121 + 2) u := fun u => p.a (by unfold sc; omega)
              have es : ∀ u, gA h1 (X + 121 + 1) u = gA h (X + 121 + 1) u := fun u => p.a (by unfold sc; omega)
              show MR (fX12_pour h1 (X + 121) a i b j n) h1 X _ _
              unfold fX12_pour
              refine MR.of ?_ (mr_m0n (st := 11) ms (rg_lit rfl))
              refine gdg ms.k (ltg (ltg ?_))
              refine iteF (by omega) (iteT (by omega) (iteF (by omega) (iteT (by omega) (nng (q := X + 121 + 2) ms.r773 (gdg (by show (hK h1 (X + 121 + 2)).1 = 21; rw [ms.k2]) (gdg (by show inA a (hK h1 (X + 121 + 2)).2; rw [ms.k2]; exact ⟨q1.1, q1.2⟩) ?_))))))
              have em' : ∀ u, gA (pI (pI h1 769 (X + 121) 0) 768 (X + 121) 0) (X + 121 + 2) u = gA h (X + 121 + 2) u := em
              have es' : ∀ u, gA (pI (pI h1 769 (X + 121) 0) 768 (X + 121) 0) (X + 121 + 1) u = gA h (X + 121 + 1) u := es
              rw [em']
              refine iteF q3 (gdg (by show inA b (hK h1 (X + 121 + 2)).2; rw [ms.k2]; exact ⟨q2.1, q2.2⟩) ?_)
              rw [em']
              refine iteF q4 (nng (q := X + 121 + 1) ms.r772 (gdg (by show (hK h1 (X + 121 + 1)).1 = 21; rw [ms.k1]) (gdg (by show inA a (hK h1 (X + 121 + 1)).2; rw [ms.k1]; exact ⟨q1.1, q1.2⟩) (gdg (by show inA b (hK h1 (X + 121 + 1)).2; rw [ms.k1]; exact ⟨q2.1, q2.2⟩) ?_))))
              rw [es', es']
              exact iteF q5 (bd2_id _)
    · refine ok3 I J ⟨1, 0, ?_, fun h1 p => ?_⟩
      · show XR (fX11_pour h X a i b j n) h X _ _
        unfold fX11_pour
        exact XR.of (by (have z_1 := xTr1 q1.1 q1.2; (repeat' (first | (with_reducible refine ltg ?_) | ((with_reducible refine iteT ?_ ?_); omega) | ((with_reducible refine iteF ?_ ?_); omega) | ((with_reducible refine gdg ?_ ?_); first | with_reducible exact H.k | with_reducible exact z_1 | exact xTr0 (by omega) | omega) | ((with_reducible apply nng); first | with_reducible exact H.k | with_reducible exact z_1 | exact xTr0 (by omega)) | ((with_reducible apply bdg); first | with_reducible exact H.k | with_reducible exact z_1 | exact xTr0 (by omega)) | ((with_reducible apply bd2g); first | with_reducible exact H.k | with_reducible exact z_1 | exact xTr0 (by omega))))); exact bd2_id _) (xr_de H.k (QR.rf h) (rg_lit rfl))
      · obtain ⟨ms, hc, -⟩ := G.q p
        have em : ∀ u, gA h1 (X + 121 + 2) u = gA h (X + 121 + 2) u := fun u => p.a (by unfold sc; omega)
        have es : ∀ u, gA h1 (X + 121 + 1) u = gA h (X + 121 + 1) u := fun u => p.a (by unfold sc; omega)
        show MR (fX12_pour h1 (X + 121) a i b j n) h1 X _ _
        unfold fX12_pour
        refine MR.of ?_ (mr_m0n (st := 1) ms (rg_lit rfl))
        refine gdg ms.k (ltg (ltg ?_))
        refine iteF (by omega) (iteT (by omega) ?_)
        by_cases y : b < 0
        · exact iteT y (bd2_id _)
        · exact iteF y (iteF (by omega) (bd2_id _))
  · refine ok3 I J ⟨1, 0, ?_, fun h1 p => ?_⟩
    · show XR (fX11_pour h X a i b j n) h X _ _
      unfold fX11_pour
      exact XR.of (by (repeat' (first | (with_reducible refine ltg ?_) | ((with_reducible refine iteT ?_ ?_); omega) | ((with_reducible refine iteF ?_ ?_); omega) | ((with_reducible refine gdg ?_ ?_); first | with_reducible exact H.k | exact xTr0 (by omega) | omega) | ((with_reducible apply nng); first | with_reducible exact H.k | exact xTr0 (by omega)) | ((with_reducible apply bdg); first | with_reducible exact H.k | exact xTr0 (by omega)) | ((with_reducible apply bd2g); first | with_reducible exact H.k | exact xTr0 (by omega)))); exact bd2_id _) (xr_de H.k (QR.rf h) (rg_lit rfl))
    · obtain ⟨ms, hc, -⟩ := G.q p
      have em : ∀ u, gA h1 (X + 121 + 2) u = gA h (X + 121 + 2) u := fun u => p.a (by unfold sc; omega)
      have es : ∀ u, gA h1 (X + 121 + 1) u = gA h (X + 121 + 1) u := fun u => p.a (by unfold sc; omega)
      show MR (fX12_pour h1 (X + 121) a i b j n) h1 X _ _
      unfold fX12_pour
      refine MR.of ?_ (mr_m0n (st := 1) ms (rg_lit rfl))
      refine gdg ms.k (ltg (ltg ?_))
      by_cases y : a < 0
      · exact iteT y (bd2_id _)
      · exact iteF y (iteF (by omega) (bd2_id _))
