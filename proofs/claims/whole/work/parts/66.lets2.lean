/-! STATE: couples, beside (written by wip/whole/g66.py) -/
set_option maxHeartbeats 200000 in
theorem ok_couples {h : Hp} {X : Nat} {t n : Int} (I : Inv h X) : OK3 (fun h => fX11_couples h X t n) (fun h => fX12_couples h (X + 121) t n) h X := by
  obtain ⟨c, J, i1, i2, i3⟩ := id I
  have H := J.x
  have G := J.m
  have w := H.wf
  by_cases q1 : 0 ≤ t ∧ t < 4
  · have T := J.tr t.toNat (by omega)
    by_cases q2 : gA h (X + 121 + 2) t.toNat < 0
    · refine ok3 I J ⟨3, -1, ?_, fun h1 p => ?_⟩
      · show XR (fX11_couples h X t n) h X _ _
        unfold fX11_couples
        refine XR.of ?_ (xr_re (st := 3) H.k (QR.rf h) (rg_lit rfl))
        exact gdg H.k (bdg (xRow3 H T q1.1 q1.2 q2) (iteF (by omega) (bd2_id _)))
      · obtain ⟨ms, hc, -⟩ := G.q p
        have em : ∀ u, gA (pI (pI h1 769 (X + 121) 0) 768 (X + 121) 0) (X + 121 + 2) u = gA h (X + 121 + 2) u := fun u => p.a (by unfold sc; omega)
        have eb : ∀ u, gB (pI (pI h1 769 (X + 121) 0) 768 (X + 121) 0) (X + 121 + 3) u = gB h (X + 121 + 3) u := fun u => p.b (by unfold sc; omega)
        have hc' : gA (pI (pI h1 769 (X + 121) 0) 768 (X + 121) 0) (X + 121 + 5) = c := hc
        have k2 : hK (pI (pI h1 769 (X + 121) 0) 768 (X + 121) 0) (X + 121 + 2) = (21, 4) := ms.k2
        show MR (fX12_couples h1 (X + 121) t n) h1 X _ _
        unfold fX12_couples
        refine MR.of ?_ (mr_m0r (st := 3) ms (rg_lit rfl))
        refine gdg ms.k (ltg (ltg ?_))
        refine bdg (rTr1 q1.1 q1.2) (iteF (by omega) (nng (q := X + 121 + 2) ms.r773 (gdg (by rw [k2]) (gdg (by rw [k2]; exact ⟨q1.1, q1.2⟩) ?_))))
        rw [em]
        exact iteT q2 (bd2_id _)
    · have ti := tr_is T q2
      by_cases q3 : gA h (X + 121 + 2) t.toNat < n
      · refine ok3 I J ⟨4, -1, ?_, fun h1 p => ?_⟩
        · show XR (fX11_couples h X t n) h X _ _
          unfold fX11_couples
          refine XR.of ?_ (xr_re (st := 4) H.k (QR.rf h) (rg_lit rfl))
          exact gdg H.k (bdg (xRow4 H T q1.1 q1.2 q2 q3) (iteF (by omega) (bd2_id _)))
        · obtain ⟨ms, hc, -⟩ := G.q p
          have em : ∀ u, gA (pI (pI h1 769 (X + 121) 0) 768 (X + 121) 0) (X + 121 + 2) u = gA h (X + 121 + 2) u := fun u => p.a (by unfold sc; omega)
          have eb : ∀ u, gB (pI (pI h1 769 (X + 121) 0) 768 (X + 121) 0) (X + 121 + 3) u = gB h (X + 121 + 3) u := fun u => p.b (by unfold sc; omega)
          have hc' : gA (pI (pI h1 769 (X + 121) 0) 768 (X + 121) 0) (X + 121 + 5) = c := hc
          have k2 : hK (pI (pI h1 769 (X + 121) 0) 768 (X + 121) 0) (X + 121 + 2) = (21, 4) := ms.k2
          show MR (fX12_couples h1 (X + 121) t n) h1 X _ _
          unfold fX12_couples
          refine MR.of ?_ (mr_m0r (st := 4) ms (rg_lit rfl))
          refine gdg ms.k (ltg (ltg ?_))
          refine bdg (rTr1 q1.1 q1.2) (iteF (by omega) (nng (q := X + 121 + 2) ms.r773 (gdg (by rw [k2]) (gdg (by rw [k2]; exact ⟨q1.1, q1.2⟩) ?_))))
          rw [em]
          refine iteF q2 (gdg (by rw [k2]; exact ⟨q1.1, q1.2⟩) ?_)
          exact iteT q3 (bd2_id _)
      · by_cases q4 : 1 ≤ n ∧ n ≤ 6
        · cases q5 : glB h X t.toNat n.toNat 0 with
          | false =>
            refine ok3 I J ⟨5, -1, ?_, fun h1 p => ?_⟩
            · show XR (fX11_couples h X t n) h X _ _
              unfold fX11_couples
              refine XR.of ?_ (xr_re (st := 5) H.k (QR.rf h) (rg_lit rfl))
              exact gdg H.k (bdg (xRow5 H T q1.1 q1.2 q2 q3 (Or.inr ⟨q4, q5⟩)) (iteF (by omega) (bd2_id _)))
            · obtain ⟨ms, hc, -⟩ := G.q p
              have em : ∀ u, gA (pI (pI h1 769 (X + 121) 0) 768 (X + 121) 0) (X + 121 + 2) u = gA h (X + 121 + 2) u := fun u => p.a (by unfold sc; omega)
              have eb : ∀ u, gB (pI (pI h1 769 (X + 121) 0) 768 (X + 121) 0) (X + 121 + 3) u = gB h (X + 121 + 3) u := fun u => p.b (by unfold sc; omega)
              have hc' : gA (pI (pI h1 769 (X + 121) 0) 768 (X + 121) 0) (X + 121 + 5) = c := hc
              have k2 : hK (pI (pI h1 769 (X + 121) 0) 768 (X + 121) 0) (X + 121 + 2) = (21, 4) := ms.k2
              show MR (fX12_couples h1 (X + 121) t n) h1 X _ _
              unfold fX12_couples
              refine MR.of ?_ (mr_st2 (st := 5) (rg_lit rfl))
              refine gdg ms.k (ltg (ltg ?_))
              refine bdg (rTr1 q1.1 q1.2) (iteF (by omega) (nng (q := X + 121 + 2) ms.r773 (gdg (by rw [k2]) (gdg (by rw [k2]; exact ⟨q1.1, q1.2⟩) ?_))))
              rw [em]
              refine iteF q2 (gdg (by rw [k2]; exact ⟨q1.1, q1.2⟩) ?_)
              refine iteF q3 (bdg (rIn1 q4.1 q4.2) (iteF (by omega) ?_))
              have rw1 := rWhy (h := h) (n := n.toNat) (lo := 0) (h' := pI (pI h1 769 (X + 121) 0) 768 (X + 121) 0) (t := t) ms eb q1.1 q1.2 (by omega)
              rw [q5, show ((n.toNat : Nat) : Int) = n by omega, if_neg (by decide)] at rw1
              have z0 : gI (pI (pI (pI h1 769 (X + 121) 0) 768 (X + 121) 0) 768 (X + 121) 5) 768 (X + 121) = 5 := gI_pIs (rg_lit rfl)
              refine bdg rw1 ?_
              rw [lt_d, z0]
              exact iteT (by omega) rfl
          | true =>
            obtain ⟨m, rfl⟩ := i2n (show 0 ≤ n by omega)
            have q5 : glB h X t.toNat m 0 = true := q5
            obtain ⟨t1, ⟨⟨u1, u2⟩, u3⟩, u4⟩ := xCC H
            have hg : ∀ k, k < m → 0 ≤ gB h (X + 121 + 3) (60 * t.toNat + k) ∧ gB h (X + 121 + 3) (60 * t.toNat + k) ≤ 26 := fun k hk => glB_t q5 hk
            refine ok3 I J ⟨0, ppS (fun k => ccS c (gB h (X + 121 + 3) (60 * t.toNat + k)) 26) m, ?_, fun h1 p => ?_⟩
            · have xl := fg (S := Int) (fun fu v s => fX11_couples_b31 X t (m : Int) fu t1 s v) (fun s => some (s, pI t1 721 X 0)) m (fun i => ppS (fun k => ccS c (gB h (X + 121 + 3) (60 * t.toNat + k)) 26) i) (by omega)
                (fun fu i hi => by
                  have e5 : WE ((i : Int) + 1) := we (by omega) (by omega)
                  have hb := hg i hi
                  have wg : WE (gB h (X + 121 + 3) (60 * t.toNat + i)) := we (by omega) (by omega)
                  obtain ⟨a1, a2, a3, a4, a5, a6, a7⟩ := u2.1.tray q1.1 q1.2
                  have z642 : gI t1 642 (X + 2 + 2 * t.toNat) = gI h 642 (X + 2 + 2 * t.toNat) := u1.i (by omega)
                  have xg := xGet (h := t1) (p := (i : Int)) a5 a7 a6 (by omega) (by rw [z642]; omega) (by omega)
                  rw [u1.b (by omega), show ((i : Int)).toNat = i from rfl, ti.2.2.2.2 i (by omega)] at xg
                  have kc : hK t1 (X + 101) = (21, 27) := u2.1.k101
                  show fX11_couples_b31 X t (m : Int) (fu + 1) t1 (ppS (fun k => ccS c (gB h (X + 121 + 3) (60 * t.toNat + k)) 26) i) (i : Int) = fX11_couples_b31 X t (m : Int) fu t1 (w64 (ppS (fun k => ccS c (gB h (X + 121 + 3) (60 * t.toNat + k)) 26) i * ccS c (gB h (X + 121 + 3) (60 * t.toNat + i)) 26)) ((i : Int) + 1)
                  rw [fX11_couples_b31.eq_2]
                  refine iteT (by omega) (gdg u2.k (nng u2.1.r712 (nng a1 (gdg a2 (gdg a3 (nng a4 (gdg a5 (bdg xg ?_))))))))
                  rw [wg.e]
                  refine gdg (by rw [kc]) (gdg (by rw [kc]; show 0 ≤ _ ∧ _ < (27 : Int); omega) ?_)
                  have e9 := u3 (gB h (X + 121 + 3) (60 * t.toNat + i)).toNat (by omega)
                  rw [show (((gB h (X + 121 + 3) (60 * t.toNat + i)).toNat : Nat) : Int) = gB h (X + 121 + 3) (60 * t.toNat + i) by omega] at e9
                  rw [lt_d, lt_d, e5.e, e9])
                (fun fu => by
                  show fX11_couples_b31 X t (m : Int) (fu + 1) t1 _ (m : Int) = _
                  rw [fX11_couples_b31.eq_2]
                  exact iteF (by omega) (gdg u2.k rfl)) 0 (by omega)
              refine ⟨pI t1 721 X 0, ?_, (q_on u1 (fun b hb => by rw [hb]; unfold sc; omega)).tr (q_pI t1 (Or.inl ⟨rfl, rfl⟩)), gI_pIs (rg_lit rfl)⟩
              show fX11_couples h X t (m : Int) = _
              unfold fX11_couples
              exact gdg H.k (bdg (xRow0 H T q1.1 q1.2 q2 q3 q4 q5) (iteT rfl (bdg u4 xl)))
            · obtain ⟨ms, hc, -⟩ := G.q p
              have em : ∀ u, gA (pI (pI h1 769 (X + 121) 0) 768 (X + 121) 0) (X + 121 + 2) u = gA h (X + 121 + 2) u := fun u => p.a (by unfold sc; omega)
              have eb : ∀ u, gB (pI (pI h1 769 (X + 121) 0) 768 (X + 121) 0) (X + 121 + 3) u = gB h (X + 121 + 3) u := fun u => p.b (by unfold sc; omega)
              have k2 : hK (pI (pI h1 769 (X + 121) 0) 768 (X + 121) 0) (X + 121 + 2) = (21, 4) := ms.k2
              have z0 : gI (pI (pI (pI h1 769 (X + 121) 0) 768 (X + 121) 0) 768 (X + 121) 0) 768 (X + 121) = 0 := gI_pIs (rg_lit rfl)
              have rw1 := rWhy (h := h) (n := m) (lo := 0) (h' := pI (pI h1 769 (X + 121) 0) 768 (X + 121) 0) (t := t) ms eb q1.1 q1.2 (by omega)
              rw [q5, if_pos rfl] at rw1
              have eb3 : ∀ u, gB (pI (pI (pI h1 769 (X + 121) 0) 768 (X + 121) 0) 768 (X + 121) 0) (X + 121 + 3) u = gB h (X + 121 + 3) u := eb
              have ms3 : MS (pI (pI (pI h1 769 (X + 121) 0) 768 (X + 121) 0) 768 (X + 121) 0) (X + 121) := ms
              have hc3 : gA (pI (pI (pI h1 769 (X + 121) 0) 768 (X + 121) 0) 768 (X + 121) 0) (X + 121 + 5) = c := hc
              show MR (fX12_couples h1 (X + 121) t (m : Int)) h1 X _ _
              unfold fX12_couples
              refine MR.of ?_ (mr_st2 (st := 0) (rg_lit rfl))
              refine gdg ms.k (ltg (ltg ?_))
              refine bdg (rTr1 q1.1 q1.2) (iteF (by omega) (nng (q := X + 121 + 2) ms.r773 (gdg (by rw [k2]) (gdg (by rw [k2]; exact ⟨q1.1, q1.2⟩) ?_))))
              rw [em]
              refine iteF q2 (gdg (by rw [k2]; exact ⟨q1.1, q1.2⟩) (iteF q3 (bdg (rIn1 q4.1 q4.2) (iteF (by omega) (bdg rw1 ?_)))))
              rw [lt_d, z0]
              refine iteF (by omega) ?_
              generalize pI (pI (pI h1 769 (X + 121) 0) 768 (X + 121) 0) 768 (X + 121) 0 = h3 at eb3 ms3 hc3
              have := fg (S := Int) (fun fu v s => fX12_couples_b104 (X + 121) t (m : Int) fu h3 s v) (fun s => some (s, h3)) m (fun i => ppS (fun k => ccS c (gB h (X + 121 + 3) (60 * t.toNat + k)) 26) i) (by omega)
                (fun fu i hi => by
                  have hb := hg i hi
                  have rn := rNum (i := (i : Int)) ms3 q1.1 q1.2 (by omega) (by omega)
                  rw [eb3, show ((i : Int)).toNat = i from rfl] at rn
                  show fX12_couples_b104 (X + 121) t (m : Int) (fu + 1) h3 _ (i : Int) = fX12_couples_b104 (X + 121) t (m : Int) fu h3 (w64 (ppS (fun k => ccS c (gB h (X + 121 + 3) (60 * t.toNat + k)) 26) i * ccS c (gB h (X + 121 + 3) (60 * t.toNat + i)) 26)) ((i : Int) + 1)
                  rw [fX12_couples_b104.eq_2]
                  exact iteT (by omega) (rCC ms3 hc3 w rn hb.1 hb.2 (by omega) _))
                (fun fu => by
                  show fX12_couples_b104 (X + 121) t (m : Int) (fu + 1) h3 _ (m : Int) = _
                  rw [fX12_couples_b104.eq_2]
                  exact iteF (by omega) rfl) 0 (by omega)
              exact this
        · refine ok3 I J ⟨5, -1, ?_, fun h1 p => ?_⟩
          · show XR (fX11_couples h X t n) h X _ _
            unfold fX11_couples
            refine XR.of ?_ (xr_re (st := 5) H.k (QR.rf h) (rg_lit rfl))
            exact gdg H.k (bdg (xRow5 H T q1.1 q1.2 q2 q3 (Or.inl q4)) (iteF (by omega) (bd2_id _)))
          · obtain ⟨ms, hc, -⟩ := G.q p
            have em : ∀ u, gA (pI (pI h1 769 (X + 121) 0) 768 (X + 121) 0) (X + 121 + 2) u = gA h (X + 121 + 2) u := fun u => p.a (by unfold sc; omega)
            have eb : ∀ u, gB (pI (pI h1 769 (X + 121) 0) 768 (X + 121) 0) (X + 121 + 3) u = gB h (X + 121 + 3) u := fun u => p.b (by unfold sc; omega)
            have hc' : gA (pI (pI h1 769 (X + 121) 0) 768 (X + 121) 0) (X + 121 + 5) = c := hc
            have k2 : hK (pI (pI h1 769 (X + 121) 0) 768 (X + 121) 0) (X + 121 + 2) = (21, 4) := ms.k2
            show MR (fX12_couples h1 (X + 121) t n) h1 X _ _
            unfold fX12_couples
            refine MR.of ?_ (mr_m0r (st := 5) ms (rg_lit rfl))
            refine gdg ms.k (ltg (ltg ?_))
            refine bdg (rTr1 q1.1 q1.2) (iteF (by omega) (nng (q := X + 121 + 2) ms.r773 (gdg (by rw [k2]) (gdg (by rw [k2]; exact ⟨q1.1, q1.2⟩) ?_))))
            rw [em]
            refine iteF q2 (gdg (by rw [k2]; exact ⟨q1.1, q1.2⟩) ?_)
            exact iteF q3 (bdg (rIn0 (by omega)) (iteT rfl (bd2_id _)))
  · refine ok3 I J ⟨1, -1, ?_, fun h1 p => ?_⟩
    · show XR (fX11_couples h X t n) h X _ _
      unfold fX11_couples
      refine XR.of ?_ (xr_re (st := 1) H.k (QR.rf h) (rg_lit rfl))
      exact gdg H.k (bdg (xRow1 (by omega)) (iteF (by omega) (bd2_id _)))
    · obtain ⟨ms, hc, -⟩ := G.q p
      have em : ∀ u, gA (pI (pI h1 769 (X + 121) 0) 768 (X + 121) 0) (X + 121 + 2) u = gA h (X + 121 + 2) u := fun u => p.a (by unfold sc; omega)
      have eb : ∀ u, gB (pI (pI h1 769 (X + 121) 0) 768 (X + 121) 0) (X + 121 + 3) u = gB h (X + 121 + 3) u := fun u => p.b (by unfold sc; omega)
      have hc' : gA (pI (pI h1 769 (X + 121) 0) 768 (X + 121) 0) (X + 121 + 5) = c := hc
      have k2 : hK (pI (pI h1 769 (X + 121) 0) 768 (X + 121) 0) (X + 121 + 2) = (21, 4) := ms.k2
      show MR (fX12_couples h1 (X + 121) t n) h1 X _ _
      unfold fX12_couples
      refine MR.of ?_ (mr_m0r (st := 1) ms (rg_lit rfl))
      refine gdg ms.k (ltg (ltg ?_))
      exact bdg (rTr0 (by omega)) (iteT rfl (bd2_id _))

set_option maxHeartbeats 200000 in
theorem ok_beside {h : Hp} {X : Nat} {t n s f : Int} (I : Inv h X) : OK3 (fun h => fX11_beside h X t n s f) (fun h => fX12_beside h (X + 121) t n s f) h X := by
  obtain ⟨c, J, i1, i2, i3⟩ := id I
  have H := J.x
  have G := J.m
  have w := H.wf
  by_cases q1 : 0 ≤ t ∧ t < 4
  · have T := J.tr t.toNat (by omega)
    by_cases q0 : okS c s
    · have s8 := ns_lt w q0
      by_cases q2 : gA h (X + 121 + 2) t.toNat < 0
      · refine ok3 I J ⟨3, -1, ?_, fun h1 p => ?_⟩
        · show XR (fX11_beside h X t n s f) h X _ _
          unfold fX11_beside
          refine XR.of ?_ (xr_re (st := 3) H.k (QR.rf h) (rg_lit rfl))
          exact bdg (xTr1 q1.1 q1.2) (iteF (by omega) (gdg H.k (bdg (xSn1 H q0.1 q0.2) (iteF (by omega) (bdg (xRow3 H T q1.1 q1.2 q2) (iteF (by omega) (by unfold fX11_beside_b61; exact iteF (by omega) (gdg H.k (bd2_id _)))))))))
        · obtain ⟨ms, hc, -⟩ := G.q p
          have em : ∀ u, gA (pI (pI h1 769 (X + 121) 0) 768 (X + 121) 0) (X + 121 + 2) u = gA h (X + 121 + 2) u := fun u => p.a (by unfold sc; omega)
          have eb : ∀ u, gB (pI (pI h1 769 (X + 121) 0) 768 (X + 121) 0) (X + 121 + 3) u = gB h (X + 121 + 3) u := fun u => p.b (by unfold sc; omega)
          have hc' : gA (pI (pI h1 769 (X + 121) 0) 768 (X + 121) 0) (X + 121 + 5) = c := hc
          have k2 : hK (pI (pI h1 769 (X + 121) 0) 768 (X + 121) 0) (X + 121 + 2) = (21, 4) := ms.k2
          show MR (fX12_beside h1 (X + 121) t n s f) h1 X _ _
          unfold fX12_beside
          refine MR.of ?_ (mr_m0r (st := 3) ms (rg_lit rfl))
          refine gdg ms.k (ltg (ltg ?_))
          refine bdg (rTr1 q1.1 q1.2) (iteF (by omega) (nng (q := X + 121 + 5) ms.r788 (gdg ms.k5 ?_)))
          rw [hc']
          refine bdg (rSn1 w q0.1 q0.2) (iteF (by omega) (nng (q := X + 121 + 2) ms.r773 (gdg (by rw [k2]) (gdg (by rw [k2]; exact ⟨q1.1, q1.2⟩) ?_))))
          rw [em]
          exact iteT q2 (bd2_id _)
      · have ti := tr_is T q2
        by_cases q3 : gA h (X + 121 + 2) t.toNat < n
        · refine ok3 I J ⟨4, -1, ?_, fun h1 p => ?_⟩
          · show XR (fX11_beside h X t n s f) h X _ _
            unfold fX11_beside
            refine XR.of ?_ (xr_re (st := 4) H.k (QR.rf h) (rg_lit rfl))
            exact bdg (xTr1 q1.1 q1.2) (iteF (by omega) (gdg H.k (bdg (xSn1 H q0.1 q0.2) (iteF (by omega) (bdg (xRow4 H T q1.1 q1.2 q2 q3) (iteF (by omega) (by unfold fX11_beside_b61; exact iteF (by omega) (gdg H.k (bd2_id _)))))))))
          · obtain ⟨ms, hc, -⟩ := G.q p
            have em : ∀ u, gA (pI (pI h1 769 (X + 121) 0) 768 (X + 121) 0) (X + 121 + 2) u = gA h (X + 121 + 2) u := fun u => p.a (by unfold sc; omega)
            have eb : ∀ u, gB (pI (pI h1 769 (X + 121) 0) 768 (X + 121) 0) (X + 121 + 3) u = gB h (X + 121 + 3) u := fun u => p.b (by unfold sc; omega)
            have hc' : gA (pI (pI h1 769 (X + 121) 0) 768 (X + 121) 0) (X + 121 + 5) = c := hc
            have k2 : hK (pI (pI h1 769 (X + 121) 0) 768 (X + 121) 0) (X + 121 + 2) = (21, 4) := ms.k2
            show MR (fX12_beside h1 (X + 121) t n s f) h1 X _ _
            unfold fX12_beside
            refine MR.of ?_ (mr_m0r (st := 4) ms (rg_lit rfl))
            refine gdg ms.k (ltg (ltg ?_))
            refine bdg (rTr1 q1.1 q1.2) (iteF (by omega) (nng (q := X + 121 + 5) ms.r788 (gdg ms.k5 ?_)))
            rw [hc']
            refine bdg (rSn1 w q0.1 q0.2) (iteF (by omega) (nng (q := X + 121 + 2) ms.r773 (gdg (by rw [k2]) (gdg (by rw [k2]; exact ⟨q1.1, q1.2⟩) ?_))))
            rw [em]
            refine iteF q2 (gdg (by rw [k2]; exact ⟨q1.1, q1.2⟩) ?_)
            exact iteT q3 (bd2_id _)
        · by_cases q4 : 1 ≤ n ∧ n ≤ 8
          · by_cases q6 : 0 ≤ f ∧ f ≤ 15
            · cases q5 : glB h X t.toNat n.toNat 0 with
              | false =>
                refine ok3 I J ⟨5, -1, ?_, fun h1 p => ?_⟩
                · show XR (fX11_beside h X t n s f) h X _ _
                  unfold fX11_beside
                  refine XR.of ?_ (xr_re (st := 5) H.k (QR.rf h) (rg_lit rfl))
                  exact bdg (xTr1 q1.1 q1.2) (iteF (by omega) (gdg H.k (bdg (xSn1 H q0.1 q0.2) (iteF (by omega) (bdg (xRow5 H T q1.1 q1.2 q2 q3 (Or.inr ⟨q4, q5⟩)) (iteF (by omega) (by unfold fX11_beside_b61; exact iteF (by omega) (gdg H.k (bd2_id _)))))))))
                · obtain ⟨ms, hc, -⟩ := G.q p
                  have em : ∀ u, gA (pI (pI h1 769 (X + 121) 0) 768 (X + 121) 0) (X + 121 + 2) u = gA h (X + 121 + 2) u := fun u => p.a (by unfold sc; omega)
                  have eb : ∀ u, gB (pI (pI h1 769 (X + 121) 0) 768 (X + 121) 0) (X + 121 + 3) u = gB h (X + 121 + 3) u := fun u => p.b (by unfold sc; omega)
                  have hc' : gA (pI (pI h1 769 (X + 121) 0) 768 (X + 121) 0) (X + 121 + 5) = c := hc
                  have k2 : hK (pI (pI h1 769 (X + 121) 0) 768 (X + 121) 0) (X + 121 + 2) = (21, 4) := ms.k2
                  show MR (fX12_beside h1 (X + 121) t n s f) h1 X _ _
                  unfold fX12_beside
                  refine MR.of ?_ (mr_st2 (st := 5) (rg_lit rfl))
                  refine gdg ms.k (ltg (ltg ?_))
                  refine bdg (rTr1 q1.1 q1.2) (iteF (by omega) (nng (q := X + 121 + 5) ms.r788 (gdg ms.k5 ?_)))
                  rw [hc']
                  refine bdg (rSn1 w q0.1 q0.2) (iteF (by omega) (nng (q := X + 121 + 2) ms.r773 (gdg (by rw [k2]) (gdg (by rw [k2]; exact ⟨q1.1, q1.2⟩) ?_))))
                  rw [em]
                  refine iteF q2 (gdg (by rw [k2]; exact ⟨q1.1, q1.2⟩) ?_)
                  refine iteF q3 (bdg (rIn1 q4.1 q4.2) (iteF (by omega) (bdg (rIn1 q6.1 q6.2) (iteF (by omega) ?_))))
                  have rw1 := rWhy (h := h) (n := n.toNat) (lo := 0) (h' := pI (pI h1 769 (X + 121) 0) 768 (X + 121) 0) (t := t) ms eb q1.1 q1.2 (by omega)
                  rw [q5, show ((n.toNat : Nat) : Int) = n by omega, if_neg (by decide)] at rw1
                  have z0 : gI (pI (pI (pI h1 769 (X + 121) 0) 768 (X + 121) 0) 768 (X + 121) 5) 768 (X + 121) = 5 := gI_pIs (rg_lit rfl)
                  refine bdg rw1 ?_
                  rw [lt_d, z0]
                  exact iteT (by omega) rfl
              | true =>
                obtain ⟨m, rfl⟩ := i2n (show 0 ≤ n by omega)
                have q5 : glB h X t.toNat m 0 = true := q5
                have hg : ∀ k, k < m → 0 ≤ gB h (X + 121 + 3) (60 * t.toNat + k) ∧ gB h (X + 121 + 3) (60 * t.toNat + k) ≤ 26 := fun k hk => glB_t q5 hk
                have ol : ∀ a g, othS c a g < 2 ^ 27 := fun a g => by unfold othS; exact bs_lt 27 _
                refine ok3 I J ⟨0, ppS (fun k => bcN 27 (othS c (sL c s (f + (k : Int))) (gB h (X + 121 + 3) (60 * t.toNat + k)))) m, ?_, fun h1 p => ?_⟩
                · obtain ⟨S, s1, s2, s3, s4, s5, s6, s7, s9⟩ := H.snd q0
                  obtain ⟨R, r1, r2, r3⟩ := H.law
                  obtain ⟨a1, a2, a3, a4, a5, a6, a7⟩ := H.1.tray q1.1 q1.2
                  have xl := fg (S := Int) (fun fu v u => fX11_beside_b80 X t (m : Int) s f fu h u v) (fun u => some (u, pI h 721 X 0)) m (fun i => ppS (fun k => bcN 27 (othS c (sL c s (f + (k : Int))) (gB h (X + 121 + 3) (60 * t.toNat + k)))) i) (by omega)
                    (fun fu i hi => by
                      have e5 : WE ((i : Int) + 1) := we (by omega) (by omega)
                      have e6 : WE (f + (i : Int)) := we (by omega) (by omega)
                      have hb := hg i hi
                      have wg : WE (gB h (X + 121 + 3) (60 * t.toNat + i)) := we (by omega) (by omega)
                      have xg := xGet (h := h) (p := (i : Int)) a5 a7 a6 (by omega) (by omega) (by omega)
                      rw [show ((i : Int)).toNat = i from rfl, ti.2.2.2.2 i (by omega)] at xg
                      have o1 := ol (sL c s (f + (i : Int))) (gB h (X + 121 + 3) (60 * t.toNat + i))
                      have xb := xBits (s := othS c (sL c s (f + (i : Int))) (gB h (X + 121 + 3) (60 * t.toNat + i))) (by omega)
                      rw [bcN_lt o1 (by omega)] at xb
                      show fX11_beside_b80 X t (m : Int) s f (fu + 1) h (ppS (fun k => bcN 27 (othS c (sL c s (f + (k : Int))) (gB h (X + 121 + 3) (60 * t.toNat + k)))) i) (i : Int) = fX11_beside_b80 X t (m : Int) s f fu h (w64 ((ppS (fun k => bcN 27 (othS c (sL c s (f + (k : Int))) (gB h (X + 121 + 3) (60 * t.toNat + k)))) i) * bcN 27 (othS c (sL c s (f + (i : Int))) (gB h (X + 121 + 3) (60 * t.toNat + i))))) ((i : Int) + 1)
                      rw [fX11_beside_b80.eq_2, e6.e]
                      refine iteT (by omega) (gdg H.k (nng s1 (gdg s2 (nng s3 (gdg s4 (gdg s5 (nng s6 (gdg s7.v.k (bdg (xAt s7.v _) (nng r1 (nng a1 (gdg a2 (gdg a3 (nng a4 (gdg a5 (bdg xg ?_))))))))))))))))
                      rw [wg.e]
                      refine gdg r2 (bdg (xPar r3 w) (bdg xb ?_))
                      rw [lt_d, lt_d, e5.e])
                    (fun fu => by
                      show fX11_beside_b80 X t (m : Int) s f (fu + 1) h _ (m : Int) = _
                      rw [fX11_beside_b80.eq_2]
                      exact iteF (by omega) (gdg H.k rfl)) 0 (by omega)
                  refine ⟨pI h 721 X 0, ?_, q_pI h (Or.inl ⟨rfl, rfl⟩), gI_pIs (rg_lit rfl)⟩
                  show fX11_beside h X t (m : Int) s f = _
                  unfold fX11_beside
                  refine bdg (xTr1 q1.1 q1.2) (iteF (by omega) (gdg H.k (bdg (xSn1 H q0.1 q0.2) (iteF (by omega) (bdg (xRow0 H T q1.1 q1.2 q2 q3 q4 q5) (iteT rfl (bdg (xIn1 q6.1 q6.2) (iteF (by omega) ?_))))))))
                  unfold fX11_beside_b61
                  exact iteT rfl xl
                · obtain ⟨ms, hc, -⟩ := G.q p
                  have em : ∀ u, gA (pI (pI h1 769 (X + 121) 0) 768 (X + 121) 0) (X + 121 + 2) u = gA h (X + 121 + 2) u := fun u => p.a (by unfold sc; omega)
                  have eb : ∀ u, gB (pI (pI h1 769 (X + 121) 0) 768 (X + 121) 0) (X + 121 + 3) u = gB h (X + 121 + 3) u := fun u => p.b (by unfold sc; omega)
                  have hc' : gA (pI (pI h1 769 (X + 121) 0) 768 (X + 121) 0) (X + 121 + 5) = c := hc
                  have k2 : hK (pI (pI h1 769 (X + 121) 0) 768 (X + 121) 0) (X + 121 + 2) = (21, 4) := ms.k2
                  have z0 : gI (pI (pI (pI h1 769 (X + 121) 0) 768 (X + 121) 0) 768 (X + 121) 0) 768 (X + 121) = 0 := gI_pIs (rg_lit rfl)
                  have rw1 := rWhy (h := h) (n := m) (lo := 0) (h' := pI (pI h1 769 (X + 121) 0) 768 (X + 121) 0) (t := t) ms eb q1.1 q1.2 (by omega)
                  rw [q5, if_pos rfl] at rw1
                  have eb3 : ∀ u, gB (pI (pI (pI h1 769 (X + 121) 0) 768 (X + 121) 0) 768 (X + 121) 0) (X + 121 + 3) u = gB h (X + 121 + 3) u := eb
                  have ms3 : MS (pI (pI (pI h1 769 (X + 121) 0) 768 (X + 121) 0) 768 (X + 121) 0) (X + 121) := ms
                  have hc3 : gA (pI (pI (pI h1 769 (X + 121) 0) 768 (X + 121) 0) 768 (X + 121) 0) (X + 121 + 5) = c := hc
                  show MR (fX12_beside h1 (X + 121) t (m : Int) s f) h1 X _ _
                  unfold fX12_beside
                  refine MR.of ?_ (mr_st2 (st := 0) (rg_lit rfl))
                  refine gdg ms.k (ltg (ltg ?_))
                  refine bdg (rTr1 q1.1 q1.2) (iteF (by omega) (nng (q := X + 121 + 5) ms.r788 (gdg ms.k5 ?_)))
                  rw [hc']
                  refine bdg (rSn1 w q0.1 q0.2) (iteF (by omega) (nng (q := X + 121 + 2) ms.r773 (gdg (by rw [k2]) (gdg (by rw [k2]; exact ⟨q1.1, q1.2⟩) ?_))))
                  rw [em]
                  refine iteF q2 (gdg (by rw [k2]; exact ⟨q1.1, q1.2⟩) ?_)
                  refine iteF q3 (bdg (rIn1 q4.1 q4.2) (iteF (by omega) (bdg (rIn1 q6.1 q6.2) (iteF (by omega) (bdg rw1 ?_)))))
                  rw [lt_d, z0]
                  refine iteF (by omega) ?_
                  generalize pI (pI (pI h1 769 (X + 121) 0) 768 (X + 121) 0) 768 (X + 121) 0 = h3 at eb3 ms3 hc3
                  have := fg (S := Int) (fun fu v u => fX12_beside_b133 (X + 121) t (m : Int) s f fu h3 u v) (fun u => some (u, h3)) m (fun i => ppS (fun k => bcN 27 (othS c (sL c s (f + (k : Int))) (gB h (X + 121 + 3) (60 * t.toNat + k)))) i) (by omega)
                    (fun fu i hi => by
                      have e5 : WE ((i : Int) + 1) := we (by omega) (by omega)
                      have e6 : WE (f + (i : Int)) := we (by omega) (by omega)
                      have hb := hg i hi
                      have wg : WE (gB h (X + 121 + 3) (60 * t.toNat + i)) := we (by omega) (by omega)
                      have rn := rNum (i := (i : Int)) ms3 q1.1 q1.2 (by omega) (by omega)
                      rw [eb3, show ((i : Int)).toNat = i from rfl] at rn
                      have o1 := ol (sL c s (f + (i : Int))) (gB h (X + 121 + 3) (60 * t.toNat + i))
                      show fX12_beside_b133 (X + 121) t (m : Int) s f (fu + 1) h3 (ppS (fun k => bcN 27 (othS c (sL c s (f + (k : Int))) (gB h (X + 121 + 3) (60 * t.toNat + k)))) i) (i : Int) = fX12_beside_b133 (X + 121) t (m : Int) s f fu h3 (w64 ((ppS (fun k => bcN 27 (othS c (sL c s (f + (k : Int))) (gB h (X + 121 + 3) (60 * t.toNat + k)))) i) * bcN 27 (othS c (sL c s (f + (i : Int))) (gB h (X + 121 + 3) (60 * t.toNat + i))))) ((i : Int) + 1)
                      rw [fX12_beside_b133.eq_2, e6.e]
                      refine iteT (by omega) (gdg ms3.k (nng ms3.r788 (gdg ms3.k5 ?_)))
                      rw [hc3]
                      refine bdg (rSndO w q0.1 s8 (by unfold rg; omega)) (bdg rn (gdg ms3.k5 ?_))
                      rw [wg.e]
                      refine bdg (rOth w) ?_
                      generalize othS c (sL c s (f + (i : Int))) (gB h (X + 121 + 3) (60 * t.toNat + i)) = O at o1 ⊢
                      generalize (ppS (fun k => bcN 27 (othS c (sL c s (f + (k : Int))) (gB h (X + 121 + 3) (60 * t.toNat + k)))) i) = P
                      have key := fg (S := Int) (fun fu2 v u => fX12_beside_b169 (X + 121) t (m : Int) s f (fX12_beside_b133 (X + 121) t (m : Int) s f fu) fu2 h3 P (i : Int) (O : Int) u v) (fun u => fX12_beside_b133 (X + 121) t (m : Int) s f fu h3 (w64 (P * u)) ((i : Int) + 1)) 27 (fun k => bcN k O) (by omega)
                        (fun fu2 k hk => by
                          have e7 : WE ((k : Int) + 1) := we (by omega) (by omega)
                          have bb := bcN_bd k O
                          have es : bcN (k + 1) O = bcN k O + (if O.testBit k then 1 else 0) := rfl
                          show fX12_beside_b169 (X + 121) t (m : Int) s f _ (fu2 + 1) h3 P (i : Int) (O : Int) (bcN k O) (k : Int) = fX12_beside_b169 (X + 121) t (m : Int) s f _ fu2 h3 P (i : Int) (O : Int) (bcN (k + 1) O) ((k : Int) + 1)
                          rw [fX12_beside_b169.eq_2, es, bit_n (by omega) (by omega)]
                          refine iteT (by omega) ?_
                          rw [lt_d, lt_d, e7.e, w32_id (x := bcN k O + (if O.testBit k then 1 else 0)) (by split <;> omega) (by split <;> omega)])
                        (fun fu2 => by
                          show fX12_beside_b169 (X + 121) t (m : Int) s f _ (fu2 + 1) h3 P (i : Int) (O : Int) (bcN 27 O) ((27 : Nat) : Int) = _
                          rw [fX12_beside_b169.eq_2]
                          refine iteF (by omega) ?_
                          rw [lt_d, lt_d, e5.e]) 0 (by omega)
                      exact key)
                    (fun fu => by
                      show fX12_beside_b133 (X + 121) t (m : Int) s f (fu + 1) h3 _ (m : Int) = _
                      rw [fX12_beside_b133.eq_2]
                      exact iteF (by omega) rfl) 0 (by omega)
                  exact this
            · cases q5 : glB h X t.toNat n.toNat 0 with
              | false =>
                refine ok3 I J ⟨5, -1, ?_, fun h1 p => ?_⟩
                · show XR (fX11_beside h X t n s f) h X _ _
                  unfold fX11_beside
                  refine XR.of ?_ (xr_re (st := 5) H.k (QR.rf h) (rg_lit rfl))
                  exact bdg (xTr1 q1.1 q1.2) (iteF (by omega) (gdg H.k (bdg (xSn1 H q0.1 q0.2) (iteF (by omega) (bdg (xRow5 H T q1.1 q1.2 q2 q3 (Or.inr ⟨q4, q5⟩)) (iteF (by omega) (by unfold fX11_beside_b61; exact iteF (by omega) (gdg H.k (bd2_id _)))))))))
                · obtain ⟨ms, hc, -⟩ := G.q p
                  have em : ∀ u, gA (pI (pI h1 769 (X + 121) 0) 768 (X + 121) 0) (X + 121 + 2) u = gA h (X + 121 + 2) u := fun u => p.a (by unfold sc; omega)
                  have eb : ∀ u, gB (pI (pI h1 769 (X + 121) 0) 768 (X + 121) 0) (X + 121 + 3) u = gB h (X + 121 + 3) u := fun u => p.b (by unfold sc; omega)
                  have hc' : gA (pI (pI h1 769 (X + 121) 0) 768 (X + 121) 0) (X + 121 + 5) = c := hc
                  have k2 : hK (pI (pI h1 769 (X + 121) 0) 768 (X + 121) 0) (X + 121 + 2) = (21, 4) := ms.k2
                  show MR (fX12_beside h1 (X + 121) t n s f) h1 X _ _
                  unfold fX12_beside
                  refine MR.of ?_ (mr_m0r (st := 5) ms (rg_lit rfl))
                  refine gdg ms.k (ltg (ltg ?_))
                  refine bdg (rTr1 q1.1 q1.2) (iteF (by omega) (nng (q := X + 121 + 5) ms.r788 (gdg ms.k5 ?_)))
                  rw [hc']
                  refine bdg (rSn1 w q0.1 q0.2) (iteF (by omega) (nng (q := X + 121 + 2) ms.r773 (gdg (by rw [k2]) (gdg (by rw [k2]; exact ⟨q1.1, q1.2⟩) ?_))))
                  rw [em]
                  refine iteF q2 (gdg (by rw [k2]; exact ⟨q1.1, q1.2⟩) ?_)
                  exact iteF q3 (bdg (rIn1 q4.1 q4.2) (iteF (by omega) (bdg (rIn0 (by omega)) (iteT rfl (bd2_id _)))))
              | true =>
                refine ok3 I J ⟨5, -1, ?_, fun h1 p => ?_⟩
                · show XR (fX11_beside h X t n s f) h X _ _
                  unfold fX11_beside
                  refine XR.of ?_ (xr_re (st := 5) H.k (QR.rf h) (rg_lit rfl))
                  exact bdg (xTr1 q1.1 q1.2) (iteF (by omega) (gdg H.k (bdg (xSn1 H q0.1 q0.2) (iteF (by omega) (bdg (xRow0 H T q1.1 q1.2 q2 q3 q4 q5) (iteT rfl (bdg (xIn0 (by omega)) (iteT rfl (by unfold fX11_beside_b61; exact iteF (by omega) (gdg H.k (bd2_id _)))))))))))
                · obtain ⟨ms, hc, -⟩ := G.q p
                  have em : ∀ u, gA (pI (pI h1 769 (X + 121) 0) 768 (X + 121) 0) (X + 121 + 2) u = gA h (X + 121 + 2) u := fun u => p.a (by unfold sc; omega)
                  have eb : ∀ u, gB (pI (pI h1 769 (X + 121) 0) 768 (X + 121) 0) (X + 121 + 3) u = gB h (X + 121 + 3) u := fun u => p.b (by unfold sc; omega)
                  have hc' : gA (pI (pI h1 769 (X + 121) 0) 768 (X + 121) 0) (X + 121 + 5) = c := hc
                  have k2 : hK (pI (pI h1 769 (X + 121) 0) 768 (X + 121) 0) (X + 121 + 2) = (21, 4) := ms.k2
                  show MR (fX12_beside h1 (X + 121) t n s f) h1 X _ _
                  unfold fX12_beside
                  refine MR.of ?_ (mr_m0r (st := 5) ms (rg_lit rfl))
                  refine gdg ms.k (ltg (ltg ?_))
                  refine bdg (rTr1 q1.1 q1.2) (iteF (by omega) (nng (q := X + 121 + 5) ms.r788 (gdg ms.k5 ?_)))
                  rw [hc']
                  refine bdg (rSn1 w q0.1 q0.2) (iteF (by omega) (nng (q := X + 121 + 2) ms.r773 (gdg (by rw [k2]) (gdg (by rw [k2]; exact ⟨q1.1, q1.2⟩) ?_))))
                  rw [em]
                  refine iteF q2 (gdg (by rw [k2]; exact ⟨q1.1, q1.2⟩) ?_)
                  exact iteF q3 (bdg (rIn1 q4.1 q4.2) (iteF (by omega) (bdg (rIn0 (by omega)) (iteT rfl (bd2_id _)))))
          · refine ok3 I J ⟨5, -1, ?_, fun h1 p => ?_⟩
            · show XR (fX11_beside h X t n s f) h X _ _
              unfold fX11_beside
              refine XR.of ?_ (xr_re (st := 5) H.k (QR.rf h) (rg_lit rfl))
              exact bdg (xTr1 q1.1 q1.2) (iteF (by omega) (gdg H.k (bdg (xSn1 H q0.1 q0.2) (iteF (by omega) (bdg (xRow5 H T q1.1 q1.2 q2 q3 (Or.inl q4)) (iteF (by omega) (by unfold fX11_beside_b61; exact iteF (by omega) (gdg H.k (bd2_id _)))))))))
            · obtain ⟨ms, hc, -⟩ := G.q p
              have em : ∀ u, gA (pI (pI h1 769 (X + 121) 0) 768 (X + 121) 0) (X + 121 + 2) u = gA h (X + 121 + 2) u := fun u => p.a (by unfold sc; omega)
              have eb : ∀ u, gB (pI (pI h1 769 (X + 121) 0) 768 (X + 121) 0) (X + 121 + 3) u = gB h (X + 121 + 3) u := fun u => p.b (by unfold sc; omega)
              have hc' : gA (pI (pI h1 769 (X + 121) 0) 768 (X + 121) 0) (X + 121 + 5) = c := hc
              have k2 : hK (pI (pI h1 769 (X + 121) 0) 768 (X + 121) 0) (X + 121 + 2) = (21, 4) := ms.k2
              show MR (fX12_beside h1 (X + 121) t n s f) h1 X _ _
              unfold fX12_beside
              refine MR.of ?_ (mr_m0r (st := 5) ms (rg_lit rfl))
              refine gdg ms.k (ltg (ltg ?_))
              refine bdg (rTr1 q1.1 q1.2) (iteF (by omega) (nng (q := X + 121 + 5) ms.r788 (gdg ms.k5 ?_)))
              rw [hc']
              refine bdg (rSn1 w q0.1 q0.2) (iteF (by omega) (nng (q := X + 121 + 2) ms.r773 (gdg (by rw [k2]) (gdg (by rw [k2]; exact ⟨q1.1, q1.2⟩) ?_))))
              rw [em]
              refine iteF q2 (gdg (by rw [k2]; exact ⟨q1.1, q1.2⟩) ?_)
              exact iteF q3 (bdg (rIn0 (by omega)) (iteT rfl (bd2_id _)))
    · refine ok3 I J ⟨2, -1, ?_, fun h1 p => ?_⟩
      · show XR (fX11_beside h X t n s f) h X _ _
        unfold fX11_beside
        refine XR.of ?_ (xr_re (st := 2) H.k (QR.rf h) (rg_lit rfl))
        exact bdg (xTr1 q1.1 q1.2) (iteF (by omega) (gdg H.k (bdg (xSn0 H (noS q0)) (iteT rfl (bd2_id _)))))
      · obtain ⟨ms, hc, -⟩ := G.q p
        have em : ∀ u, gA (pI (pI h1 769 (X + 121) 0) 768 (X + 121) 0) (X + 121 + 2) u = gA h (X + 121 + 2) u := fun u => p.a (by unfold sc; omega)
        have eb : ∀ u, gB (pI (pI h1 769 (X + 121) 0) 768 (X + 121) 0) (X + 121 + 3) u = gB h (X + 121 + 3) u := fun u => p.b (by unfold sc; omega)
        have hc' : gA (pI (pI h1 769 (X + 121) 0) 768 (X + 121) 0) (X + 121 + 5) = c := hc
        have k2 : hK (pI (pI h1 769 (X + 121) 0) 768 (X + 121) 0) (X + 121 + 2) = (21, 4) := ms.k2
        show MR (fX12_beside h1 (X + 121) t n s f) h1 X _ _
        unfold fX12_beside
        refine MR.of ?_ (mr_m0r (st := 2) ms (rg_lit rfl))
        refine gdg ms.k (ltg (ltg ?_))
        refine bdg (rTr1 q1.1 q1.2) (iteF (by omega) (nng (q := X + 121 + 5) ms.r788 (gdg ms.k5 ?_)))
        rw [hc']
        exact bdg (rSn0 w (noS q0)) (iteT rfl (bd2_id _))
  · refine ok3 I J ⟨1, -1, ?_, fun h1 p => ?_⟩
    · show XR (fX11_beside h X t n s f) h X _ _
      unfold fX11_beside
      refine XR.of ?_ (xr_re (st := 1) H.k (QR.rf h) (rg_lit rfl))
      exact bdg (xTr0 (by omega)) (iteT rfl (gdg H.k (bd2_id _)))
    · obtain ⟨ms, hc, -⟩ := G.q p
      have em : ∀ u, gA (pI (pI h1 769 (X + 121) 0) 768 (X + 121) 0) (X + 121 + 2) u = gA h (X + 121 + 2) u := fun u => p.a (by unfold sc; omega)
      have eb : ∀ u, gB (pI (pI h1 769 (X + 121) 0) 768 (X + 121) 0) (X + 121 + 3) u = gB h (X + 121 + 3) u := fun u => p.b (by unfold sc; omega)
      have hc' : gA (pI (pI h1 769 (X + 121) 0) 768 (X + 121) 0) (X + 121 + 5) = c := hc
      have k2 : hK (pI (pI h1 769 (X + 121) 0) 768 (X + 121) 0) (X + 121 + 2) = (21, 4) := ms.k2
      show MR (fX12_beside h1 (X + 121) t n s f) h1 X _ _
      unfold fX12_beside
      refine MR.of ?_ (mr_m0r (st := 1) ms (rg_lit rfl))
      refine gdg ms.k (ltg (ltg ?_))
      exact bdg (rTr0 (by omega)) (iteT rfl (bd2_id _))
